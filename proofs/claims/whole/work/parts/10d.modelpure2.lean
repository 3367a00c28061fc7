/-! the model's packing, floods, images: pure lemmas -/
theorem allN_mf {A : Nat → Bool} {k n : Nat} (h : allN A k n = false) : ∀ m, allN A k (n + m) = false
  | 0 => h
  | m + 1 => by
    show (allN A k (n + m) && A (k + (n + m))) = false
    rw [allN_mf h m]; rfl
theorem allN_at {A : Nat → Bool} {k : Nat} : ∀ {n : Nat}, allN A k n = true → ∀ j, j < n → A (k + j) = true
  | 0, _, j, hj => by omega
  | n + 1, h, j, hj => by
    rw [allN, Bool.and_eq_true] at h
    rcases Nat.lt_or_ge j n with q | q
    · exact allN_at h.1 j q
    · rw [show j = n by omega]; exact h.2
theorem allN_sub {A : Nat → Bool} {k m : Nat} : ∀ {n : Nat}, m ≤ n → allN A k n = true → allN A k m = true
  | 0, h, h2 => by rw [show m = 0 by omega]; rfl
  | n + 1, h, h2 => by
    rcases Nat.lt_or_ge m (n + 1) with q | q
    · rw [allN, Bool.and_eq_true] at h2
      exact allN_sub (by omega) h2.1
    · rw [show m = n + 1 by omega]; exact h2
theorem fit0 (A : Nat → Bool) (k : Nat) : fitP A k 0 = A k := by
  unfold fitP
  rw [decide_eq_true (by omega)]
  show (true && (allN A k 0 && A (k + 0))) = A k
  simp [allN]
theorem al_down {k L : Nat} (h : k / 7 ^ (L + 1) * 7 ^ (L + 1) = k) : k / 7 ^ L * 7 ^ L = k := by
  have hd : 7 ^ L ∣ k := by
    rw [← h, Nat.pow_succ]
    exact ⟨k / (7 ^ L * 7) * 7, by rw [Nat.mul_comm (7 ^ L) 7, ← Nat.mul_assoc, Nat.mul_comm (7 ^ L)]⟩
  exact Nat.div_mul_cancel hd
theorem fit_down {A : Nat → Bool} {k L : Nat} (h : fitP A k (L + 1) = true) : fitP A k L = true := by
  unfold fitP at h ⊢
  rw [Bool.and_eq_true, decide_eq_true_eq] at h
  rw [Bool.and_eq_true, decide_eq_true_eq]
  exact ⟨al_down h.1, allN_sub (Nat.pow_le_pow_right (by decide) (Nat.le_succ L)) h.2⟩
theorem fit_le {A : Nat → Bool} {k L : Nat} (h : fitP A k L = true) : ∀ {m : Nat}, m ≤ L → fitP A k m = true := by
  induction L with
  | zero => intro m hm; rw [show m = 0 by omega]; exact h
  | succ L ih =>
    intro m hm
    rcases Nat.lt_or_ge m (L + 1) with q | q
    · exact ih (fit_down h) (by omega)
    · rw [show m = L + 1 by omega]; exact h
theorem lev_at {A : Nat → Bool} {k L : Nat} (hL : L ≤ 4) (h : fitP A k L = true) (hn : ∀ m, L + 1 ≤ m → m ≤ 4 → fitP A k m = false) : A k = true ∧ lev A k = L :=
  ⟨by rw [← fit0 A k]; exact fit_le h (Nat.zero_le _), lev_is hL (fun j hj => fit_le h (by omega)) (fun q => hn (L + 1) (Nat.le_refl _) (by omega))⟩
theorem pk_skip {A : Nat → Bool} {i : Nat} (h1 : pkT A i ≤ i) (h2 : A i = true) : ∀ n, i + 1 + n ≤ i + 7 ^ lev A i → pkT A (i + 1 + n) = i + 7 ^ lev A i ∧ fb_ct (isP A) (i + 1 + n) = fb_ct (isP A) i + 1
  | 0, _ => ⟨(isP_t h1 h2).2, by rw [Nat.add_zero, fb_ct_succ, (isP_t h1 h2).1]; rfl⟩
  | n + 1, h => by
    obtain ⟨q1, q2⟩ := pk_skip h1 h2 n (by omega)
    have f := isP_f1 (A := A) (i := i + 1 + n) (by rw [q1]; omega)
    refine ⟨f.2.trans q1, ?_⟩
    show fb_ct (isP A) (i + 1 + n + 1) = _
    rw [fb_ct_succ, f.1, q2]
    rfl
theorem pk_jump {A : Nat → Bool} {i : Nat} (h1 : pkT A i ≤ i) (h2 : A i = true) : pkT A (i + 7 ^ lev A i) = i + 7 ^ lev A i ∧ fb_ct (isP A) (i + 7 ^ lev A i) = fb_ct (isP A) i + 1 ∧ ∀ k, i < k → k < i + 7 ^ lev A i → isP A k = false := by
  have hp : 0 < 7 ^ lev A i := Nat.pow_pos (by decide)
  have e : i + 1 + (7 ^ lev A i - 1) = i + 7 ^ lev A i := by omega
  have q := pk_skip h1 h2 (7 ^ lev A i - 1) (by omega)
  rw [e] at q
  refine ⟨q.1, q.2, fun k hk hk2 => ?_⟩
  have z := (pk_skip h1 h2 (k - (i + 1)) (by omega)).1
  rw [show i + 1 + (k - (i + 1)) = k by omega] at z
  exact (isP_f1 (by rw [z]; exact hk2)).1
/-- what the model's rows of patches hold when the keys below i are packed -/
def pkM (A : Nat → Bool) (i : Nat) (f8 f9 : Nat → Int32) : Prop := ∀ k, k < i → isP A k = true → f8 (fb_ct (isP A) k) = nI k ∧ f9 (fb_ct (isP A) k) = nI (lev A k)
theorem pkM_skip {A : Nat → Bool} {i : Nat} {f8 f9 : Nat → Int32} (h : pkM A i f8 f9) (hi : isP A i = false) : pkM A (i + 1) f8 f9 := by
  intro k hk hp
  rcases Nat.lt_or_ge k i with q | q
  · exact h k q hp
  · rw [show k = i by omega, hi] at hp; cases hp
theorem ct_lt {p : Nat → Bool} {k n : Nat} (hk : k < n) (hp : p k = true) : fb_ct p k < fb_ct p n := by
  have h1 := fb_ct_mono p (show k + 1 ≤ n by omega)
  rw [fb_ct_succ, hp] at h1
  simp at h1
  omega
theorem pkM_put {A : Nat → Bool} {i : Nat} {f8 f9 : Nat → Int32} (h : pkM A i f8 f9) (h1 : pkT A i ≤ i) (h2 : A i = true) : pkM A (i + 7 ^ lev A i) (upd f8 (fb_ct (isP A) i) (nI i)) (upd f9 (fb_ct (isP A) i) (nI (lev A i))) := by
  intro k hk hp
  unfold upd
  rcases Nat.lt_or_ge k i with q | q
  · have hl := ct_lt q hp
    rw [if_neg (by omega), if_neg (by omega)]
    exact h k q hp
  · rcases Nat.lt_or_ge i k with q2 | q2
    · rw [(pk_jump h1 h2).2.2 k q2 hk] at hp; cases hp
    · rw [show k = i by omega, if_pos rfl, if_pos rfl]; exact ⟨rfl, rfl⟩
def MPk (D : va_G) (cI cZ : ClassId) (μ : Nat → Nat) (σ : Nat → Nat → Bool) (A : Nat → Bool) (k5 : Nat → Int32) (H : Heap) : Prop := ∃ (M : Nat → Nat → Int32) (V : Nat → Int32), (M 5 = k5 ∧ V 0 = nI (pkC A) ∧ pkM A 2401 (M 8) (M 9)) ∧ MP D cI cZ μ σ M V H
theorem in_pk {x : Int32} {n : Nat} (hn : n < 2 ^ 30) (h : wI x (nI 0) (nI n - nI 1) = true) : ∃ j : Nat, j < n ∧ x = nI j := by
  cases n with
  | zero =>
    simp only [wI, Bool.and_eq_true, decide_eq_true_eq] at h
    exact absurd (Int32.le_trans h.1 h.2) (by decide)
  | succ n =>
    rw [nI_pred' n] at h
    obtain ⟨k, hk, e⟩ := wI_nat h (by omega)
    exact ⟨k, by omega, e⟩
  where nI_pred' (n : Nat) : nI (n + 1) - nI 1 = nI n := pk_sub (Nat.le_add_left 1 n)
theorem in_pk' {x : Int32} {n j : Nat} (hn : n < 2 ^ 30) (hj : j < n) (e : x = nI j) : wI x (nI 0) (nI n - nI 1) = true := by
  rw [e, pk_sub (by omega), wI_nI (by omega) (by omega)]
  exact decide_eq_true (by omega)
theorem pk_out {A : Nat → Bool} {x : Int32} (h : wI x (nI 0) (nI (pkC A) - nI 1) = false) : pkKey A x = none := by
  refine lst_miss fun k hk => ?_
  cases q : pkQ A x k with
  | false => rfl
  | true =>
    simp only [pkQ, Bool.and_eq_true, decide_eq_true_eq] at q
    have hl : fb_ct (isP A) k < pkC A := ct_lt hk q.1
    have hb := fb_ct_le (isP A) 2401
    rw [in_pk' (n := pkC A) (by unfold pkC; omega) hl q.2.symm] at h
    cases h
theorem pk_hit {A : Nat → Bool} {j : Nat} (hj : j < pkC A) : ∃ k, k < 2401 ∧ isP A k = true ∧ fb_ct (isP A) k = j ∧ pkKey A (nI j) = some k := by
  obtain ⟨k, h1, h2, h3⟩ := fb_ct_kth hj
  have hq : pkQ A (nI j) k = true := by unfold pkQ; rw [h2, h3]; simp
  exact ⟨k, h1, h2, h3, lst_hit h1 hq (fun e he hp => pkQ_one he h1 hp hq)⟩
/-! floods -/
def rM (f10 f11 f12 : Nat → Int32) (b : Bst) : Prop := (∀ k, k < 2401 → f10 k = if b.1 k = 0 then -6 else nI (b.2.1 k)) ∧ (∀ k, k < 2401 → b.1 k ≠ 0 → f11 k = nI (b.1 k - 1)) ∧ ∀ i, i < b.2.2.2 → f12 i = nI (b.2.2.1 i)
def MF (D : va_G) (cI cZ : ClassId) (μ : Nat → Nat) (σ : Nat → Nat → Bool) (b : Bst) (k5 : Nat → Int32) (v2 : Int32) (H : Heap) : Prop := ∃ (M : Nat → Nat → Int32) (V : Nat → Int32), (M 5 = k5 ∧ V 2 = v2 ∧ rM (M 10) (M 11) (M 12) b) ∧ MP D cI cZ μ σ M V H
def MCl (D : va_G) (cI cZ : ClassId) (μ : Nat → Nat) (σ : Nat → Nat → Bool) (k5 : Nat → Int32) (H : Heap) : Prop := ∃ (M : Nat → Nat → Int32) (V : Nat → Int32), (M 5 = k5 ∧ ∀ k, k < 2401 → M 10 k = -6) ∧ MP D cI cZ μ σ M V H
def MLy (D : va_G) (cI cZ : ClassId) (μ : Nat → Nat) (σ : Nat → Nat → Bool) (A : Nat → Bool) (k5 : Nat → Int32) (H : Heap) : Prop := ∃ (M : Nat → Nat → Int32) (V : Nat → Int32), (M 5 = k5 ∧ V 2 = nI (lay A 2401).2.2 ∧ ∀ k, k < 2401 → M 10 k = if (lay A 2401).1.1 k = 0 then -6 else nI ((lay A 2401).1.2.1 k)) ∧ MP D cI cZ μ σ M V H
theorem rM_ge {f10 : Nat → Int32} {l p k : Nat} (h : f10 k = if l = 0 then -6 else nI p) (hp : p < 2 ^ 31) : 0 ≤ f10 k ↔ l ≠ 0 := by
  rw [h]
  by_cases q : l = 0
  · rw [if_pos q]; simp [q]
  · rw [if_neg q]; simp [q, nI_pos' hp]
theorem rM_up {f10 f11 f12 : Nat → Int32} {b : Bst} (h : rM f10 f11 f12 b) {j v pn : Nat} (hv : v ≠ 0) : rM (upd f10 j (nI pn)) (upd f11 j (nI (v - 1))) (upd f12 b.2.2.2 (nI j)) (va_up b.1 j v, va_up b.2.1 j pn, va_up b.2.2.1 b.2.2.2 j, b.2.2.2 + 1) := by
  refine ⟨fun k hk => ?_, fun k hk h0 => ?_, fun i hi => ?_⟩
  · show upd f10 j (nI pn) k = if va_up b.1 j v k = 0 then -6 else nI (va_up b.2.1 j pn k)
    unfold upd va_up
    by_cases e : k = j
    · rw [if_pos e, if_pos e, if_neg hv, if_pos e]
    · rw [if_neg e, if_neg e, if_neg e]; exact h.1 k hk
  · have h0' : va_up b.1 j v k ≠ 0 := h0
    show upd f11 j (nI (v - 1)) k = nI (va_up b.1 j v k - 1)
    unfold va_up at h0'
    unfold upd va_up
    by_cases e : k = j
    · rw [if_pos e, if_pos e]
    · rw [if_neg e] at h0'
      rw [if_neg e, if_neg e]; exact h.2.1 k hk h0'
  · show upd f12 b.2.2.2 (nI j) i = nI (va_up b.2.2.1 b.2.2.2 j i)
    have hi' : i < b.2.2.2 + 1 := hi
    unfold upd va_up
    by_cases e : i = b.2.2.2
    · rw [if_pos e, if_pos e]
    · rw [if_neg e, if_neg e]; exact h.2.2 i (by omega)
theorem rM_0 {f10 f11 f12 : Nat → Int32} {lab pc q0 : Nat → Nat} {pn sd : Nat} (h1 : ∀ k, k < 2401 → f10 k = if lab k = 0 then -6 else nI (pc k)) (h2 : ∀ k, k < 2401 → lab k ≠ 0 → f11 k = nI (lab k - 1)) : rM (upd f10 sd (nI pn)) (upd f11 sd (nI 0)) (upd f12 0 (nI sd)) (fl0 lab pc q0 pn sd) := by
  refine ⟨fun k hk => ?_, fun k hk h0 => ?_, fun i hi => ?_⟩
  · show upd f10 sd (nI pn) k = if va_up lab sd 1 k = 0 then -6 else nI (va_up pc sd pn k)
    unfold upd va_up
    by_cases e : k = sd
    · rw [if_pos e, if_pos e, if_neg (by decide), if_pos e]
    · rw [if_neg e, if_neg e, if_neg e]; exact h1 k hk
  · have h0' : va_up lab sd 1 k ≠ 0 := h0
    show upd f11 sd (nI 0) k = nI (va_up lab sd 1 k - 1)
    unfold va_up at h0'
    unfold upd va_up
    by_cases e : k = sd
    · rw [if_pos e, if_pos e]
    · rw [if_neg e] at h0'
      rw [if_neg e, if_neg e]; exact h2 k hk h0'
  · have hi' : i < 1 := hi
    have e : i = 0 := by omega
    show upd f12 0 (nI sd) i = nI (va_up q0 0 sd i)
    unfold upd va_up
    rw [if_pos e, if_pos e]
/-- the queue's old places stay -/
theorem vis_qu {A : Nat → Bool} {pn v i : Nat} {o : Option Nat} {b : Bst} (hi : i < b.2.2.2) : (vis1 A pn v o b).2.2.1 i = b.2.2.1 i := by
  cases o with
  | none => rfl
  | some j =>
    by_cases q : A j = true ∧ b.1 j = 0
    · rw [vis_t q]
      show va_up b.2.2.1 b.2.2.2 j i = _
      unfold va_up
      rw [if_neg (by omega)]
    · rw [vis_f q]
theorem expd_tl {A : Nat → Bool} {pn h v : Nat} {b : Bst} : ∀ d, b.2.2.2 ≤ (expd A pn h v d b).2.2.2
  | 0 => Nat.le_refl _
  | d + 1 => Nat.le_trans (expd_tl d) vis_mono
theorem expd_qu {A : Nat → Bool} {pn h v i : Nat} {b : Bst} (hi : i < b.2.2.2) : ∀ d, (expd A pn h v d b).2.2.1 i = b.2.2.1 i
  | 0 => rfl
  | d + 1 => (vis_qu (Nat.lt_of_lt_of_le hi (expd_tl d))).trans (expd_qu hi d)
def pcB (B : Nat) (b : Bst) : Prop := ∀ k, b.2.1 k ≤ B
theorem pcB_vis {A : Nat → Bool} {B pn v : Nat} {o : Option Nat} {b : Bst} (h : pcB B b) (hp : pn ≤ B) : pcB B (vis1 A pn v o b) := by
  cases o with
  | none => exact h
  | some j =>
    by_cases q : A j = true ∧ b.1 j = 0
    · rw [vis_t q]
      intro k
      show va_up b.2.1 j pn k ≤ B
      unfold va_up
      have := h k
      split <;> omega
    · rw [vis_f q]; exact h
theorem pcB_expd {A : Nat → Bool} {B pn h v : Nat} {b : Bst} (hb : pcB B b) (hp : pn ≤ B) : ∀ d, pcB B (expd A pn h v d b)
  | 0 => hb
  | d + 1 => pcB_vis (pcB_expd hb hp d) hp
theorem pcB_fld {A : Nat → Bool} {B pn : Nat} (hp : pn ≤ B) (n : Nat) : ∀ (i : Nat) (b : Bst), pcB B b → pcB B (fld A pn n i b) := by
  induction n with
  | zero => intro i b h; exact h
  | succ n ih =>
    intro i b h
    rw [fld]
    split
    · exact ih (i + 1) _ (pcB_expd h hp 6)
    · exact h
theorem pcB_fl0 {B pn sd : Nat} {lab pc q0 : Nat → Nat} (h : ∀ k, pc k ≤ B) (hp : pn ≤ B) : pcB B (fl0 lab pc q0 pn sd) := by
  intro k
  show va_up pc sd pn k ≤ B
  unfold va_up
  have := h k
  split <;> omega
theorem lay_pc {A : Nat → Bool} : ∀ i, i ≤ 2401 → ∀ k, (lay A i).1.2.1 k ≤ 2401
  | 0, _ => fun _ => Nat.zero_le _
  | i + 1, hi => by
    have ih := lay_pc (A := A) i (by omega)
    by_cases h : A i = true ∧ (lay A i).1.1 i = 0
    · rw [lay_t h]
      exact pcB_fld (by have := (lay_ok (A := A) (i := i) (by omega)).2.1; omega) _ _ _ (pcB_fl0 ih (by have := (lay_ok (A := A) (i := i) (by omega)).2.1; omega))
    · rw [lay_f h]; exact ih
def eO (A : Nat → Bool) (lb : Bool) (i : Nat) : Option Nat := bif lb then lst A i else loK A i
/-! alike -/
theorem sub_iff {A B : Nat → Bool} : ∀ n : Nat, fb_ct (fun j => A j && B j) n ≤ fb_ct A n ∧ (orN (fun j => A j && !B j) n = false ↔ fb_ct (fun j => A j && B j) n = fb_ct A n)
  | 0 => ⟨Nat.le_refl _, by simp [orN, fb_ct]⟩
  | n + 1 => by
    obtain ⟨h1, h2⟩ := sub_iff (A := A) (B := B) n
    rw [fb_ct_succ, fb_ct_succ, orN]
    cases hA : A n <;> cases hB : B n <;> simp [h2] <;> omega
theorem sub_iff' {A B : Nat → Bool} (n : Nat) : orN (fun j => B j && !A j) n = false ↔ fb_ct (fun j => A j && B j) n = fb_ct B n := by
  rw [(sub_iff (A := B) (B := A) n).2]
  have e : fb_ct (fun j => B j && A j) n = fb_ct (fun j => A j && B j) n := fb_ct_cong (fun k _ => Bool.and_comm _ _)
  rw [e]
theorem or_iff {p : Nat → Bool} : ∀ n : Nat, orN p n = false ↔ fb_ct p n = 0
  | 0 => by simp [orN, fb_ct]
  | n + 1 => by
    have h := or_iff (p := p) n
    rw [fb_ct_succ, orN]
    cases hp : p n <;> simp [h]
/-! images -/
def MSK (D : va_G) (cI cZ : ClassId) (μ : Nat → Nat) (σ : Nat → Nat → Bool) (kp : Nat → Bool) (H : Heap) : Prop := ∃ (M : Nat → Nat → Int32) (V : Nat → Int32), (∀ j, j < 2 → M 5 j = bI (kp j)) ∧ MP D cI cZ μ σ M V H
def cpS (σ : Nat → Nat → Bool) (k t : Nat) : Nat → Nat → Bool := fun s j => if 4 * (k + 1) ≤ s ∧ s < 4 * (k + 1) + t ∧ j < 2401 then σ (s - 4 * (k + 1)) j else σ s j
def rcS (σ : Nat → Nat → Bool) (k t : Nat) : Nat → Nat → Bool := fun s j => if s < t ∧ j < 2401 then σ (s + 4 * (k + 1)) j else σ s j
theorem cp_0 {σ : Nat → Nat → Bool} {k : Nat} : cpS σ k 0 = σ := by
  funext s j; unfold cpS; rw [if_neg (fun q => absurd q.2.1 (by omega))]
theorem rc_0 {σ : Nat → Nat → Bool} {k : Nat} : rcS σ k 0 = σ := by
  funext s j; unfold rcS; rw [if_neg (fun q => absurd q.1 (by omega))]
theorem cp_s {σ : Nat → Nat → Bool} {k t : Nat} (ht : t < 4) : mdS (cpS σ k t) (4 + 4 * k + t) 0 2401 (cpS σ k t t) = cpS σ k (t + 1) := by
  funext s j
  unfold mdS
  by_cases h : s = 4 + 4 * k + t ∧ 0 ≤ j ∧ j < 2401
  · rw [if_pos h]
    unfold cpS
    rw [if_neg (fun q => absurd q.1 (by omega)), if_pos ⟨by omega, by omega, h.2.2⟩, show s - 4 * (k + 1) = t by omega]
  · rw [if_neg h]
    unfold cpS
    by_cases q : 4 * (k + 1) ≤ s ∧ s < 4 * (k + 1) + t ∧ j < 2401
    · rw [if_pos q, if_pos ⟨q.1, by omega, q.2.2⟩]
    · rw [if_neg q, if_neg (fun z => q ⟨z.1, by
        rcases Nat.lt_or_ge s (4 * (k + 1) + t) with w | w
        · exact w
        · exact absurd ⟨by omega, Nat.zero_le _, z.2.2⟩ h, z.2.2⟩)]
theorem rc_s {σ : Nat → Nat → Bool} {k t : Nat} (ht : t < 4) : mdS (rcS σ k t) t 0 2401 (rcS σ k t (4 + 4 * k + t)) = rcS σ k (t + 1) := by
  funext s j
  unfold mdS
  by_cases h : s = t ∧ 0 ≤ j ∧ j < 2401
  · rw [if_pos h]
    unfold rcS
    rw [if_neg (fun q => absurd q.1 (by omega)), if_pos ⟨by omega, h.2.2⟩, h.1, show 4 + 4 * k + t = t + 4 * (k + 1) by omega]
  · rw [if_neg h]
    unfold rcS
    by_cases q : s < t ∧ j < 2401
    · rw [if_pos q, if_pos ⟨by omega, q.2⟩]
    · rw [if_neg q, if_neg (fun z => q ⟨by
        rcases Nat.lt_or_ge s t with w | w
        · exact w
        · exact absurd ⟨by omega, Nat.zero_le _, z.2⟩ h, z.2⟩)]
theorem cp_4 {σ : Nat → Nat → Bool} {k : Nat} : imgS σ k 2401 = cpS σ k 4 := by
  funext s j
  unfold imgS cpS
  by_cases h : j < 2401 ∧ 4 * (k + 1) ≤ s ∧ s < 4 * (k + 1) + 4
  · rw [if_pos h, if_pos ⟨h.2.1, h.2.2, h.1⟩]
  · rw [if_neg h, if_neg (fun q => h ⟨q.2.2, q.1, q.2.1⟩)]
theorem rc_4 {σ : Nat → Nat → Bool} {k : Nat} : rstS σ k 2401 = rcS σ k 4 := by
  funext s j
  unfold rstS rcS
  by_cases h : j < 2401 ∧ s < 4
  · rw [if_pos h, if_pos ⟨h.2, h.1⟩]
  · rw [if_neg h, if_neg (fun q => h ⟨q.2, q.1⟩)]
theorem kp_up {f : Nat → Int32} {kp : Nat → Bool} {k : Nat} (h : ∀ j, j < 2 → f j = bI (kp j)) : ∀ j, j < 2 → upd f k (bI true) j = bI (va_up kp k true j) := by
  intro j hj
  unfold upd va_up
  by_cases e : j = k
  · rw [if_pos e, if_pos e]
  · rw [if_neg e, if_neg e]; exact h j hj
