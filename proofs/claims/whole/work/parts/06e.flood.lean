/-! floods: label (0: not met; else steps and one), piece, queue, its end -/
abbrev Bst : Type := (Nat → Nat) × (Nat → Nat) × (Nat → Nat) × Nat
def vis1 (A : Nat → Bool) (pn v : Nat) (o : Option Nat) (b : Bst) : Bst := match o with
  | none => b
  | some j => if A j = true ∧ b.1 j = 0 then (va_up b.1 j v, va_up b.2.1 j pn, va_up b.2.2.1 b.2.2.2 j, b.2.2.2 + 1) else b
def expd (A : Nat → Bool) (pn h v : Nat) : Nat → Bst → Bst
  | 0, b => b
  | d + 1, b => vis1 A pn v (nbo h (d + 1)) (expd A pn h v d b)
def fld (A : Nat → Bool) (pn : Nat) : Nat → Nat → Bst → Bst
  | 0, _, b => b
  | n + 1, i, b => if i < b.2.2.2 then fld A pn n (i + 1) (expd A pn (b.2.2.1 i) (b.1 (b.2.2.1 i) + 1) 6 b) else b
def fl0 (lab pc q : Nat → Nat) (pn seed : Nat) : Bst := (va_up lab seed 1, va_up pc seed pn, va_up q 0 seed, 1)
theorem FU_ex : ∃ n : Nat, n = 2402 := ⟨2402, rfl⟩
/-- a number that nothing unfolds -/
noncomputable def FU : Nat := Classical.choose FU_ex
theorem FU_eq : FU = 2402 := Classical.choose_spec FU_ex
noncomputable def flood (A : Nat → Bool) (pn : Nat) (lab pc q : Nat → Nat) (seed : Nat) : Bst := fld A pn FU 0 (fl0 lab pc q pn seed)
def ctL (lab : Nat → Nat) : Nat := fb_ct (fun k => decide (lab k ≠ 0)) 2401
def wfB (N0 : Nat) (b : Bst) : Prop := ctL b.1 = N0 + b.2.2.2 ∧ (∀ i, i < b.2.2.2 → b.2.2.1 i < 2401 ∧ b.1 (b.2.2.1 i) ≠ 0) ∧ ∀ k, b.1 k ≤ N0 + b.2.2.2
theorem ctL_le (lab : Nat → Nat) : ctL lab ≤ 2401 := fb_ct_le _ _
theorem ctL_up {lab : Nat → Nat} {j v : Nat} (hj : j < 2401) (h0 : lab j = 0) (hv : v ≠ 0) : ctL (va_up lab j v) = ctL lab + 1 := by
  have h := fb_ct_upd (fun k => decide (lab k ≠ 0)) true hj
  have e : (fun k => decide (va_up lab j v k ≠ 0)) = (fun k => if k = j then true else decide (lab k ≠ 0)) := by
    funext k
    unfold va_up
    by_cases q : k = j
    · rw [if_pos q, if_pos q]; exact decide_eq_true hv
    · rw [if_neg q, if_neg q]
  unfold ctL
  rw [e]
  simp only [h0] at h
  simpa using h
theorem ctL_lt {lab : Nat → Nat} {j : Nat} (hj : j < 2401) (h0 : lab j = 0) : ctL lab < 2401 := by
  have h := ctL_up (v := 1) hj h0 (by decide)
  have h2 := ctL_le (va_up lab j 1)
  omega
theorem wfB.tail {N0 : Nat} {b : Bst} (h : wfB N0 b) : N0 + b.2.2.2 ≤ 2401 := by rw [← h.1]; exact ctL_le _
theorem wfB.lab {N0 : Nat} {b : Bst} (h : wfB N0 b) (k : Nat) : b.1 k ≤ 2401 := Nat.le_trans (h.2.2 k) h.tail
theorem wf_vis {A : Nat → Bool} {N0 pn v : Nat} {o : Option Nat} {b : Bst} (h : wfB N0 b) (ho : ∀ j, o = some j → j < 2401) (hv : v ≠ 0) (hv2 : v ≤ N0 + b.2.2.2 + 1) : wfB N0 (vis1 A pn v o b) := by
  cases o with
  | none => exact h
  | some j =>
    have hj := ho j rfl
    show wfB N0 (if A j = true ∧ b.1 j = 0 then _ else b)
    by_cases q : A j = true ∧ b.1 j = 0
    · rw [if_pos q]
      refine ⟨?_, ?_, ?_⟩
      · show ctL (va_up b.1 j v) = N0 + (b.2.2.2 + 1)
        rw [ctL_up hj q.2 hv, h.1]; omega
      · intro i hi
        show va_up b.2.2.1 b.2.2.2 j i < 2401 ∧ va_up b.1 j v (va_up b.2.2.1 b.2.2.2 j i) ≠ 0
        have hi' : i < b.2.2.2 + 1 := hi
        unfold va_up
        by_cases e : i = b.2.2.2
        · rw [if_pos e, if_pos rfl]; exact ⟨hj, hv⟩
        · rw [if_neg e]
          have h2 := h.2.1 i (by omega)
          refine ⟨h2.1, ?_⟩
          by_cases e2 : b.2.2.1 i = j
          · rw [if_pos e2]; exact hv
          · rw [if_neg e2]; exact h2.2
      · intro k
        show va_up b.1 j v k ≤ N0 + (b.2.2.2 + 1)
        unfold va_up
        have h3 := h.2.2 k
        split <;> omega
    · rw [if_neg q]; exact h
theorem vis_mono {A : Nat → Bool} {pn v : Nat} {o : Option Nat} {b : Bst} : b.2.2.2 ≤ (vis1 A pn v o b).2.2.2 := by
  cases o with
  | none => exact Nat.le_refl _
  | some j =>
    show b.2.2.2 ≤ (if A j = true ∧ b.1 j = 0 then _ else b : Bst).2.2.2
    split
    · exact Nat.le_succ _
    · exact Nat.le_refl _
theorem wf_expd {A : Nat → Bool} {N0 pn h v : Nat} {b : Bst} (hb : wfB N0 b) (hv : v ≠ 0) (hv2 : v ≤ N0 + b.2.2.2 + 1) : ∀ d, wfB N0 (expd A pn h v d b) ∧ b.2.2.2 ≤ (expd A pn h v d b).2.2.2
  | 0 => ⟨hb, Nat.le_refl _⟩
  | d + 1 => by
    obtain ⟨h1, h2⟩ := wf_expd (A := A) (pn := pn) (h := h) hb hv hv2 d
    exact ⟨wf_vis h1 (fun j hj => nbo_lt hj) hv (by omega), Nat.le_trans h2 vis_mono⟩
theorem wf_step {A : Nat → Bool} {N0 pn i : Nat} {b : Bst} (hb : wfB N0 b) : wfB N0 (expd A pn (b.2.2.1 i) (b.1 (b.2.2.1 i) + 1) 6 b) := (wf_expd hb (by omega) (by have := hb.2.2 (b.2.2.1 i); omega) 6).1
theorem wf_fld {A : Nat → Bool} {N0 pn : Nat} (n : Nat) : ∀ (i : Nat) (b : Bst), wfB N0 b → wfB N0 (fld A pn n i b) := by
  induction n with
  | zero => intro i b h; exact h
  | succ n ih =>
    intro i b h
    rw [fld]
    split
    · exact ih (i + 1) _ (wf_step h)
    · exact h
theorem fld_done {A : Nat → Bool} {pn i : Nat} {b : Bst} (h : b.2.2.2 ≤ i) : ∀ n, fld A pn n i b = b
  | 0 => rfl
  | n + 1 => by rw [fld, if_neg (by omega)]
theorem wf_fl0 {lab pc q : Nat → Nat} {pn seed : Nat} (hs : seed < 2401) (h0 : lab seed = 0) (hle : ∀ k, lab k ≤ ctL lab) : wfB (ctL lab) (fl0 lab pc q pn seed) := by
  refine ⟨?_, ?_, ?_⟩
  · exact ctL_up hs h0 (by decide)
  · intro i hi
    have hi' : i < 1 := hi
    have e : i = 0 := by omega
    subst e
    show va_up q 0 seed 0 < 2401 ∧ va_up lab seed 1 (va_up q 0 seed 0) ≠ 0
    unfold va_up
    rw [if_pos rfl, if_pos rfl]
    exact ⟨hs, by decide⟩
  · intro k
    show va_up lab seed 1 k ≤ ctL lab + 1
    unfold va_up
    have := hle k
    split <;> omega
theorem wf_flood {A : Nat → Bool} {lab pc q : Nat → Nat} {pn seed : Nat} (hs : seed < 2401) (h0 : lab seed = 0) (hle : ∀ k, lab k ≤ ctL lab) : wfB (ctL lab) (flood A pn lab pc q seed) := wf_fld _ _ _ (wf_fl0 hs h0 hle)
/-- what is labelled stays, and what comes is of the piece -/
def Kp (pn : Nat) (b b' : Bst) : Prop := ∀ k, (b.1 k ≠ 0 → b'.1 k = b.1 k ∧ b'.2.1 k = b.2.1 k) ∧ (b.1 k = 0 → b'.1 k ≠ 0 → b'.2.1 k = pn)
theorem Kp.rf {pn : Nat} {b : Bst} : Kp pn b b := fun _ => ⟨fun _ => ⟨rfl, rfl⟩, fun h h2 => absurd h h2⟩
theorem Kp.tr {pn : Nat} {a b c : Bst} (h1 : Kp pn a b) (h2 : Kp pn b c) : Kp pn a c := by
  intro k
  refine ⟨fun h => ?_, fun h hc => ?_⟩
  · have q := (h1 k).1 h
    have q2 := (h2 k).1 (by rw [q.1]; exact h)
    exact ⟨q2.1.trans q.1, q2.2.trans q.2⟩
  · by_cases e : b.1 k = 0
    · exact (h2 k).2 e hc
    · exact ((h2 k).1 e).2.trans ((h1 k).2 h e)
theorem Kp_vis {A : Nat → Bool} {pn v : Nat} {o : Option Nat} {b : Bst} (hv : v ≠ 0) : Kp pn b (vis1 A pn v o b) := by
  cases o with
  | none => exact Kp.rf
  | some j =>
    show Kp pn b (if A j = true ∧ b.1 j = 0 then _ else b)
    by_cases q : A j = true ∧ b.1 j = 0
    · rw [if_pos q]
      intro k
      show (b.1 k ≠ 0 → va_up b.1 j v k = b.1 k ∧ va_up b.2.1 j pn k = b.2.1 k) ∧ (b.1 k = 0 → va_up b.1 j v k ≠ 0 → va_up b.2.1 j pn k = pn)
      unfold va_up
      by_cases e : k = j
      · subst e
        exact ⟨fun h => absurd q.2 h, fun _ _ => by rw [if_pos rfl]⟩
      · rw [if_neg e, if_neg e]
        exact ⟨fun _ => ⟨rfl, rfl⟩, fun h h2 => absurd h h2⟩
    · rw [if_neg q]; exact Kp.rf
theorem Kp_expd {A : Nat → Bool} {pn h v : Nat} {b : Bst} (hv : v ≠ 0) : ∀ d, Kp pn b (expd A pn h v d b)
  | 0 => Kp.rf
  | d + 1 => (Kp_expd hv d).tr (Kp_vis hv)
theorem Kp_fld {A : Nat → Bool} {pn : Nat} (n : Nat) : ∀ (i : Nat) (b : Bst), Kp pn b (fld A pn n i b) := by
  induction n with
  | zero => intro i b; exact Kp.rf
  | succ n ih =>
    intro i b
    rw [fld]
    split
    · exact (Kp_expd (by omega) 6).tr (ih (i + 1) _)
    · exact Kp.rf
theorem flood_seed {A : Nat → Bool} {pn : Nat} {lab pc q : Nat → Nat} {seed : Nat} : (flood A pn lab pc q seed).1 seed ≠ 0 ∧ (flood A pn lab pc q seed).2.1 seed = pn := by
  have h := (Kp_fld (A := A) (pn := pn) FU 0 (fl0 lab pc q pn seed) seed).1
  have e1 : (fl0 lab pc q pn seed).1 seed = 1 := by show va_up lab seed 1 seed = 1; unfold va_up; rw [if_pos rfl]
  have e2 : (fl0 lab pc q pn seed).2.1 seed = pn := by show va_up pc seed pn seed = pn; unfold va_up; rw [if_pos rfl]
  have h2 := h (by rw [e1]; decide)
  exact ⟨by unfold flood; rw [h2.1, e1]; decide, by unfold flood; rw [h2.2, e2]⟩
theorem flood_keep {A : Nat → Bool} {pn : Nat} {lab pc q : Nat → Nat} {seed k : Nat} (h0 : lab seed = 0) : (lab k ≠ 0 → (flood A pn lab pc q seed).1 k = lab k ∧ (flood A pn lab pc q seed).2.1 k = pc k) ∧ (lab k = 0 → (flood A pn lab pc q seed).1 k ≠ 0 → (flood A pn lab pc q seed).2.1 k = pn) := by
  by_cases e : k = seed
  · subst e
    exact ⟨fun h => absurd h0 h, fun _ _ => flood_seed.2⟩
  · have h := Kp_fld (A := A) (pn := pn) FU 0 (fl0 lab pc q pn seed) k
    have e1 : (fl0 lab pc q pn seed).1 k = lab k := by show va_up lab seed 1 k = lab k; unfold va_up; rw [if_neg e]
    have e2 : (fl0 lab pc q pn seed).2.1 k = pc k := by show va_up pc seed pn k = pc k; unfold va_up; rw [if_neg e]
    rw [e1, e2] at h
    exact h
/-- all pieces of the seeds below i: the flood's end, how many, the greatest -/
noncomputable def lay (A : Nat → Bool) : Nat → Bst × Nat × Nat
  | 0 => ((fun _ => 0, fun _ => 0, fun _ => 0, 0), 0, 0)
  | i + 1 => if A i = true ∧ (lay A i).1.1 i = 0 then (flood A (lay A i).2.1 (lay A i).1.1 (lay A i).1.2.1 (lay A i).1.2.2.1 i, (lay A i).2.1 + 1, max (lay A i).2.2 (flood A (lay A i).2.1 (lay A i).1.1 (lay A i).1.2.1 (lay A i).1.2.2.1 i).2.2.2) else lay A i
noncomputable abbrev lyF (A : Nat → Bool) (i : Nat) : Bst := flood A (lay A i).2.1 (lay A i).1.1 (lay A i).1.2.1 (lay A i).1.2.2.1 i
theorem lay_t {A : Nat → Bool} {i : Nat} (h : A i = true ∧ (lay A i).1.1 i = 0) : lay A (i + 1) = (lyF A i, (lay A i).2.1 + 1, max (lay A i).2.2 (lyF A i).2.2.2) := by rw [lay, if_pos h]
theorem lay_f {A : Nat → Bool} {i : Nat} (h : ¬ (A i = true ∧ (lay A i).1.1 i = 0)) : lay A (i + 1) = lay A i := by rw [lay, if_neg h]
theorem lay_ok {A : Nat → Bool} : ∀ {i : Nat}, i ≤ 2401 → (∀ k, (lay A i).1.1 k ≤ ctL (lay A i).1.1) ∧ (lay A i).2.1 ≤ i ∧ (lay A i).2.2 ≤ 2401
  | 0, _ => ⟨fun _ => Nat.zero_le _, Nat.le_refl 0, Nat.zero_le _⟩
  | i + 1, hi => by
    have ih := lay_ok (A := A) (i := i) (by omega)
    by_cases h : A i = true ∧ (lay A i).1.1 i = 0
    · rw [lay_t h]
      have w : wfB (ctL (lay A i).1.1) (lyF A i) := wf_flood (by omega) h.2 ih.1
      refine ⟨fun k => ?_, ?_, ?_⟩
      · show (lyF A i).1 k ≤ ctL (lyF A i).1
        rw [w.1]; exact w.2.2 k
      · show (lay A i).2.1 + 1 ≤ i + 1
        omega
      · show max (lay A i).2.2 (lyF A i).2.2.2 ≤ 2401
        have := w.tail
        omega
    · rw [lay_f h]
      exact ⟨ih.1, by omega, ih.2.2⟩
theorem lay_keep {A : Nat → Bool} {i k : Nat} (h : (lay A i).1.1 k ≠ 0) : ∀ n, (lay A (i + n)).1.1 k ≠ 0 ∧ (lay A (i + n)).1.2.1 k = (lay A i).1.2.1 k
  | 0 => ⟨h, rfl⟩
  | n + 1 => by
    obtain ⟨h1, h2⟩ := lay_keep h n
    show (lay A (i + n + 1)).1.1 k ≠ 0 ∧ (lay A (i + n + 1)).1.2.1 k = _
    by_cases q : A (i + n) = true ∧ (lay A (i + n)).1.1 (i + n) = 0
    · rw [lay_t q]
      have f := (flood_keep (A := A) (pn := (lay A (i + n)).2.1) (pc := (lay A (i + n)).1.2.1) (q := (lay A (i + n)).1.2.2.1) (k := k) q.2).1 h1
      exact ⟨by show (lyF A (i + n)).1 k ≠ 0; rw [f.1]; exact h1, f.2.trans h2⟩
    · rw [lay_f q]; exact ⟨h1, h2⟩
/-- the piece of a hex, told by the seed that came to it -/
theorem lay_piece {A : Nat → Bool} {i k : Nat} (hi : i < 2401) (hs : A i = true ∧ (lay A i).1.1 i = 0) (h0 : (lay A i).1.1 k = 0) (h1 : (lyF A i).1 k ≠ 0) : (lay A 2401).1.1 k ≠ 0 ∧ (lay A 2401).1.2.1 k = (lay A i).2.1 := by
  have e : lay A (i + 1) = _ := lay_t hs
  have h2 : (lay A (i + 1)).1.1 k ≠ 0 := by rw [e]; exact h1
  have h3 := lay_keep h2 (2401 - (i + 1))
  rw [show i + 1 + (2401 - (i + 1)) = 2401 by omega] at h3
  refine ⟨h3.1, h3.2.trans ?_⟩
  rw [e]
  exact (flood_keep (A := A) (pn := (lay A i).2.1) (pc := (lay A i).1.2.1) (q := (lay A i).1.2.2.1) (k := k) hs.2).2 h0 h1
theorem lay_own {A : Nat → Bool} {k : Nat} (hk : k < 2401) (hA : A k = true) : (lay A 2401).1.1 k ≠ 0 := by
  by_cases h : (lay A k).1.1 k = 0
  · exact (lay_piece hk ⟨hA, h⟩ h flood_seed.1).1
  · have h3 := (lay_keep h (2401 - k)).1
    rw [show k + (2401 - k) = 2401 by omega] at h3
    exact h3
theorem vis_in {A : Nat → Bool} {pn v k : Nat} {o : Option Nat} {b : Bst} (h : (vis1 A pn v o b).1 k ≠ 0) : b.1 k ≠ 0 ∨ A k = true := by
  cases o with
  | none => exact Or.inl h
  | some j =>
    by_cases q : A j = true ∧ b.1 j = 0
    · have e : vis1 A pn v (some j) b = (va_up b.1 j v, va_up b.2.1 j pn, va_up b.2.2.1 b.2.2.2 j, b.2.2.2 + 1) := if_pos q
      rw [e] at h
      have h' : va_up b.1 j v k ≠ 0 := h
      unfold va_up at h'
      by_cases e2 : k = j
      · exact Or.inr (by rw [e2]; exact q.1)
      · rw [if_neg e2] at h'; exact Or.inl h'
    · have e : vis1 A pn v (some j) b = b := if_neg q
      rw [e] at h; exact Or.inl h
theorem expd_in {A : Nat → Bool} {pn hx v k : Nat} {b : Bst} : ∀ d, (expd A pn hx v d b).1 k ≠ 0 → b.1 k ≠ 0 ∨ A k = true
  | 0, h => Or.inl h
  | d + 1, h => (vis_in h).elim (fun q => expd_in d q) Or.inr
theorem fld_in {A : Nat → Bool} {pn k : Nat} (n : Nat) : ∀ (i : Nat) (b : Bst), (fld A pn n i b).1 k ≠ 0 → b.1 k ≠ 0 ∨ A k = true := by
  induction n with
  | zero => intro i b h; exact Or.inl h
  | succ n ih =>
    intro i b h
    rw [fld] at h
    split at h
    · exact (ih (i + 1) _ h).elim (fun q => expd_in 6 q) Or.inr
    · exact Or.inl h
theorem flood_in {A : Nat → Bool} {pn k seed : Nat} {lab pc q : Nat → Nat} (hs : A seed = true) (h : (flood A pn lab pc q seed).1 k ≠ 0) : lab k ≠ 0 ∨ A k = true := by
  rcases fld_in _ _ _ h with z | z
  · have z' : va_up lab seed 1 k ≠ 0 := z
    unfold va_up at z'
    by_cases e : k = seed
    · exact Or.inr (by rw [e]; exact hs)
    · rw [if_neg e] at z'; exact Or.inl z'
  · exact Or.inr z
theorem lay_in {A : Nat → Bool} {k : Nat} : ∀ i, (lay A i).1.1 k ≠ 0 → A k = true
  | 0, h => absurd rfl h
  | i + 1, h => by
    by_cases q : A i = true ∧ (lay A i).1.1 i = 0
    · rw [lay_t q] at h
      exact (flood_in q.1 h).elim (fun z => lay_in i z) id
    · rw [lay_f q] at h; exact lay_in i h
noncomputable def pieceR (σ : Nat → Nat → Bool) (a x : Int32) : Int32 := gs (isS a) (isK x) (bif σ (cl a) (cl x) then nI ((lay (σ (cl a)) 2401).1.2.1 (cl x)) else -6)
noncomputable def fl1 (A : Nat → Bool) (j : Nat) : Bst := flood A 0 (fun _ => 0) (fun _ => 0) (fun _ => 0) j
noncomputable def wayR (σ : Nat → Nat → Bool) (a x y : Int32) : Int32 := gs (isS a) (isK x && isK y) (bif σ (cl a) (cl x) && σ (cl a) (cl y) then (if (fl1 (σ (cl a)) (cl x)).1 (cl y) = 0 then -6 else nI ((fl1 (σ (cl a)) (cl x)).1 (cl y) - 1)) else -6)
noncomputable def aboutF (A : Nat → Bool) (x : Int32) : Int32 := if x = nI 0 then nI (fb_ct A 2401) else if x = nI 1 then nI (pkC A) else if x = nI 2 then nI (bdr A 2401) else if x = nI 3 then nI (lay A 2401).2.1 else if x = nI 4 then nI (lay A 2401).2.2 else if x = nI 5 then oI (loK A 2401) else if x = nI 6 then oI (lst A 2401) else -2
noncomputable def aboutR (σ : Nat → Nat → Bool) (a x : Int32) : Int32 := gs (isS a) true (aboutF (σ (cl a)) x)
/-! patches around -/
def ar1 (own L : Nat) (o : Option Nat) (b : (Nat → Bool) × Nat) : (Nat → Bool) × Nat := match o with
  | none => b
  | some j => if pO j L ≠ own ∧ b.1 (pO j L) = false then (va_up b.1 (pO j L) true, b.2 + 1) else b
def arD (own L h : Nat) : Nat → (Nat → Bool) × Nat → (Nat → Bool) × Nat
  | 0, b => b
  | d + 1, b => ar1 own L (nbo h (d + 1)) (arD own L h d b)
def arH (own L : Nat) : Nat → (Nat → Bool) × Nat
  | 0 => (fun _ => false, 0)
  | i + 1 => arD own L (own + i) 6 (arH own L i)
def aroundR (x y : Int32) : Int32 := gd (isK x && isL y) (nI (arH (pO (cl x) (cl y)) (cl y) (7 ^ cl y)).2)
theorem ar1_le {own L : Nat} {o : Option Nat} {b : (Nat → Bool) × Nat} : b.2 ≤ (ar1 own L o b).2 ∧ (ar1 own L o b).2 ≤ b.2 + 1 := by
  cases o with
  | none => exact ⟨Nat.le_refl _, Nat.le_succ _⟩
  | some j =>
    by_cases q : pO j L ≠ own ∧ b.1 (pO j L) = false
    · have e : ar1 own L (some j) b = (va_up b.1 (pO j L) true, b.2 + 1) := if_pos q
      rw [e]; exact ⟨Nat.le_succ _, Nat.le_refl _⟩
    · have e : ar1 own L (some j) b = b := if_neg q
      rw [e]; exact ⟨Nat.le_refl _, Nat.le_succ _⟩
theorem arD_le {own L h : Nat} {b : (Nat → Bool) × Nat} : ∀ d, b.2 ≤ (arD own L h d b).2 ∧ (arD own L h d b).2 ≤ b.2 + d
  | 0 => ⟨Nat.le_refl _, Nat.le_refl _⟩
  | d + 1 => by
    have h1 := arD_le (own := own) (L := L) (h := h) (b := b) d
    have h2 := ar1_le (own := own) (L := L) (o := nbo h (d + 1)) (b := arD own L h d b)
    exact ⟨Nat.le_trans h1.1 h2.1, Nat.le_trans h2.2 (by omega)⟩
theorem arH_le {own L : Nat} : ∀ i, (arH own L i).2 ≤ 6 * i
  | 0 => Nat.le_refl _
  | i + 1 => by
    have h1 := arH_le (own := own) (L := L) i
    have h2 := (arD_le (own := own) (L := L) (h := own + i) (b := arH own L i) 6).2
    show (arD own L (own + i) 6 (arH own L i)).2 ≤ _
    omega
theorem pO_lt {k L : Nat} (h : k < 2401) : pO k L < 2401 := Nat.lt_of_le_of_lt (Nat.div_mul_le_self _ _) h
