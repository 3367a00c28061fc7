/-! packing, likeness, images: the pure side -/
theorem RelX.eq {held : Nat → Int32} {σ σ' : Nat → Nat → Bool} (h : RelX held σ) (e : σ' = σ) : RelX held σ' := by rw [e]; exact h
theorem pO_le {k L : Nat} (hk : k < 2401) (hL : L ≤ 4) : k / 7 ^ L * 7 ^ L + 7 ^ L ≤ 2401 := by
  rcases (show L = 0 ∨ L = 1 ∨ L = 2 ∨ L = 3 ∨ L = 4 by omega) with rfl | rfl | rfl | rfl | rfl <;> simp only [Nat.reducePow] <;> omega
def allN (A : Nat → Bool) (k : Nat) : Nat → Bool
  | 0 => true
  | n + 1 => allN A k n && A (k + n)
def fitP (A : Nat → Bool) (k L : Nat) : Bool := decide (k / 7 ^ L * 7 ^ L = k) && allN A k (7 ^ L)
def lev (A : Nat → Bool) (k : Nat) : Nat := bif fitP A k 1 then (bif fitP A k 2 then (bif fitP A k 3 then (bif fitP A k 4 then 4 else 3) else 2) else 1) else 0
theorem lev_le (A : Nat → Bool) (k : Nat) : lev A k ≤ 4 := by
  unfold lev
  cases fitP A k 1 <;> cases fitP A k 2 <;> cases fitP A k 3 <;> cases fitP A k 4 <;> simp
theorem lev_is {A : Nat → Bool} {k L : Nat} (hL : L ≤ 4) (h : ∀ j, j < L → fitP A k (j + 1) = true) (hn : L < 4 → fitP A k (L + 1) = false) : lev A k = L := by
  unfold lev
  rcases (show L = 0 ∨ L = 1 ∨ L = 2 ∨ L = 3 ∨ L = 4 by omega) with rfl | rfl | rfl | rfl | rfl
  · rw [hn (by omega)]; rfl
  · rw [h 0 (by omega), hn (by omega)]; rfl
  · rw [h 0 (by omega), h 1 (by omega), hn (by omega)]; rfl
  · rw [h 0 (by omega), h 1 (by omega), h 2 (by omega), hn (by omega)]; rfl
  · rw [h 0 (by omega), h 1 (by omega), h 2 (by omega), h 3 (by omega)]; rfl
theorem allN_f {A : Nat → Bool} {k j : Nat} : ∀ {n : Nat}, j < n → A (k + j) = false → allN A k n = false
  | 0, h, _ => by omega
  | n + 1, h, hj => by
    rw [allN]
    rcases Nat.lt_or_ge j n with q | q
    · rw [allN_f q hj]; rfl
    · rw [show n = j by omega, hj, Bool.and_false]
/-- how far the keys below i are taken -/
def pkT (A : Nat → Bool) : Nat → Nat
  | 0 => 0
  | i + 1 => if pkT A i ≤ i ∧ A i = true then i + 7 ^ lev A i else pkT A i
def isP (A : Nat → Bool) (i : Nat) : Bool := decide (pkT A i ≤ i) && A i
theorem isP_t {A : Nat → Bool} {i : Nat} (h1 : pkT A i ≤ i) (h2 : A i = true) : isP A i = true ∧ pkT A (i + 1) = i + 7 ^ lev A i := by
  unfold isP
  rw [decide_eq_true h1, h2, pkT, if_pos ⟨h1, h2⟩]
  exact ⟨rfl, rfl⟩
theorem isP_f1 {A : Nat → Bool} {i : Nat} (h1 : i < pkT A i) : isP A i = false ∧ pkT A (i + 1) = pkT A i := by
  unfold isP
  rw [decide_eq_false (by omega), pkT, if_neg (fun q => absurd q.1 (by omega))]
  exact ⟨rfl, rfl⟩
theorem isP_f2 {A : Nat → Bool} {i : Nat} (h2 : A i = false) : isP A i = false ∧ pkT A (i + 1) = pkT A i := by
  unfold isP
  rw [h2, Bool.and_false, pkT, if_neg (fun q => absurd q.2 (by rw [h2]; decide))]
  exact ⟨rfl, rfl⟩
theorem pkT_le (A : Nat → Bool) : ∀ i : Nat, pkT A i ≤ i + 2401
  | 0 => by rw [pkT]; omega
  | i + 1 => by
    have h := pkT_le A i
    have h2 := p7_le (lev_le A i)
    rw [pkT]
    split <;> omega
def pkC (A : Nat → Bool) : Nat := fb_ct (isP A) 2401
def pkQ (A : Nat → Bool) (x : Int32) (k : Nat) : Bool := isP A k && decide (nI (fb_ct (isP A) k) = x)
def pkKey (A : Nat → Bool) (x : Int32) : Option Nat := lst (pkQ A x) 2401
theorem pkQ_one {A : Nat → Bool} {x : Int32} {j k : Nat} (hj : j < 2401) (hk : k < 2401) (h1 : pkQ A x j = true) (h2 : pkQ A x k = true) : j = k := by
  simp only [pkQ, Bool.and_eq_true, decide_eq_true_eq] at h1 h2
  have b1 := fb_ct_le (isP A) j
  have b2 := fb_ct_le (isP A) k
  exact fb_ct_kth_one h1.1 h2.1 ((nI_eq (by omega) (by omega)).mp (h1.2.trans h2.2.symm))
theorem pkKey_lt {A : Nat → Bool} {x : Int32} {k : Nat} (h : pkKey A x = some k) : k < 2401 := (lst_some h).1
def packedR (σ : Nat → Nat → Bool) (a x y : Int32) : Int32 := gs (isS a) (wI y (nI 0) (nI 1)) (match pkKey (σ (cl a)) x with
  | none => -6
  | some k => if cl y = 0 then nI k else nI (lev (σ (cl a)) k))
def orN (p : Nat → Bool) : Nat → Bool
  | 0 => false
  | n + 1 => orN p n || p n
def alikeF (f1 f2 f3 : Bool) : Int32 := bif f1 then (bif f2 then (bif f3 then nI 4 else nI 3) else nI 2) else (bif f2 then nI 1 else nI 0)
def alikeR (σ : Nat → Nat → Bool) (a b : Int32) : Int32 := gs (isS a && isS b) true (alikeF (orN (fun j => σ (cl a) j && !σ (cl b) j) 2401) (orN (fun j => σ (cl b) j && !σ (cl a) j) 2401) (orN (fun j => σ (cl a) j && σ (cl b) j) 2401))
def kv (kp : Nat → Bool) : Int32 := nI ((if kp 0 then 1 else 0) + (if kp 1 then 2 else 0))
theorem kv_set {kp : Nat → Bool} {k : Nat} (hk : k ≤ 1) : kv kp ||| (nI 1 <<< (nI k &&& 31)) = kv (va_up kp k true) := by
  have key : ∀ (a b : Bool) (k : Fin 2), nI ((if a then 1 else 0) + (if b then 2 else 0)) ||| (nI 1 <<< (nI k.val &&& 31)) = nI ((if (if 0 = k.val then true else a) then 1 else 0) + (if (if 1 = k.val then true else b) then 2 else 0)) := by decide +kernel
  exact key (kp 0) (kp 1) ⟨k, by omega⟩
theorem kv_get {kp : Nat → Bool} {k : Nat} (hk : k ≤ 1) : (kv kp >>> (nI k &&& 31)) &&& nI 1 = bI (kp k) := by
  have key : ∀ (a b : Bool) (k : Fin 2), (nI ((if a then 1 else 0) + (if b then 2 else 0)) >>> (nI k.val &&& 31)) &&& nI 1 = bI (if k.val = 0 then a else b) := by decide +kernel
  have h := key (kp 0) (kp 1) ⟨k, by omega⟩
  rcases (show k = 0 ∨ k = 1 by omega) with rfl | rfl
  · exact h
  · exact h
def imgS (σ : Nat → Nat → Bool) (k i : Nat) : Nat → Nat → Bool := fun s j => if j < i ∧ 4 * (k + 1) ≤ s ∧ s < 4 * (k + 1) + 4 then σ (s - 4 * (k + 1)) j else σ s j
def rstS (σ : Nat → Nat → Bool) (k i : Nat) : Nat → Nat → Bool := fun s j => if j < i ∧ s < 4 then σ (s + 4 * (k + 1)) j else σ s j
theorem img_0 {σ : Nat → Nat → Bool} {k : Nat} : imgS σ k 0 = σ := by
  funext s j; unfold imgS; rw [if_neg (fun q => absurd q.1 (by omega))]
theorem rst_0 {σ : Nat → Nat → Bool} {k : Nat} : rstS σ k 0 = σ := by
  funext s j; unfold rstS; rw [if_neg (fun q => absurd q.1 (by omega))]
theorem bt_shm (x : Int32) {n i : Nat} (hn : n < 28) (hi : i < 32) : bt ((x &&& ((nI 15 <<< (nI n &&& 31)) ^^^ (-1))) ||| ((x &&& nI 15) <<< (nI n &&& 31))) i = if n ≤ i ∧ i < n + 4 then bt x (i - n) else bt x i := by
  rw [b_or, b_and, b_xor, b_shl n (by omega) _ hi, b_shl n (by omega) _ hi, b_m1 i hi, bt_15, b_and, bt_15]
  by_cases h1 : n ≤ i
  · by_cases h2 : i - n < 4
    · rw [if_pos ⟨h1, by omega⟩]; simp [h1, h2]
    · rw [if_neg (fun q => h2 (by omega))]; simp [h1, h2]
  · rw [if_neg (fun q => h1 q.1)]; simp [h1]
theorem bt_rst (x : Int32) {n i : Nat} (hn : n < 28) (hi : i < 32) : bt ((x &&& (-16)) ||| ((x >>> (nI n &&& 31)) &&& nI 15)) i = if i < 4 then bt x (n + i) else bt x i := by
  rw [b_or, b_and, bt_m16 i hi, b_and, b_sshr n (by omega) _ hi, bt_15]
  by_cases h1 : i < 4
  · rw [if_pos h1, if_pos (by omega)]; simp [h1]; omega
  · rw [if_neg h1]; simp [h1]; omega
theorem img_rel {held : Nat → Int32} {σ : Nat → Nat → Bool} {k i : Nat} (h : RelX held (imgS σ k i)) (hk : k ≤ 1) : RelX (upd held i ((held i &&& ((nI 15 <<< (nI (4 * (k + 1)) &&& 31)) ^^^ (-1))) ||| ((held i &&& nI 15) <<< (nI (4 * (k + 1)) &&& 31)))) (imgS σ k (i + 1)) := by
  intro j hj b hb
  unfold upd
  by_cases e : j = i
  · subst e
    rw [if_pos rfl, bt_shm _ (by omega) hb]
    have h1 := h j hj b hb
    by_cases q : 4 * (k + 1) ≤ b ∧ b < 4 * (k + 1) + 4
    · rw [if_pos q, h j hj _ (by omega)]
      unfold imgS
      rw [if_neg (fun z => absurd z.1 (by omega)), if_pos ⟨by omega, q⟩, decide_eq_true (by omega), decide_eq_true (by omega)]
    · rw [if_neg q, h1]
      unfold imgS
      rw [if_neg (fun z => q z.2), if_neg (fun z => q z.2)]
  · rw [if_neg e, h j hj b hb]
    unfold imgS
    by_cases q : j < i ∧ 4 * (k + 1) ≤ b ∧ b < 4 * (k + 1) + 4
    · rw [if_pos q, if_pos ⟨by omega, q.2⟩]
    · rw [if_neg q, if_neg (fun z => q ⟨by omega, z.2⟩)]
theorem rst_rel {held : Nat → Int32} {σ : Nat → Nat → Bool} {k i : Nat} (h : RelX held (rstS σ k i)) (hk : k ≤ 1) : RelX (upd held i ((held i &&& (-16)) ||| ((held i >>> (nI (4 * (k + 1)) &&& 31)) &&& nI 15))) (rstS σ k (i + 1)) := by
  intro j hj b hb
  unfold upd
  by_cases e : j = i
  · subst e
    rw [if_pos rfl, bt_rst _ (by omega) hb]
    by_cases q : b < 4
    · rw [if_pos q, h j hj _ (by omega)]
      unfold rstS
      rw [if_neg (fun z => absurd z.1 (by omega)), if_pos ⟨by omega, q⟩, decide_eq_true (by omega), decide_eq_true (by omega), Nat.add_comm]
    · rw [if_neg q, h j hj b hb]
      unfold rstS
      rw [if_neg (fun z => q z.2), if_neg (fun z => q z.2)]
  · rw [if_neg e, h j hj b hb]
    unfold rstS
    by_cases q : j < i ∧ b < 4
    · rw [if_pos q, if_pos ⟨by omega, q.2⟩]
    · rw [if_neg q, if_neg (fun z => q ⟨by omega, z.2⟩)]
def imageS (σ : Nat → Nat → Bool) (x : Int32) : Nat → Nat → Bool := bif wI x (nI 0) (nI 1) then imgS σ (cl x) 2401 else σ
def imageK (kp : Nat → Bool) (x : Int32) : Nat → Bool := bif wI x (nI 0) (nI 1) then va_up kp (cl x) true else kp
def imageR (x : Int32) : Int32 := gd (wI x (nI 0) (nI 1)) (nI 1)
def restS (σ : Nat → Nat → Bool) (kp : Nat → Bool) (x : Int32) : Nat → Nat → Bool := bif wI x (nI 0) (nI 1) && kp (cl x) then rstS σ (cl x) 2401 else σ
def restR (kp : Nat → Bool) (x : Int32) : Int32 := gd (wI x (nI 0) (nI 1)) (bif kp (cl x) then nI 1 else -3)
def pkA (σ : Nat → Nat → Bool) (n : Nat) : Nat := fb_sm (fun s => pkC (σ s)) n
def countR (σ : Nat → Nat → Bool) (κ x : Int32) : Int32 := if x = nI 0 then nI (fb_ct (anyP σ) 2401) else if x = nI 1 then nI (pkA σ 4) else if x = nI 2 then κ else -2
theorem sw_2 (x : Int32) : x = nI 0 ∨ x = nI 1 ∨ x = nI 2 ∨ (x.toInt < 0 ∨ 2 < x.toInt) := by
  by_cases h : x.toInt < 0 ∨ 2 < x.toInt
  · exact Or.inr (Or.inr (Or.inr h))
  · have e : ∀ n : Nat, x.toInt = n → n < 3 → x = nI n := fun n q hn => by rw [iI_of x, q, ← nI_iI]
    rcases (show x.toInt = 0 ∨ x.toInt = 1 ∨ x.toInt = 2 by omega) with q | q | q
    · exact Or.inl (e 0 q (by omega))
    · exact Or.inr (Or.inl (e 1 q (by omega)))
    · exact Or.inr (Or.inr (Or.inl (e 2 q (by omega))))
theorem sw_ne {x : Int32} {n : Nat} (hn : n < 100) {lo hi : Int} (h : x.toInt < lo ∨ hi < x.toInt) (h1 : lo ≤ n) (h2 : n ≤ hi) : ¬ x = nI n := by
  intro e
  rw [e, nI_toInt (by omega)] at h
  omega
