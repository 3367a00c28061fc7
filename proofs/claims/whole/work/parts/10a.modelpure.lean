/-! the model's side: numbers and stores -/
def MS (D : va_G) (cI cZ : ClassId) (μ : Nat → Nat) (σ : Nat → Nat → Bool) (k5 : Nat → Int32) (H : Heap) : Prop := ∃ (M : Nat → Nat → Int32) (V : Nat → Int32), M 5 = k5 ∧ MP D cI cZ μ σ M V H
theorem c_60 : (-60 : Int32) = iI (-60) := by decide
theorem c_n60 : nI 60 = iI 60 := by decide
theorem w60 {z : Int} (hz : -200 ≤ z ∧ z ≤ 200) : wI (iI z) (-60) (nI 60) = true ↔ (-60 ≤ z ∧ z ≤ 60) := by
  rw [c_60, c_n60, wI_iI (by omega) (by omega) (by omega)]
  simp
theorem ka_out {a b : Int} (h : ¬ ((-60 ≤ a ∧ a ≤ 60) ∧ (-60 ≤ b ∧ b ≤ 60))) : (-6 : Int32) = oI (kAt a b) := by
  rw [kAt_out (fun q => h (by omega))]
  rfl
theorem ka_ix {a b : Int} (ha : -60 ≤ a ∧ a ≤ 60) (hb : -60 ≤ b ∧ b ≤ 60) : nI 121 * (iI a + nI 60) + iI b + nI 60 = nI (121 * (a + 60) + b + 60).toNat := by
  rw [nI_iI, nI_iI, iI_add, iI_mul, iI_add, iI_add]
  exact iI_nat (by omega)
theorem ka_get {a b : Int} (ha : -60 ≤ a ∧ a ≤ 60) (hb : -60 ≤ b ∧ b ≤ 60) : keyG (121 * (a + 60) + b + 60).toNat = oG (kAt a b) := keyG_at (Int.toNat_of_nonneg (by omega)) ha hb
theorem mx_le {x y : Int32} (h : x ≤ y) : mx x y = y := by
  unfold mx
  by_cases q : x < y
  · rw [if_pos q]
  · rw [if_neg q]; exact Int32.le_antisymm h (Int32.not_lt.mp q)
theorem mx_nle {x y : Int32} (h : ¬ x ≤ y) : mx x y = x := by
  unfold mx
  rw [if_neg (fun q => h (Int32.le_of_lt q))]
theorem far_as (x y z : Int32) : x + y - z = x + (y - z) := by
  rw [Int32.sub_eq_add_neg, Int32.sub_eq_add_neg, Int32.add_assoc]
theorem sd_eq {j k : Nat} (hj : j < 2401) (h : j = k) : nI 0 = oI (lst (sdP j k) (0 + 1)) := by
  subst h
  rw [lst, if_pos (show sdP j j 0 = true from decide_eq_true (nbo_0 hj))]
  rfl
theorem sd_ne {j k : Nat} (hj : j < 2401) (h : j ≠ k) : (-6 : Int32) = oI (lst (sdP j k) (0 + 1)) := by
  rw [lst, if_neg (show ¬ sdP j k 0 = true from fun q => h (by
    have q2 := of_decide_eq_true q
    rw [nbo_0 hj] at q2
    exact Option.some.inj q2))]
  rfl
theorem sd_t {j k d : Nat} (h : nbo j d = some k) : nI d = oI (lst (sdP j k) (d + 1)) := by
  rw [lst, if_pos (show sdP j k d = true from decide_eq_true h)]
  rfl
theorem sd_f {j k d : Nat} (h : nbo j d ≠ some k) : oI (lst (sdP j k) d) = oI (lst (sdP j k) (d + 1)) := by
  rw [lst, if_neg (show ¬ sdP j k d = true from fun q => h (of_decide_eq_true q))]
theorem relM_up {f : Nat → Int32} {σ : Nat → Nat → Bool} (h : RelM f σ) {s k : Nat} (hs : s < 12) (hk : k < 2401) (b : Bool) : RelM (upd f (2401 * s + k) (bI b)) (stS σ s k b) := by
  intro s' k' hs' hk'
  unfold upd stS
  by_cases e : s' = s ∧ k' = k
  · rw [if_pos e, if_pos (by rw [e.1, e.2])]
  · rw [if_neg e, if_neg (fun q => e (by omega))]
    exact h s' k' hs' hk'
theorem RelM.eq {f : Nat → Int32} {σ σ' : Nat → Nat → Bool} (h : RelM f σ) (e : σ' = σ) : RelM f σ' := by rw [e]; exact h
