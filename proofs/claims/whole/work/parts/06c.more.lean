theorem no_step {A : Nat → Bool} {j n : Nat} (h : ∀ i, j + 1 ≤ i → i < n → A i = false) (hj : A j = false) : ∀ i, j ≤ i → i < n → A i = false := by
  intro i h1 h2
  rcases Nat.lt_or_ge j i with q | q
  · exact h i q h2
  · rw [show i = j by omega]; exact hj
theorem any4 {held : Nat → Int32} {σ : Nat → Nat → Bool} (h : RelX held σ) {k : Nat} (hk : k < 2401) : (held k &&& nI 15) = 0 ↔ (σ 0 k || σ 1 k || σ 2 k || σ 3 k) = false := by
  rw [bt_ext0]
  have e : ∀ i, i < 32 → bt (held k &&& nI 15) i = (decide (i < 4) && σ i k) := by
    intro i hi
    rw [b_and, h k hk i hi, bt_15]
    by_cases q : i < 4
    · simp [q]; omega
    · simp [q]
  constructor
  · intro hz
    have z : ∀ i, i < 4 → σ i k = false := fun i hi => by
      have q := (e i (by omega)).symm.trans (hz i (by omega))
      rw [decide_eq_true hi, Bool.true_and] at q
      exact q
    rw [z 0 (by omega), z 1 (by omega), z 2 (by omega), z 3 (by omega)]
    rfl
  · intro hz i hi
    rw [e i hi]
    simp only [Bool.or_eq_false_iff] at hz
    by_cases q : i < 4
    · rcases (show i = 0 ∨ i = 1 ∨ i = 2 ∨ i = 3 by omega) with rfl | rfl | rfl | rfl
      · rw [hz.1.1.1]; rfl
      · rw [hz.1.1.2]; rfl
      · rw [hz.1.2]; rfl
      · rw [hz.2]; rfl
    · rw [decide_eq_false q, Bool.false_and]
def anyP (σ : Nat → Nat → Bool) (k : Nat) : Bool := σ 0 k || σ 1 k || σ 2 k || σ 3 k
