/-! the figures of a key, one after the other -/
def pts (k : Nat) : Nat → Int × Int
  | 0 => (0, 0)
  | t + 1 => stp (pts k t) (k / (343 / 7 ^ t) % 7)
theorem pts_4 (k : Nat) : pts k 4 = pt k := rfl
theorem pl_le {t : Nat} (h : nI (343 / 7 ^ t) ≤ 0) (ht : t ≤ 4) : t = 4 := by
  rcases (show t = 0 ∨ t = 1 ∨ t = 2 ∨ t = 3 ∨ t = 4 by omega) with rfl | rfl | rfl | rfl | rfl
  · exact absurd h (by decide)
  · exact absurd h (by decide)
  · exact absurd h (by decide)
  · exact absurd h (by decide)
  · rfl
theorem pl_gt {t : Nat} (h : ¬ nI (343 / 7 ^ t) ≤ 0) (ht : t ≤ 4) : t < 4 ∧ 0 < 343 / 7 ^ t ∧ 343 / 7 ^ t < 2 ^ 31 ∧ ¬ nI (343 / 7 ^ t) = 0 := by
  rcases (show t = 0 ∨ t = 1 ∨ t = 2 ∨ t = 3 ∨ t = 4 by omega) with rfl | rfl | rfl | rfl | rfl
  · exact ⟨by omega, by decide, by decide, by decide⟩
  · exact ⟨by omega, by decide, by decide, by decide⟩
  · exact ⟨by omega, by decide, by decide, by decide⟩
  · exact ⟨by omega, by decide, by decide, by decide⟩
  · exact absurd (by decide) h
theorem pl_div {t : Nat} (ht : t < 4) : nI (343 / 7 ^ t / 7) = nI (343 / 7 ^ (t + 1)) := by
  rw [Nat.div_div_eq_div_mul, ← Nat.pow_succ]
theorem fg_lt (k t : Nat) : k / (343 / 7 ^ t) % 7 < 7 := Nat.mod_lt _ (by decide)
theorem fg_val {k t : Nat} (hk : k < 2 ^ 31) (h : 0 < 343 / 7 ^ t) (h2 : 343 / 7 ^ t < 2 ^ 31) : nI k / nI (343 / 7 ^ t) = nI (k / (343 / 7 ^ t)) := pk_div hk h h2
theorem fg_le (k t : Nat) : k / (343 / 7 ^ t) ≤ k := Nat.div_le_self _ _
theorem i2 (z : Int) : nI 2 * iI z = iI (2 * z) := by rw [nI_iI]; exact iI_mul _ _
theorem i3 (z : Int) : nI 3 * iI z = iI (3 * z) := by rw [nI_iI]; exact iI_mul _ _
theorem ce_leaf {k : Nat} (hk : k < 2401) : (iI (pts k 4).1 + nI 32) * nI 65 + iI (pts k 4).2 + nI 32 = nI (cellN k) := by
  have h := (cellN_lt hk).2
  rw [pts_4, nI_iI 32, nI_iI 65, iI_add, iI_mul, iI_add, iI_add, nI_iI (cellN k), h]
  rfl
def SAB (ta tb : Nat) (A : Nat → Prop) (U : State) (H : Heap) : Prop := va_Z RX0 "SIDE_A" "[I" (.ref ta) A U H ∧ va_T .int ta 7 (fun j => .int (iI (sA j))) A U H ∧ va_Z RX0 "SIDE_B" "[I" (.ref tb) A U H ∧ va_T .int tb 7 (fun j => .int (iI (sB j))) A U H ∧ va_Nw (.methodLinkNest RX0 31 yX1_valueAt "SevenKeys") U
theorem SAB.hb {ta tb : Nat} {A : Nat → Prop} : HB (fun U => SAB ta tb A U U.heap) := by
  intro U V hh hv h
  obtain ⟨h1, h2, h3, h4, h5⟩ := h
  have ha : U.vm.Alike V.vm := by rw [hv]; exact Vm.Alike.refl _
  show SAB ta tb A V V.heap
  rw [← hh]
  exact ⟨va_Z.moved ha h1, va_T.moved ha h2, va_Z.moved ha h3, va_T.moved ha h4, va_Nw.same rfl hv h5⟩
theorem SAB.at {ta tb : Nat} {A B : Nat → Prop} {s : State} {H : Heap} {locs : List Loc} (h : SAB ta tb A s s.heap) (hS : va_S A s.heap H locs) (hB : ∀ q, B q → A q) : ∀ U : State, U.heap = H → s.WarmedH U.vm → SAB ta tb B U U.heap := by
  intro U hU hW
  obtain ⟨h1, h2, h3, h4, h5⟩ := h
  rw [hU]
  exact ⟨va_Z.moved hW.alike ((h1.kept hS.2.1).narrow hB), va_T.moved hW.alike ((h2.kept hS.2.1).narrow hB), va_Z.moved hW.alike ((h3.kept hS.2.1).narrow hB), va_T.moved hW.alike ((h4.kept hS.2.1).narrow hB), va_Nw.warmM hW h5⟩
