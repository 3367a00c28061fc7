/-! numbers of the sheet in 32 bits; what the public calls answer -/
theorem iI_add (a b : Int) : iI a + iI b = iI (a + b) := (Int32.ofInt_add a b).symm
theorem iI_sub (a b : Int) : iI a - iI b = iI (a - b) := (Int32.ofInt_sub a b).symm
theorem iI_mul (a b : Int) : iI a * iI b = iI (a * b) := (Int32.ofInt_mul a b).symm
theorem nI_iI (n : Nat) : nI n = iI (n : Int) := Int32.ofInt_eq_ofNat.symm
theorem iI_toInt {z : Int} (h1 : -2147483648 ≤ z) (h2 : z < 2147483648) : (iI z).toInt = z := Int32.toInt_ofInt_of_le h1 h2
theorem iI_nat {z : Int} (h : 0 ≤ z) : iI z = nI z.toNat := by rw [nI_iI, Int.toNat_of_nonneg h]
theorem iI_of (x : Int32) : x = iI x.toInt := (Int32.ofInt_toInt x).symm
theorem m_iI (n : Nat) : (-(OfNat.ofNat n) : Int32) = iI (-(n : Int)) := by
  show -(Int32.ofNat n) = Int32.ofInt (-(n : Int))
  rw [Int32.ofInt_neg, Int32.ofInt_eq_ofNat]
theorem wI_int {x : Int32} {a b : Int} (h : wI x (iI a) (iI b) = true) (ha : -1000 ≤ a ∧ a ≤ 1000) (hb : -1000 ≤ b ∧ b ≤ 1000) : ∃ z : Int, a ≤ z ∧ z ≤ b ∧ x = iI z := by
  simp only [wI, Bool.and_eq_true, decide_eq_true_eq, Int32.le_iff_toInt_le] at h
  rw [iI_toInt (by omega) (by omega), iI_toInt (by omega) (by omega)] at h
  exact ⟨x.toInt, h.1, h.2, iI_of x⟩
theorem wI_iI {z a b : Int} (hz : -1000 ≤ z ∧ z ≤ 1000) (ha : -1000 ≤ a ∧ a ≤ 1000) (hb : -1000 ≤ b ∧ b ≤ 1000) : wI (iI z) (iI a) (iI b) = (decide (a ≤ z) && decide (z ≤ b)) := by
  unfold wI
  rw [show decide (iI a ≤ iI z) = decide (a ≤ z) from decide_eq_decide.mpr (by rw [Int32.le_iff_toInt_le, iI_toInt (by omega) (by omega), iI_toInt (by omega) (by omega)]),
    show decide (iI z ≤ iI b) = decide (z ≤ b) from decide_eq_decide.mpr (by rw [Int32.le_iff_toInt_le, iI_toInt (by omega) (by omega), iI_toInt (by omega) (by omega)])]
theorem pA_leaf {k : Nat} (hk : k < 2401) : nI (cellN k / 65) - nI 32 = iI (ptA k) := by
  have h1 := pt_bd hk
  have h2 := (cellN_lt hk).2
  unfold cellZ at h2
  rw [nI_iI, nI_iI, iI_sub]
  congr 1
  omega
theorem pB_leaf {k : Nat} (hk : k < 2401) : nI (cellN k % 65) - nI 32 = iI (ptB k) := by
  have h1 := pt_bd hk
  have h2 := (cellN_lt hk).2
  unfold cellZ at h2
  rw [nI_iI, nI_iI, iI_sub]
  congr 1
  omega
theorem side_bd {d : Nat} (h : d < 7) : -1 ≤ sA d ∧ sA d ≤ 1 ∧ -1 ≤ sB d ∧ sB d ≤ 1 := by
  have key : ∀ d : Fin 7, -1 ≤ sA d ∧ sA d ≤ 1 ∧ -1 ≤ sB d ∧ sB d ≤ 1 := by decide
  exact key ⟨d, h⟩
theorem nb_leaf {k d : Nat} (hk : k < 2401) (hd : d < 7) : vAt keyF 4225 (nI (cellN k) + stF d) = oI (nbo k d) := by
  have h1 := pt_bd hk
  have h2 := (cellN_lt hk).2
  have h3 := side_bd hd
  have e : (cellN k : Int) + (65 * sA d + sB d) = cellZ (ptA k + sA d) (ptB k + sB d) := by rw [h2]; unfold cellZ; omega
  have e0 : 0 ≤ cellZ (ptA k + sA d) (ptB k + sB d) := by unfold cellZ; omega
  have e1 : cellZ (ptA k + sA d) (ptB k + sB d) < 4225 := by unfold cellZ; omega
  unfold stF
  rw [nI_iI, iI_add, e, iI_nat e0, vAt_in (by omega) (by decide)]
  exact keyF_at (Int.toNat_of_nonneg e0) (by omega) (by omega)
theorem ko_leaf {a b : Int} (ha : -32 ≤ a ∧ a ≤ 32) (hb : -32 ≤ b ∧ b ≤ 32) : vAt keyF 4225 ((iI a + nI 32) * nI 65 + iI b + nI 32) = oI (kAt a b) := by
  have e0 : 0 ≤ cellZ a b := by unfold cellZ; omega
  have e1 : cellZ a b < 4225 := by unfold cellZ; omega
  rw [nI_iI, nI_iI, iI_add, iI_mul, iI_add, iI_add]
  show vAt keyF 4225 (iI (cellZ a b)) = _
  rw [iI_nat e0, vAt_in (by omega) (by decide)]
  exact keyF_at (Int.toNat_of_nonneg e0) ha hb
def farI (j k : Nat) : Int32 := mx (mx (ab (iI (ptA j) - iI (ptA k))) (ab (iI (ptB j) - iI (ptB k)))) (ab (iI (ptA j) - iI (ptA k) + (iI (ptB j) - iI (ptB k))))
def gd (ok : Bool) (r : Int32) : Int32 := bif ok then r else -2
def gs (ok1 ok2 : Bool) (r : Int32) : Int32 := bif ok1 then (bif ok2 then r else -2) else -1
abbrev cl (x : Int32) : Nat := x.toNatClampNeg
abbrev isK (x : Int32) : Bool := wI x (nI 0) (nI 2400)
abbrev isL (x : Int32) : Bool := wI x (nI 0) (nI 4)
abbrev isS (x : Int32) : Bool := wI x (nI 0) (nI 3)
def pO (k L : Nat) : Nat := k / 7 ^ L * 7 ^ L
def pointR (x y : Int32) : Int32 := gd (isK x && wI y (nI 0) (nI 1)) (nI 1000 + iI (if cl y = 0 then ptA (cl x) else ptB (cl x)))
def keyR (x y : Int32) : Int32 := gd (wI x (-100) (nI 100) && wI y (-100) (nI 100)) (oI (kAt x.toInt y.toInt))
def nextR (x y : Int32) : Int32 := gd (isK x && wI y (nI 1) (nI 6)) (oI (nbo (cl x) (cl y)))
def farR (x y : Int32) : Int32 := gd (isK x && isK y) (farI (cl x) (cl y))
def sdP (j k d : Nat) : Bool := decide (nbo j d = some k)
def sideR (x y : Int32) : Int32 := gd (isK x && isK y) (oI (lst (sdP (cl x) (cl y)) 7))
def patchR (x y : Int32) : Int32 := gd (isK x && isL y) (nI (pO (cl x) (cl y)))
def ringR (x y : Int32) : Int32 := gd (isK x && wI y (nI 0) (nI 70)) (nI (fb_ct (fun j => decide (farI (cl x) j = y)) 2401))
def hasR (σ : Nat → Nat → Bool) (a x : Int32) : Int32 := gs (isS a) (isK x) (bI (σ (cl a) (cl x)))
theorem wI_1 {x : Int32} {a n : Nat} (h : wI x (nI a) (nI n) = true) (hn : n < 2 ^ 31) (ha : a < 2 ^ 31) : ∃ k : Nat, a ≤ k ∧ k ≤ n ∧ x = nI k := by
  simp only [wI, Bool.and_eq_true, decide_eq_true_eq] at h
  have h0 : nI 0 ≤ nI a := nI_le (Nat.zero_le a) ha
  obtain ⟨k, h1, rfl⟩ := nI_of2 (M := nI n) (nI_toInt hn) (Int32.not_lt.mpr (Int32.le_trans h0 h.1)) h.2
  exact ⟨k, (nI_leI ha (by omega)).mp h.1, h1, rfl⟩
theorem lst_hit {p : Nat → Bool} {n d : Nat} (hd : d < n) (hp : p d = true) (hu : ∀ e, e < n → p e = true → e = d) : lst p n = some d := by
  cases h : lst p n with
  | none => exact absurd (lst_none h d hd) (by rw [hp]; decide)
  | some e =>
    obtain ⟨h1, h2, -⟩ := lst_some h
    rw [hu e h1 h2]
theorem lst_miss {p : Nat → Bool} {n : Nat} (h : ∀ e, e < n → p e = false) : lst p n = none := by
  cases e : lst p n with
  | none => rfl
  | some k =>
    obtain ⟨h1, h2, -⟩ := lst_some e
    rw [h k h1] at h2
    cases h2
theorem oI_eq {o : Option Nat} {k : Nat} (ho : ∀ j, o = some j → j < 2401) (hk : k < 2401) : oI o = nI k ↔ o = some k := by
  cases o with
  | none => exact ⟨fun h => by
      have h1 : (oI none).toInt = (nI k).toInt := by rw [h]
      rw [nI_toInt (by omega)] at h1
      have h2 : (oI none).toInt = -6 := by decide
      omega, fun h => by cases h⟩
  | some j =>
    have hj := ho j rfl
    show nI j = nI k ↔ _
    rw [nI_eq (by omega) (by omega)]
    exact ⟨fun h => by rw [h], fun h => Option.some.inj h⟩
theorem sd_hit {j k d : Nat} (hd : d < 7) (h : nbo j d = some k) : oI (lst (sdP j k) 7) = nI d := by
  rw [lst_hit (p := sdP j k) hd (decide_eq_true h) (fun e he hp => nbo_one he hd (of_decide_eq_true hp) h)]
  rfl
theorem nz0 {w : Nat} (h : nI w = 0) (hw : w < 2 ^ 31) : w = 0 := by
  rcases Nat.eq_zero_or_pos w with q | q
  · exact q
  · exact absurd h (nI_ne0 q hw)
theorem c_32 : (-32 : Int32) = iI (-32) := by decide
theorem c_n32 : nI 32 = iI 32 := by decide
theorem c_100 : (-100 : Int32) = iI (-100) := by decide
theorem c_n100 : nI 100 = iI 100 := by decide
theorem w32 {z : Int} (hz : -100 ≤ z ∧ z ≤ 100) : wI (iI z) (-32) (nI 32) = true ↔ (-32 ≤ z ∧ z ≤ 32) := by
  rw [c_32, c_n32, wI_iI (by omega) (by omega) (by omega)]
  simp
theorem w100 {x : Int32} (h : wI x (-100) (nI 100) = true) : ∃ z : Int, -100 ≤ z ∧ z ≤ 100 ∧ x = iI z := by
  rw [c_100, c_n100] at h
  exact wI_int h (by omega) (by omega)
theorem ko_out {a b : Int} (h : ¬ ((-32 ≤ a ∧ a ≤ 32) ∧ (-32 ≤ b ∧ b ≤ 32))) : (-6 : Int32) = oI (kAt a b) := by
  rw [kAt_out (fun q => h (by omega))]
  rfl
