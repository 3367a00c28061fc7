/-! the pure side: the sheet, sets, packing, floods; both programs are tied to these -/
def iI (z : Int) : Int32 := Int32.ofInt z
theorem iI_nI (n : Nat) : nI n = iI n := rfl
def sA (d : Nat) : Int := match d with
  | 1 => 1
  | 3 => -1
  | 4 => -1
  | 6 => 1
  | _ => 0
def sB (d : Nat) : Int := match d with
  | 2 => 1
  | 3 => 1
  | 5 => -1
  | 6 => -1
  | _ => 0
def stp (q : Int × Int) (d : Nat) : Int × Int := (2 * q.1 - q.2 + sA d, q.1 + 3 * q.2 + sB d)
def pt (k : Nat) : Int × Int := stp (stp (stp (stp (0, 0) (k / 343 % 7)) (k / 49 % 7)) (k / 7 % 7)) (k / 1 % 7)
def ptA (k : Nat) : Int := (pt k).1
def ptB (k : Nat) : Int := (pt k).2
def pt_ok (k : Nat) : Bool := decide (-31 ≤ (pt k).1) && decide ((pt k).1 ≤ 31) && decide (-31 ≤ (pt k).2) && decide ((pt k).2 ≤ 31)
theorem pt_all : (List.range 2401).all pt_ok = true := by decide +kernel
theorem pt_bd {k : Nat} (h : k < 2401) : -31 ≤ ptA k ∧ ptA k ≤ 31 ∧ -31 ≤ ptB k ∧ ptB k ≤ 31 := by
  have h1 := List.all_eq_true.mp pt_all k (List.mem_range.mpr h)
  simp only [pt_ok, Bool.and_eq_true, decide_eq_true_eq] at h1
  exact ⟨h1.1.1.1, h1.1.1.2, h1.1.2, h1.2⟩
def cellZ (a b : Int) : Int := (a + 32) * 65 + b + 32
def cellN (k : Nat) : Nat := (cellZ (ptA k) (ptB k)).toNat
def gN (k : Nat) : Nat := (121 * (ptA k + 60) + ptB k + 60).toNat
/-- the last of the first n that has p -/
def lst (p : Nat → Bool) : Nat → Option Nat
  | 0 => none
  | n + 1 => if p n then some n else lst p n
theorem lst_cong {p q : Nat → Bool} : ∀ {n : Nat}, (∀ k, k < n → p k = q k) → lst p n = lst q n
  | 0, _ => rfl
  | n + 1, h => by rw [lst, lst, h n (Nat.lt_succ_self n), lst_cong (fun k hk => h k (Nat.lt_succ_of_lt hk))]
theorem lst_some {p : Nat → Bool} {k : Nat} : ∀ {n : Nat}, lst p n = some k → k < n ∧ p k = true ∧ ∀ j, k < j → j < n → p j = false
  | 0, h => by cases h
  | n + 1, h => by
    rw [lst] at h
    by_cases hp : p n = true
    · rw [if_pos hp] at h
      cases h
      exact ⟨Nat.lt_succ_self _, hp, fun j h1 h2 => by omega⟩
    · rw [if_neg hp] at h
      obtain ⟨h1, h2, h3⟩ := lst_some h
      refine ⟨Nat.lt_succ_of_lt h1, h2, fun j h4 h5 => ?_⟩
      rcases Nat.lt_or_ge j n with q | q
      · exact h3 j h4 q
      · have e : j = n := by omega
        rw [e]
        exact Bool.not_eq_true _ ▸ hp
theorem lst_none {p : Nat → Bool} : ∀ {n : Nat}, lst p n = none → ∀ j, j < n → p j = false
  | 0, _, j, hj => by omega
  | n + 1, h, j, hj => by
    rw [lst] at h
    by_cases hp : p n = true
    · rw [if_pos hp] at h
      cases h
    · rw [if_neg hp] at h
      rcases Nat.lt_or_ge j n with q | q
      · exact lst_none h j q
      · have e : j = n := by omega
        rw [e]
        exact Bool.not_eq_true _ ▸ hp
def atP (a b : Int) (k : Nat) : Bool := decide (ptA k = a) && decide (ptB k = b)
def kAt (a b : Int) : Option Nat := lst (atP a b) 2401
def nbo (k d : Nat) : Option Nat := kAt (ptA k + sA d) (ptB k + sB d)
theorem kAt_some {a b : Int} {k : Nat} (h : kAt a b = some k) : k < 2401 ∧ ptA k = a ∧ ptB k = b := by
  obtain ⟨h1, h2, -⟩ := lst_some h
  simp only [atP, Bool.and_eq_true, decide_eq_true_eq] at h2
  exact ⟨h1, h2⟩
theorem nbo_lt {k d j : Nat} (h : nbo k d = some j) : j < 2401 := (kAt_some h).1
def cellF (k : Nat) : Int32 := nI (cellN k)
def keyFn (n c : Nat) : Int32 := oI (lst (fun k => decide (cellN k = c)) n)
def keyF (c : Nat) : Int32 := keyFn 2401 c
def oG (o : Option Nat) : Int32 := match o with
  | none => 0
  | some k => nI (k + 1)
def keyGn (n c : Nat) : Int32 := oG (lst (fun k => decide (gN k = c)) n)
def keyG (c : Nat) : Int32 := keyGn 2401 c
theorem cellN_lt {k : Nat} (h : k < 2401) : cellN k < 4225 ∧ (cellN k : Int) = cellZ (ptA k) (ptB k) := by
  have := pt_bd h
  unfold cellN cellZ
  omega
theorem gN_lt {k : Nat} (h : k < 2401) : gN k < 14641 ∧ (gN k : Int) = 121 * (ptA k + 60) + ptB k + 60 := by
  have := pt_bd h
  unfold gN
  omega
theorem keyFn_0 : keyFn 0 = fun _ => -6 := rfl
theorem keyFn_s (n : Nat) : keyFn (n + 1) = upd (keyFn n) (cellN n) (nI n) := by
  funext c
  unfold keyFn upd
  rw [lst]
  by_cases h : c = cellN n
  · rw [if_pos h, if_pos (by simp [h])]; rfl
  · rw [if_neg h, if_neg (by simp [Ne.symm h])]
theorem keyGn_0 : keyGn 0 = fun _ => 0 := rfl
theorem keyGn_s (n : Nat) : keyGn (n + 1) = upd (keyGn n) (gN n) (nI (n + 1)) := by
  funext c
  unfold keyGn upd
  rw [lst]
  by_cases h : c = gN n
  · rw [if_pos h, if_pos (by simp [h])]; rfl
  · rw [if_neg h, if_neg (by simp [Ne.symm h])]
theorem keyF_at {a b : Int} {c : Nat} (hc : (c : Int) = cellZ a b) (ha : -32 ≤ a ∧ a ≤ 32) (hb : -32 ≤ b ∧ b ≤ 32) : keyF c = oI (kAt a b) := by
  unfold keyF keyFn kAt
  congr 1
  refine lst_cong fun k hk => ?_
  have h1 := pt_bd hk
  have h2 := (cellN_lt hk).2
  unfold cellZ at hc h2
  unfold atP
  by_cases e : cellN k = c
  · have e1 : ptA k = a := by omega
    have e2 : ptB k = b := by omega
    simp [e, e1, e2]
  · have e1 : ¬ (ptA k = a ∧ ptB k = b) := fun q => e (by omega)
    rw [decide_eq_false e]
    symm
    rw [Bool.and_eq_false_iff]
    by_cases e2 : ptA k = a
    · exact Or.inr (decide_eq_false fun e3 => e1 ⟨e2, e3⟩)
    · exact Or.inl (decide_eq_false e2)
theorem keyG_at {a b : Int} {c : Nat} (hc : (c : Int) = 121 * (a + 60) + b + 60) (ha : -60 ≤ a ∧ a ≤ 60) (hb : -60 ≤ b ∧ b ≤ 60) : keyG c = oG (kAt a b) := by
  unfold keyG keyGn kAt
  congr 1
  refine lst_cong fun k hk => ?_
  have h1 := pt_bd hk
  have h2 := (gN_lt hk).2
  unfold atP
  by_cases e : gN k = c
  · have e1 : ptA k = a := by omega
    have e2 : ptB k = b := by omega
    simp [e, e1, e2]
  · have e1 : ¬ (ptA k = a ∧ ptB k = b) := fun q => e (by omega)
    rw [decide_eq_false e]
    symm
    rw [Bool.and_eq_false_iff]
    by_cases e2 : ptA k = a
    · exact Or.inr (decide_eq_false fun e3 => e1 ⟨e2, e3⟩)
    · exact Or.inl (decide_eq_false e2)
theorem kAt_out {a b : Int} (h : ¬ (-31 ≤ a ∧ a ≤ 31 ∧ -31 ≤ b ∧ b ≤ 31)) : kAt a b = none := by
  cases e : kAt a b with
  | none => rfl
  | some k =>
    obtain ⟨h1, h2, h3⟩ := kAt_some e
    have h4 := pt_bd h1
    exact absurd (by omega) h
/-- the way back: the key of a point -/
def dig (a b : Int) : Nat := match (a - 2 * b) % 7 with
  | 1 => 1
  | 5 => 2
  | 4 => 3
  | 6 => 4
  | 2 => 5
  | 3 => 6
  | _ => 0
def bck (q : Int × Int) (d : Nat) : Int × Int := ((3 * (q.1 - sA d) + (q.2 - sB d)) / 7, (2 * (q.2 - sB d) - (q.1 - sA d)) / 7)
def inv7 (q : Int × Int) : Nat :=
  let d4 := dig q.1 q.2
  let q3 := bck q d4
  let d3 := dig q3.1 q3.2
  let q2 := bck q3 d3
  let d2 := dig q2.1 q2.2
  let q1 := bck q2 d2
  let d1 := dig q1.1 q1.2
  343 * d1 + 49 * d2 + 7 * d3 + d4
theorem inv_all : (List.range 2401).all (fun k => Nat.beq (inv7 (pt k)) k) = true := by decide +kernel
theorem pt_inj {j k : Nat} (hj : j < 2401) (hk : k < 2401) (ha : ptA j = ptA k) (hb : ptB j = ptB k) : j = k := by
  have h1 := Nat.eq_of_beq_eq_true (List.all_eq_true.mp inv_all j (List.mem_range.mpr hj))
  have h2 := Nat.eq_of_beq_eq_true (List.all_eq_true.mp inv_all k (List.mem_range.mpr hk))
  have e : pt j = pt k := Prod.ext ha hb
  rw [← h1, ← h2, e]
theorem kAt_self {k : Nat} (hk : k < 2401) : kAt (ptA k) (ptB k) = some k := by
  cases e : kAt (ptA k) (ptB k) with
  | none =>
    have h := lst_none e k hk
    simp [atP] at h
  | some j =>
    obtain ⟨h1, h2, h3⟩ := kAt_some e
    rw [pt_inj h1 hk h2 h3]
theorem nbo_0 {k : Nat} (hk : k < 2401) : nbo k 0 = some k := by
  have h := kAt_self hk
  unfold nbo
  simpa [sA, sB] using h
theorem nbo_one {k j d e : Nat} (hd : d < 7) (he : e < 7) (h1 : nbo k d = some j) (h2 : nbo k e = some j) : d = e := by
  obtain ⟨-, a1, b1⟩ := kAt_some h1
  obtain ⟨-, a2, b2⟩ := kAt_some h2
  have ea : sA d = sA e := by omega
  have eb : sB d = sB e := by omega
  have key : ∀ d : Fin 7, ∀ e : Fin 7, sA d = sA e → sB d = sB e → d = e := by decide
  have := key ⟨d, hd⟩ ⟨e, he⟩ ea eb
  exact congrArg Fin.val this
