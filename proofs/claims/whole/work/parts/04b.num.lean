def wI (x lo hi : Int32) : Bool := decide (lo ≤ x) && decide (x ≤ hi)
theorem wI_t {x lo hi : Int32} (h1 : lo ≤ x) (h2 : x ≤ hi) : bI (wI x lo hi) = nI 1 := by simp [wI, h1, h2]; rfl
theorem wI_fl {x lo hi : Int32} (h : x < lo) : bI (wI x lo hi) = nI 0 := by
  have h1 : ¬ lo ≤ x := Int32.not_le.mpr h
  simp [wI, h1]; rfl
theorem wI_fg {x lo hi : Int32} (h : hi < x) : bI (wI x lo hi) = nI 0 := by
  have h1 : ¬ x ≤ hi := Int32.not_le.mpr h
  simp [wI, h1]; rfl
theorem wI_nat {x : Int32} {n : Nat} (h : wI x (nI 0) (nI n) = true) (hn : n < 2 ^ 31) : ∃ k : Nat, k ≤ n ∧ x = nI k := by
  simp only [wI, Bool.and_eq_true, decide_eq_true_eq] at h
  exact nI_of2 (M := nI n) (nI_toInt hn) (Int32.not_lt.mpr h.1) h.2
theorem wI_nI {k n : Nat} (hk : k < 2 ^ 31) (hn : n < 2 ^ 31) : wI (nI k) (nI 0) (nI n) = decide (k ≤ n) := by
  unfold wI
  rw [show decide (nI 0 ≤ nI k) = true from decide_eq_true (nI_le (Nat.zero_le k) hk), Bool.true_and]
  exact decide_eq_decide.mpr (nI_leI hk hn)
theorem p7_lt {L : Nat} (h : L ≤ 4) : 7 ^ L < 2 ^ 31 := Nat.lt_of_le_of_lt (Nat.pow_le_pow_right (by decide) h) (by decide)
theorem p7_le {L : Nat} (h : L ≤ 4) : 7 ^ L ≤ 2401 := Nat.le_trans (Nat.pow_le_pow_right (by decide) h) (by decide)
theorem p7_ne {L : Nat} (h : L ≤ 4) : ¬ nI (7 ^ L) = 0 := nI_ne0 (Nat.pow_pos (by decide)) (p7_lt h)
def jn (a b : Bool) (w : Nat) : Bool := match w with
  | 0 => a || b
  | 1 => a && b
  | 2 => a && !b
  | _ => a != b
def ab (x : Int32) : Int32 := if 0 ≤ x then x else 0 - x
def mx (x y : Int32) : Int32 := if x < y then y else x
theorem neg_eq (x : Int32) : -x = 0 - x := by
  apply Int32.toBitVec_inj.mp
  simp
def vAt (f : Nat → Int32) (N : Nat) (x : Int32) : Int32 := if 0 ≤ x ∧ x < nI N then f x.toNatClampNeg else -6
theorem vAt_in {f : Nat → Int32} {N i : Nat} (h : i < N) (hN : N < 2 ^ 31) : vAt f N (nI i) = f i := by
  unfold vAt
  rw [if_pos ⟨nI_pos' (Nat.lt_trans h hN), nI_lt h hN⟩, nI_clamp (Nat.lt_trans h hN)]
theorem vAt_neg {f : Nat → Int32} {N : Nat} {x : Int32} (h : x < 0) : vAt f N x = -6 := by
  unfold vAt
  rw [if_neg (fun q => absurd q.1 (Int32.not_le.mpr h))]
theorem vAt_big {f : Nat → Int32} {N i : Nat} (h : N ≤ i) (hi : i < 2 ^ 31) : vAt f N (nI i) = -6 := by
  unfold vAt
  rw [if_neg (fun q => absurd q.2 (nI_nlt h hi))]
theorem TB_hb {a N : Nat} {f : Nat → Int32} : HB (fun U => va_T .int a N (fun j => .int (f j)) (fun _ => False) U U.heap) := by
  intro U V hh hv h
  have ha : U.vm.Alike V.vm := by rw [hv]; exact Vm.Alike.refl _
  show va_T .int a N (fun j => .int (f j)) (fun _ => False) V V.heap
  rw [← hh]
  exact va_T.moved ha h
theorem TB_P {D : va_G} {cI cZ : ClassId} {s : State} {H : Heap} {ws : va_W} {a n : Nat} {f : Nat → Int32} (hK : KK D cI cZ s) (hP : va_P D vwCl ws H) (q0 : Nat) (ha : ws[q0]? = some (a, .inl (cI, n, .inl f))) (hn : n < 2 ^ 31) : ∀ U : State, U.heap = H → s.WarmedH U.vm → va_T .int a n (fun j => .int (f j)) (fun _ => False) U U.heap := by
  intro U hU hW
  have h1 : H[a]? = some (vp_cell cI (n, .inl f)) := hP q0 _ ha
  rw [hU]
  refine va_T.moved hW.alike ⟨_, h1, (hK.2 0 _ rfl).1 n (fun j => .int (f j)), (fun q => by cases q), ?_, ?_, ?_, fun q => q⟩
  · show n ≤ (arrV cI n (fun j => .int (f j))).slots.size
    rw [arrV_size]
    exact Nat.le_refl n
  · show (arrV cI n (fun j => .int (f j))).slots.size.toInt32 = Int32.ofNat n
    rw [arrV_size]
  · intro j hj
    show (arrV cI n (fun j => .int (f j))).slots[j]? = some (.int (f j))
    rw [arrV_read _ _ hj]
theorem TB_T {t N : Nat} {f : Nat → Int32} {A : Nat → Prop} {s : State} {H : Heap} {locs : List Loc} (hT : va_T .int t N (fun j => .int (f j)) A s s.heap) (hS : va_S A s.heap H locs) : ∀ U : State, U.heap = H → s.WarmedH U.vm → va_T .int t N (fun j => .int (f j)) (fun _ => False) U U.heap := by
  intro U hU hW
  rw [hU]
  exact va_T.moved hW.alike ((hT.kept hS.2.1).narrow (fun _ h => h.elim))
theorem nf_X1_valueAt : nfOk yX1_valueAt 2 := by unfold nfOk; decide +kernel
set_option maxHeartbeats 4000000 in
set_option maxRecDepth 100000 in
theorem c_X1_valueAt (l : Launch) (a N : Nat) (f : Nat → Int32) (x : Int32) (hN : N < 2 ^ 31) : Rd l yX1_valueAt wsX1_valueAt ({ frames := 0, cells := 0, slots := 0, locals := 0 }) [.ref a, .int x] (fun U => va_T .int a N (fun j => .int (f j)) (fun _ => False) U U.heap) (vAt f N x) := by
  refine met_in RX1 (by decide) rfl rfl (Nat.le_of_ble_eq_true rfl) ?_
  intro p e s m below meth c ls S hr hlocks hl hB
  have hx := S.1
  have hb := S.2.1
  have hl : lv_has ls 2 [(0, .ref a), (1, .int x)] := hl
  have hS : va_S (fun _ => False) s.heap s.heap [] := va_S.rf
  refine lv_iconst (v := nI 0) hx hb dX1_valueAt_0 (by decide) ?_
  refine lv_iload_n hx hb dX1_valueAt_1 rfl (lv_at hl 1 rfl) ?_
  refine lv_icmp_gt (tgt := 17) hx hb dX1_valueAt_2 (by decide) (fun c_2 => ?_) (fun c_2 => ?_)
  · refine lv_bipush (v := (-6)) hx hb dX1_valueAt_17 (by decide) ?_
    exact ret_i hx hb hr hlocks dX1_valueAt_19 (vAt_neg c_2).symm
  · refine lv_iload_n hx hb dX1_valueAt_5 rfl (lv_at hl 1 rfl) ?_
    refine lv_aload_n hx hb dX1_valueAt_6 rfl (lv_at hl 0 rfl) ?_
    refine va_tlen hx hb hB hS (v := nI N) rfl dX1_valueAt_7 ?_
    refine lv_icmp_ge (tgt := 17) hx hb dX1_valueAt_8 (by decide) (fun c_8 => ?_) (fun c_8 => ?_)
    · refine lv_bipush (v := (-6)) hx hb dX1_valueAt_17 (by decide) ?_
      exact ret_i hx hb hr hlocks dX1_valueAt_19 (by unfold vAt; rw [if_neg (fun q => absurd q.2 (Int32.not_lt.mpr c_8))])
    · obtain ⟨j, hj, rfl⟩ := nI_of c_2
      have hjN : j < N := by
        rcases Nat.lt_or_ge j N with q | q
        · exact q
        · exact absurd (nI_le q hj) c_8
      refine lv_aload_n hx hb dX1_valueAt_11 rfl (lv_at hl 0 rfl) ?_
      refine lv_iload_n hx hb dX1_valueAt_12 rfl (lv_at hl 1 rfl) ?_
      refine va_ti hx hb hB hS (vp_in_nI hjN hN) rfl dX1_valueAt_13 ?_
      refine lv_goto (tgt := 19) hx hb dX1_valueAt_14 (by decide) ?_
      exact ret_i hx hb hr hlocks dX1_valueAt_19 (by rw [vAt_in hjN hN, nI_clamp hj])
