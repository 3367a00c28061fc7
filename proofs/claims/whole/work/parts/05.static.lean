theorem nf_X1_within : nfOk yX1_within 3 := by unfold nfOk; decide +kernel
set_option maxHeartbeats 4000000 in
set_option maxRecDepth 100000 in
theorem c_X1_within (l : Launch) (x : Int32) (lo : Int32) (hi : Int32) : Rd l yX1_within wsX1_within ({ frames := 0, cells := 0, slots := 0, locals := 0 }) [.int x, .int lo, .int hi] (fun _ => True) (bI (wI x lo hi)) := by
  refine met_in RX1 (by decide) rfl rfl (Nat.le_of_ble_eq_true rfl) ?_
  intro p e s m below meth c ls S hr hlocks hl hB
  have hx := S.1
  have hb := S.2.1
  have hml := S.2.2.1
  have hown := S.2.2.2.1
  have hts := S.2.2.2.2
  have hl : lv_has ls 3 [(0, .int x), (1, .int lo), (2, .int hi)] := hl
  refine lv_iload_n hx hb dX1_within_0 rfl (lv_at hl 1 rfl) ?_
  refine lv_iload_n hx hb dX1_within_1 rfl (lv_at hl 0 rfl) ?_
  refine lv_icmp_gt (tgt := 14) hx hb dX1_within_2 (by decide) (fun c_2 => ?_) (fun c_2 => ?_)
  ·
    refine lv_iconst (v := nI 0) hx hb dX1_within_14 (by decide) ?_
    exact ret_z hx hb hr hlocks dX1_within_15 (by first | exact (wI_t (by first | exact Int32.not_lt.mp c_2 | assumption) (by first | exact Int32.not_lt.mp c_7 | assumption)).symm | exact (wI_fl c_2).symm | exact (wI_fg c_7).symm)
  ·
    refine lv_iload_n hx hb dX1_within_5 rfl (lv_at hl 0 rfl) ?_
    refine lv_iload_n hx hb dX1_within_6 rfl (lv_at hl 2 rfl) ?_
    refine lv_icmp_gt (tgt := 14) hx hb dX1_within_7 (by decide) (fun c_7 => ?_) (fun c_7 => ?_)
    ·
      refine lv_iconst (v := nI 0) hx hb dX1_within_14 (by decide) ?_
      exact ret_z hx hb hr hlocks dX1_within_15 (by first | exact (wI_t (by first | exact Int32.not_lt.mp c_2 | assumption) (by first | exact Int32.not_lt.mp c_7 | assumption)).symm | exact (wI_fl c_2).symm | exact (wI_fg c_7).symm)
    ·
      refine lv_iconst (v := nI 1) hx hb dX1_within_10 (by decide) ?_
      refine lv_goto (tgt := 15) hx hb dX1_within_11 (by decide) ?_
      exact ret_z hx hb hr hlocks dX1_within_15 (by first | exact (wI_t (by first | exact Int32.not_lt.mp c_2 | assumption) (by first | exact Int32.not_lt.mp c_7 | assumption)).symm | exact (wI_fl c_2).symm | exact (wI_fg c_7).symm)
theorem nf_X1_isKey : nfOk yX1_isKey 1 := by unfold nfOk; decide +kernel
set_option maxHeartbeats 4000000 in
set_option maxRecDepth 100000 in
theorem c_X1_isKey (l : Launch) (x : Int32) : Rd l yX1_isKey wsX1_isKey ({ frames := 1, cells := 0, slots := 0, locals := 22 }) [.int x] (fun _ => True) (bI (wI x (nI 0) (nI 2400))) := by
  refine met_in RX1 (by decide) rfl rfl (Nat.le_of_ble_eq_true rfl) ?_
  intro p e s m below meth c ls S hr hlocks hl hB
  have hx := S.1
  have hb := S.2.1
  have hml := S.2.2.1
  have hown := S.2.2.2.1
  have hts := S.2.2.2.2
  have hl : lv_has ls 1 [(0, .int x)] := hl
  refine lv_iload_n hx hb dX1_isKey_0 rfl (lv_at hl 0 rfl) ?_
  refine lv_iconst (v := nI 0) hx hb dX1_isKey_1 (by decide) ?_
  refine lv_sipush (v := nI 2400) hx hb dX1_isKey_2 (by decide) ?_
  refine rd_S S hl (c_X1_within l x (nI 0) (nI 2400)) HB.tt gX1_isKey_X1_within rfl nf_X1_within rfl rfl dX1_isKey_5  (fun _ _ _ => trivial) ?_
  exact ret_z hx hb hr hlocks dX1_isKey_8 (by rfl)
theorem nf_X1_isLevel : nfOk yX1_isLevel 1 := by unfold nfOk; decide +kernel
set_option maxHeartbeats 4000000 in
set_option maxRecDepth 100000 in
theorem c_X1_isLevel (l : Launch) (x : Int32) : Rd l yX1_isLevel wsX1_isLevel ({ frames := 1, cells := 0, slots := 0, locals := 22 }) [.int x] (fun _ => True) (bI (wI x (nI 0) (nI 4))) := by
  refine met_in RX1 (by decide) rfl rfl (Nat.le_of_ble_eq_true rfl) ?_
  intro p e s m below meth c ls S hr hlocks hl hB
  have hx := S.1
  have hb := S.2.1
  have hml := S.2.2.1
  have hown := S.2.2.2.1
  have hts := S.2.2.2.2
  have hl : lv_has ls 1 [(0, .int x)] := hl
  refine lv_iload_n hx hb dX1_isLevel_0 rfl (lv_at hl 0 rfl) ?_
  refine lv_iconst (v := nI 0) hx hb dX1_isLevel_1 (by decide) ?_
  refine lv_iconst (v := nI 4) hx hb dX1_isLevel_2 (by decide) ?_
  refine rd_S S hl (c_X1_within l x (nI 0) (nI 4)) HB.tt gX1_isLevel_X1_within rfl nf_X1_within rfl rfl dX1_isLevel_3  (fun _ _ _ => trivial) ?_
  exact ret_z hx hb hr hlocks dX1_isLevel_6 (by rfl)
theorem nf_X1_isSlot : nfOk yX1_isSlot 1 := by unfold nfOk; decide +kernel
set_option maxHeartbeats 4000000 in
set_option maxRecDepth 100000 in
theorem c_X1_isSlot (l : Launch) (x : Int32) : Rd l yX1_isSlot wsX1_isSlot ({ frames := 1, cells := 0, slots := 0, locals := 22 }) [.int x] (fun _ => True) (bI (wI x (nI 0) (nI 3))) := by
  refine met_in RX1 (by decide) rfl rfl (Nat.le_of_ble_eq_true rfl) ?_
  intro p e s m below meth c ls S hr hlocks hl hB
  have hx := S.1
  have hb := S.2.1
  have hml := S.2.2.1
  have hown := S.2.2.2.1
  have hts := S.2.2.2.2
  have hl : lv_has ls 1 [(0, .int x)] := hl
  refine lv_iload_n hx hb dX1_isSlot_0 rfl (lv_at hl 0 rfl) ?_
  refine lv_iconst (v := nI 0) hx hb dX1_isSlot_1 (by decide) ?_
  refine lv_iconst (v := nI 3) hx hb dX1_isSlot_2 (by decide) ?_
  refine rd_S S hl (c_X1_within l x (nI 0) (nI 3)) HB.tt gX1_isSlot_X1_within rfl nf_X1_within rfl rfl dX1_isSlot_3  (fun _ _ _ => trivial) ?_
  exact ret_z hx hb hr hlocks dX1_isSlot_6 (by rfl)
theorem nf_X1_patchSize : nfOk yX1_patchSize 1 := by unfold nfOk; decide +kernel
set_option maxHeartbeats 4000000 in
set_option maxRecDepth 100000 in
theorem c_X1_patchSize (l : Launch) (L : Nat) (hL : L ≤ 4) : Rd l yX1_patchSize wsX1_patchSize ({ frames := 0, cells := 0, slots := 0, locals := 0 }) [.int (nI L)] (fun _ => True) (nI (7 ^ L)) := by
  refine met_in RX1 (by decide) rfl rfl (Nat.le_of_ble_eq_true rfl) ?_
  intro p e s m below meth c ls S hr hlocks hl hB
  have hx := S.1
  have hb := S.2.1
  have hml := S.2.2.1
  have hown := S.2.2.2.1
  have hts := S.2.2.2.2
  have hl : lv_has ls 3 [(0, .int (nI L))] := hl
  refine lv_iconst (v := nI 1) hx hb dX1_patchSize_0 (by decide) ?_
  refine lv_istore_n (lv' := [(1, .int (nI 1)), (0, .int (nI L))]) hx hb dX1_patchSize_1 rfl hl (by decide) rfl (fun ls hl => ?_)
  refine lv_iconst (v := nI 0) hx hb dX1_patchSize_2 (by decide) ?_
  refine lv_istore_n (lv' := [(2, .int (nI 0)), (1, .int (nI 1)), (0, .int (nI L))]) hx hb dX1_patchSize_3 rfl hl (by decide) rfl (fun ls hl => ?_)
  have loop_4 : ∀ (n : Nat) (i : Nat), (i ≤ L) → L - i < n → ∀ (x1 x2 : Int32), x1 = nI (7 ^ i) → x2 = nI i → ∀ ls : Array Slot, lv_has ls 3 [(0, .int (nI L)), (1, .int x1), (2, .int x2)] → W p l e (headSpec wsX1_patchSize ({ frames := 0, cells := 0, slots := 0, locals := 0 })).room s m [.int (nI L)].toArray below meth c s.heap [] 0 0 (MQ below (vp_Si (fun r => r = nI (7 ^ L))) [.int (nI L)].toArray s 0 0 (fun _ => False)) (F0 m 4 ls []) := by
    intro n
    induction n with
    | zero => intro i hi hm; exact absurd hm (Nat.not_lt_zero _)
    | succ n ih_4 =>
      intro i hi hm_4 x1 x2 e1 e2 ls hl
      subst e1
      subst e2
      refine lv_iload_n hx hb dX1_patchSize_4 rfl (lv_at hl 2 rfl) ?_
      refine lv_iload_n hx hb dX1_patchSize_5 rfl (lv_at hl 0 rfl) ?_
      refine nv_icmp_ge (tgt := 20) hx hb dX1_patchSize_6 (by decide) (by omega) (by omega) (fun c_6 => ?_) (fun c_6 => ?_)
      ·
        have hLi : L = i := by omega
        subst hLi
        refine lv_iload_n hx hb dX1_patchSize_20 rfl (lv_at hl 1 rfl) ?_
        exact ret_i hx hb hr hlocks dX1_patchSize_21 (by rfl)
      ·
        refine lv_iload_n hx hb dX1_patchSize_9 rfl (lv_at hl 1 rfl) ?_
        refine lv_bipush (v := nI 7) hx hb dX1_patchSize_10 (by decide) ?_
        refine lv_imul hx hb dX1_patchSize_12 ?_
        refine nv_as (nI ((7 ^ i) * 7)) (pk_mul _ _) ?_
        refine lv_istore_n (lv' := [(1, .int (nI ((7 ^ i) * 7))), (0, .int (nI L)), (2, .int (nI i))]) hx hb dX1_patchSize_13 rfl hl (by decide) rfl (fun ls hl => ?_)
        refine lv_iinc (v := nI (i + 1)) (lv' := [(2, .int (nI (i + 1))), (1, .int (nI ((7 ^ i) * 7))), (0, .int (nI L))]) hx hb dX1_patchSize_14 hl (k := 2) rfl (inc_nI _) (by decide) rfl (fun ls hl => ?_)
        refine lv_goto (tgt := 4) hx hb dX1_patchSize_17 (by decide) ?_
        exact ih_4 (i + 1) (by omega) (by omega) _ _ (by first | rfl | exact congrArg nI (by omega)) (by first | rfl | exact congrArg nI (by omega)) _ (lv_sub hl [2, 1, 0] rfl)
  exact loop_4 (L - 0 + 1) 0 (by omega) (Nat.lt_succ_self _) _ _ (by first | rfl | exact congrArg nI (by omega)) rfl _ (lv_sub hl [2, 1, 0] rfl)
theorem nf_X1_patchOf : nfOk yX1_patchOf 2 := by unfold nfOk; decide +kernel
set_option maxHeartbeats 4000000 in
set_option maxRecDepth 100000 in
theorem c_X1_patchOf (l : Launch) (k : Nat) (L : Nat) (hk : k < 2 ^ 31) (hL : L ≤ 4) : Rd l yX1_patchOf wsX1_patchOf ({ frames := 1, cells := 0, slots := 0, locals := 22 }) [.int (nI k), .int (nI L)] (fun _ => True) (nI (k / 7 ^ L * 7 ^ L)) := by
  refine met_in RX1 (by decide) rfl rfl (Nat.le_of_ble_eq_true rfl) ?_
  intro p e s m below meth c ls S hr hlocks hl hB
  have hx := S.1
  have hb := S.2.1
  have hml := S.2.2.1
  have hown := S.2.2.2.1
  have hts := S.2.2.2.2
  have hl : lv_has ls 4 [(0, .int (nI k)), (1, .int (nI L))] := hl
  refine lv_iload_n hx hb dX1_patchOf_0 rfl (lv_at hl 0 rfl) ?_
  refine lv_istore_n (lv' := [(2, .int (nI k)), (0, .int (nI k)), (1, .int (nI L))]) hx hb dX1_patchOf_1 rfl hl (by decide) rfl (fun ls hl => ?_)
  refine lv_iconst (v := nI 0) hx hb dX1_patchOf_2 (by decide) ?_
  refine lv_istore_n (lv' := [(3, .int (nI 0)), (2, .int (nI k)), (0, .int (nI k)), (1, .int (nI L))]) hx hb dX1_patchOf_3 rfl hl (by decide) rfl (fun ls hl => ?_)
  have loop_4 : ∀ (n : Nat) (i : Nat), (i ≤ L) → L - i < n → ∀ (x2 x3 : Int32), x2 = nI (k / 7 ^ i) → x3 = nI i → ∀ ls : Array Slot, lv_has ls 4 [(0, .int (nI k)), (1, .int (nI L)), (2, .int x2), (3, .int x3)] → W p l e (headSpec wsX1_patchOf ({ frames := 1, cells := 0, slots := 0, locals := 22 })).room s m [.int (nI k), .int (nI L)].toArray below meth c s.heap [] 0 0 (MQ below (vp_Si (fun r => r = nI (k / 7 ^ L * 7 ^ L))) [.int (nI k), .int (nI L)].toArray s 0 0 (fun _ => False)) (F0 m 4 ls []) := by
    intro n
    induction n with
    | zero => intro i hi hm; exact absurd hm (Nat.not_lt_zero _)
    | succ n ih_4 =>
      intro i hi hm_4 x2 x3 e2 e3 ls hl
      subst e2
      subst e3
      refine lv_iload_n hx hb dX1_patchOf_4 rfl (lv_at hl 3 rfl) ?_
      refine lv_iload_n hx hb dX1_patchOf_5 rfl (lv_at hl 1 rfl) ?_
      refine nv_icmp_ge (tgt := 20) hx hb dX1_patchOf_6 (by decide) (by omega) (by omega) (fun c_6 => ?_) (fun c_6 => ?_)
      ·
        have hLi : L = i := by omega
        subst hLi
        refine lv_iload_n hx hb dX1_patchOf_20 rfl (lv_at hl 2 rfl) ?_
        refine lv_iload_n hx hb dX1_patchOf_21 rfl (lv_at hl 1 rfl) ?_
        refine rd_S S hl (c_X1_patchSize l L (by omega)) HB.tt gX1_patchOf_X1_patchSize rfl nf_X1_patchSize rfl rfl dX1_patchOf_22  (fun _ _ _ => trivial) ?_
        refine lv_imul hx hb dX1_patchOf_25 ?_
        refine nv_as (nI ((k / 7 ^ L) * (7 ^ L))) (pk_mul _ _) ?_
        exact ret_i hx hb hr hlocks dX1_patchOf_26 (by rfl)
      ·
        refine lv_iload_n hx hb dX1_patchOf_9 rfl (lv_at hl 2 rfl) ?_
        refine lv_bipush (v := nI 7) hx hb dX1_patchOf_10 (by decide) ?_
        have hq : k / 7 ^ i ≤ k := Nat.div_le_self _ _
        refine lv_idiv hx hb dX1_patchOf_12 (by decide) ?_
        refine nv_as (nI ((k / 7 ^ i) / 7)) (pk_div (by omega) (by omega) (by omega)) ?_
        refine lv_istore_n (lv' := [(2, .int (nI ((k / 7 ^ i) / 7))), (0, .int (nI k)), (1, .int (nI L)), (3, .int (nI i))]) hx hb dX1_patchOf_13 rfl hl (by decide) rfl (fun ls hl => ?_)
        refine lv_iinc (v := nI (i + 1)) (lv' := [(3, .int (nI (i + 1))), (2, .int (nI ((k / 7 ^ i) / 7))), (0, .int (nI k)), (1, .int (nI L))]) hx hb dX1_patchOf_14 hl (k := 3) rfl (inc_nI _) (by decide) rfl (fun ls hl => ?_)
        refine lv_goto (tgt := 4) hx hb dX1_patchOf_17 (by decide) ?_
        exact ih_4 (i + 1) (by omega) (by omega) _ _ (by rw [Nat.div_div_eq_div_mul, ← Nat.pow_succ]) (by first | rfl | exact congrArg nI (by omega)) _ (lv_sub hl [2, 3, 1, 0] rfl)
  exact loop_4 (L - 0 + 1) 0 (by omega) (Nat.lt_succ_self _) _ _ (by rw [Nat.pow_zero, Nat.div_one]) rfl _ (lv_sub hl [2, 3, 1, 0] rfl)
theorem nf_X1_joined : nfOk yX1_joined 3 := by unfold nfOk; decide +kernel
set_option maxHeartbeats 4000000 in
set_option maxRecDepth 100000 in
theorem c_X1_joined (l : Launch) (a : Bool) (b : Bool) (w : Nat) (hw : w < 4) : Rd l yX1_joined wsX1_joined ({ frames := 0, cells := 0, slots := 0, locals := 0 }) [.int (bI a), .int (bI b), .int (nI w)] (fun _ => True) (bI (jn a b w)) := by
  refine met_in RX1 (by decide) rfl rfl (Nat.le_of_ble_eq_true rfl) ?_
  intro p e s m below meth c ls S hr hlocks hl hB
  have hx := S.1
  have hb := S.2.1
  have hml := S.2.2.1
  have hown := S.2.2.2.1
  have hts := S.2.2.2.2
  have hl : lv_has ls 3 [(0, .int (bI a)), (1, .int (bI b)), (2, .int (nI w))] := hl
  refine lv_iload_n hx hb dX1_joined_0 rfl (lv_at hl 2 rfl) ?_
  rcases (show w = 0 ∨ w = 1 ∨ w = 2 ∨ w = 3 by omega) with rfl | rfl | rfl | rfl
  ·
    refine lv_tableIn (off := 27) (tgt := 28) hx hb dX1_joined_1 (by decide) (by decide) (by decide) (by decide) ?_
    refine lv_iload_n hx hb dX1_joined_28 rfl (lv_at hl 0 rfl) ?_
    refine nv_ifz_ne (tgt := 36) hx hb dX1_joined_29 (by decide) (fun c_29 => ?_) (fun c_29 => ?_)
    ·
      refine lv_iconst (v := nI 1) hx hb dX1_joined_36 (by decide) ?_
      refine lv_goto (tgt := 41) hx hb dX1_joined_37 (by decide) ?_
      exact ret_z hx hb hr hlocks dX1_joined_41 (by cases a <;> cases b <;> first | rfl | contradiction | exact absurd c_72 (by decide))
    ·
      refine lv_iload_n hx hb dX1_joined_32 rfl (lv_at hl 1 rfl) ?_
      refine nv_ifz_eq (tgt := 40) hx hb dX1_joined_33 (by decide) (fun c_33 => ?_) (fun c_33 => ?_)
      ·
        refine lv_iconst (v := nI 0) hx hb dX1_joined_40 (by decide) ?_
        exact ret_z hx hb hr hlocks dX1_joined_41 (by cases a <;> cases b <;> first | rfl | contradiction | exact absurd c_72 (by decide))
      ·
        refine lv_iconst (v := nI 1) hx hb dX1_joined_36 (by decide) ?_
        refine lv_goto (tgt := 41) hx hb dX1_joined_37 (by decide) ?_
        exact ret_z hx hb hr hlocks dX1_joined_41 (by cases a <;> cases b <;> first | rfl | contradiction | exact absurd c_72 (by decide))
  ·
    refine lv_tableIn (off := 41) (tgt := 42) hx hb dX1_joined_1 (by decide) (by decide) (by decide) (by decide) ?_
    refine lv_iload_n hx hb dX1_joined_42 rfl (lv_at hl 0 rfl) ?_
    refine nv_ifz_eq (tgt := 54) hx hb dX1_joined_43 (by decide) (fun c_43 => ?_) (fun c_43 => ?_)
    ·
      refine lv_iconst (v := nI 0) hx hb dX1_joined_54 (by decide) ?_
      exact ret_z hx hb hr hlocks dX1_joined_55 (by cases a <;> cases b <;> first | rfl | contradiction | exact absurd c_72 (by decide))
    ·
      refine lv_iload_n hx hb dX1_joined_46 rfl (lv_at hl 1 rfl) ?_
      refine nv_ifz_eq (tgt := 54) hx hb dX1_joined_47 (by decide) (fun c_47 => ?_) (fun c_47 => ?_)
      ·
        refine lv_iconst (v := nI 0) hx hb dX1_joined_54 (by decide) ?_
        exact ret_z hx hb hr hlocks dX1_joined_55 (by cases a <;> cases b <;> first | rfl | contradiction | exact absurd c_72 (by decide))
      ·
        refine lv_iconst (v := nI 1) hx hb dX1_joined_50 (by decide) ?_
        refine lv_goto (tgt := 55) hx hb dX1_joined_51 (by decide) ?_
        exact ret_z hx hb hr hlocks dX1_joined_55 (by cases a <;> cases b <;> first | rfl | contradiction | exact absurd c_72 (by decide))
  ·
    refine lv_tableIn (off := 55) (tgt := 56) hx hb dX1_joined_1 (by decide) (by decide) (by decide) (by decide) ?_
    refine lv_iload_n hx hb dX1_joined_56 rfl (lv_at hl 0 rfl) ?_
    refine nv_ifz_eq (tgt := 68) hx hb dX1_joined_57 (by decide) (fun c_57 => ?_) (fun c_57 => ?_)
    ·
      refine lv_iconst (v := nI 0) hx hb dX1_joined_68 (by decide) ?_
      exact ret_z hx hb hr hlocks dX1_joined_69 (by cases a <;> cases b <;> first | rfl | contradiction | exact absurd c_72 (by decide))
    ·
      refine lv_iload_n hx hb dX1_joined_60 rfl (lv_at hl 1 rfl) ?_
      refine nv_ifz_ne (tgt := 68) hx hb dX1_joined_61 (by decide) (fun c_61 => ?_) (fun c_61 => ?_)
      ·
        refine lv_iconst (v := nI 0) hx hb dX1_joined_68 (by decide) ?_
        exact ret_z hx hb hr hlocks dX1_joined_69 (by cases a <;> cases b <;> first | rfl | contradiction | exact absurd c_72 (by decide))
      ·
        refine lv_iconst (v := nI 1) hx hb dX1_joined_64 (by decide) ?_
        refine lv_goto (tgt := 69) hx hb dX1_joined_65 (by decide) ?_
        exact ret_z hx hb hr hlocks dX1_joined_69 (by cases a <;> cases b <;> first | rfl | contradiction | exact absurd c_72 (by decide))
  ·
    refine lv_tableOut (tgt := 70) hx hb dX1_joined_1 (Or.inr (by decide)) (by decide) ?_
    refine lv_iload_n hx hb dX1_joined_70 rfl (lv_at hl 0 rfl) ?_
    refine lv_iload_n hx hb dX1_joined_71 rfl (lv_at hl 1 rfl) ?_
    refine lv_icmp_eq (tgt := 79) hx hb dX1_joined_72 (by decide) (fun c_72 => ?_) (fun c_72 => ?_)
    ·
      refine lv_iconst (v := nI 0) hx hb dX1_joined_79 (by decide) ?_
      exact ret_z hx hb hr hlocks dX1_joined_80 (by cases a <;> cases b <;> first | rfl | contradiction | exact absurd c_72 (by decide))
    ·
      refine lv_iconst (v := nI 1) hx hb dX1_joined_75 (by decide) ?_
      refine lv_goto (tgt := 80) hx hb dX1_joined_76 (by decide) ?_
      exact ret_z hx hb hr hlocks dX1_joined_80 (by cases a <;> cases b <;> first | rfl | contradiction | exact absurd c_72 (by decide))
theorem nf_X1_imageShift : nfOk yX1_imageShift 1 := by unfold nfOk; decide +kernel
set_option maxHeartbeats 4000000 in
set_option maxRecDepth 100000 in
theorem c_X1_imageShift (l : Launch) (k : Nat) : Rd l yX1_imageShift wsX1_imageShift ({ frames := 0, cells := 0, slots := 0, locals := 0 }) [.int (nI k)] (fun _ => True) (nI (4 * (k + 1))) := by
  refine met_in RX1 (by decide) rfl rfl (Nat.le_of_ble_eq_true rfl) ?_
  intro p e s m below meth c ls S hr hlocks hl hB
  have hx := S.1
  have hb := S.2.1
  have hml := S.2.2.1
  have hown := S.2.2.2.1
  have hts := S.2.2.2.2
  have hl : lv_has ls 1 [(0, .int (nI k))] := hl
  refine lv_iconst (v := nI 4) hx hb dX1_imageShift_0 (by decide) ?_
  refine lv_iload_n hx hb dX1_imageShift_1 rfl (lv_at hl 0 rfl) ?_
  refine lv_iconst (v := nI 1) hx hb dX1_imageShift_2 (by decide) ?_
  refine lv_iadd hx hb dX1_imageShift_3 ?_
  refine nv_as (nI (k + 1)) (nI_add _ _) ?_
  refine lv_imul hx hb dX1_imageShift_4 ?_
  refine nv_as (nI (4 * (k + 1))) (pk_mul _ _) ?_
  exact ret_i hx hb hr hlocks dX1_imageShift_5 (by rfl)
theorem nf_X2_in : nfOk yX2_in 3 := by unfold nfOk; decide +kernel
set_option maxHeartbeats 4000000 in
set_option maxRecDepth 100000 in
theorem c_X2_in (l : Launch) (x : Int32) (lo : Int32) (hi : Int32) : Rd l yX2_in wsX2_in ({ frames := 0, cells := 0, slots := 0, locals := 0 }) [.int x, .int lo, .int hi] (fun _ => True) (bI (wI x lo hi)) := by
  refine met_in RX2 (by decide) rfl rfl (Nat.le_of_ble_eq_true rfl) ?_
  intro p e s m below meth c ls S hr hlocks hl hB
  have hx := S.1
  have hb := S.2.1
  have hml := S.2.2.1
  have hown := S.2.2.2.1
  have hts := S.2.2.2.2
  have hl : lv_has ls 3 [(0, .int x), (1, .int lo), (2, .int hi)] := hl
  refine lv_iload_n hx hb dX2_in_0 rfl (lv_at hl 0 rfl) ?_
  refine lv_iload_n hx hb dX2_in_1 rfl (lv_at hl 1 rfl) ?_
  refine lv_icmp_lt (tgt := 14) hx hb dX2_in_2 (by decide) (fun c_2 => ?_) (fun c_2 => ?_)
  ·
    refine lv_iconst (v := nI 0) hx hb dX2_in_14 (by decide) ?_
    exact ret_z hx hb hr hlocks dX2_in_15 (by first | exact (wI_t (by first | exact Int32.not_lt.mp c_2 | assumption) (by first | exact Int32.not_lt.mp c_7 | assumption)).symm | exact (wI_fl c_2).symm | exact (wI_fg c_7).symm)
  ·
    refine lv_iload_n hx hb dX2_in_5 rfl (lv_at hl 0 rfl) ?_
    refine lv_iload_n hx hb dX2_in_6 rfl (lv_at hl 2 rfl) ?_
    refine lv_icmp_gt (tgt := 14) hx hb dX2_in_7 (by decide) (fun c_7 => ?_) (fun c_7 => ?_)
    ·
      refine lv_iconst (v := nI 0) hx hb dX2_in_14 (by decide) ?_
      exact ret_z hx hb hr hlocks dX2_in_15 (by first | exact (wI_t (by first | exact Int32.not_lt.mp c_2 | assumption) (by first | exact Int32.not_lt.mp c_7 | assumption)).symm | exact (wI_fl c_2).symm | exact (wI_fg c_7).symm)
    ·
      refine lv_iconst (v := nI 1) hx hb dX2_in_10 (by decide) ?_
      refine lv_goto (tgt := 15) hx hb dX2_in_11 (by decide) ?_
      exact ret_z hx hb hr hlocks dX2_in_15 (by first | exact (wI_t (by first | exact Int32.not_lt.mp c_2 | assumption) (by first | exact Int32.not_lt.mp c_7 | assumption)).symm | exact (wI_fl c_2).symm | exact (wI_fg c_7).symm)
theorem nf_X2_isKey : nfOk yX2_isKey 1 := by unfold nfOk; decide +kernel
set_option maxHeartbeats 4000000 in
set_option maxRecDepth 100000 in
theorem c_X2_isKey (l : Launch) (x : Int32) : Rd l yX2_isKey wsX2_isKey ({ frames := 1, cells := 0, slots := 0, locals := 22 }) [.int x] (fun _ => True) (bI (wI x (nI 0) (nI 2400))) := by
  refine met_in RX2 (by decide) rfl rfl (Nat.le_of_ble_eq_true rfl) ?_
  intro p e s m below meth c ls S hr hlocks hl hB
  have hx := S.1
  have hb := S.2.1
  have hml := S.2.2.1
  have hown := S.2.2.2.1
  have hts := S.2.2.2.2
  have hl : lv_has ls 1 [(0, .int x)] := hl
  refine lv_iload_n hx hb dX2_isKey_0 rfl (lv_at hl 0 rfl) ?_
  refine lv_iconst (v := nI 0) hx hb dX2_isKey_1 (by decide) ?_
  refine lv_sipush (v := nI 2400) hx hb dX2_isKey_2 (by decide) ?_
  refine rd_S S hl (c_X2_in l x (nI 0) (nI 2400)) HB.tt gX2_isKey_X2_in rfl nf_X2_in rfl rfl dX2_isKey_5  (fun _ _ _ => trivial) ?_
  exact ret_z hx hb hr hlocks dX2_isKey_8 (by rfl)
theorem nf_X2_isLevel : nfOk yX2_isLevel 1 := by unfold nfOk; decide +kernel
set_option maxHeartbeats 4000000 in
set_option maxRecDepth 100000 in
theorem c_X2_isLevel (l : Launch) (x : Int32) : Rd l yX2_isLevel wsX2_isLevel ({ frames := 1, cells := 0, slots := 0, locals := 22 }) [.int x] (fun _ => True) (bI (wI x (nI 0) (nI 4))) := by
  refine met_in RX2 (by decide) rfl rfl (Nat.le_of_ble_eq_true rfl) ?_
  intro p e s m below meth c ls S hr hlocks hl hB
  have hx := S.1
  have hb := S.2.1
  have hml := S.2.2.1
  have hown := S.2.2.2.1
  have hts := S.2.2.2.2
  have hl : lv_has ls 1 [(0, .int x)] := hl
  refine lv_iload_n hx hb dX2_isLevel_0 rfl (lv_at hl 0 rfl) ?_
  refine lv_iconst (v := nI 0) hx hb dX2_isLevel_1 (by decide) ?_
  refine lv_iconst (v := nI 4) hx hb dX2_isLevel_2 (by decide) ?_
  refine rd_S S hl (c_X2_in l x (nI 0) (nI 4)) HB.tt gX2_isLevel_X2_in rfl nf_X2_in rfl rfl dX2_isLevel_3  (fun _ _ _ => trivial) ?_
  exact ret_z hx hb hr hlocks dX2_isLevel_6 (by rfl)
theorem nf_X2_isSlot : nfOk yX2_isSlot 1 := by unfold nfOk; decide +kernel
set_option maxHeartbeats 4000000 in
set_option maxRecDepth 100000 in
theorem c_X2_isSlot (l : Launch) (x : Int32) : Rd l yX2_isSlot wsX2_isSlot ({ frames := 1, cells := 0, slots := 0, locals := 22 }) [.int x] (fun _ => True) (bI (wI x (nI 0) (nI 3))) := by
  refine met_in RX2 (by decide) rfl rfl (Nat.le_of_ble_eq_true rfl) ?_
  intro p e s m below meth c ls S hr hlocks hl hB
  have hx := S.1
  have hb := S.2.1
  have hml := S.2.2.1
  have hown := S.2.2.2.1
  have hts := S.2.2.2.2
  have hl : lv_has ls 1 [(0, .int x)] := hl
  refine lv_iload_n hx hb dX2_isSlot_0 rfl (lv_at hl 0 rfl) ?_
  refine lv_iconst (v := nI 0) hx hb dX2_isSlot_1 (by decide) ?_
  refine lv_iconst (v := nI 3) hx hb dX2_isSlot_2 (by decide) ?_
  refine rd_S S hl (c_X2_in l x (nI 0) (nI 3)) HB.tt gX2_isSlot_X2_in rfl nf_X2_in rfl rfl dX2_isSlot_3  (fun _ _ _ => trivial) ?_
  exact ret_z hx hb hr hlocks dX2_isSlot_6 (by rfl)
theorem nf_X2_hexes : nfOk yX2_hexes 1 := by unfold nfOk; decide +kernel
set_option maxHeartbeats 4000000 in
set_option maxRecDepth 100000 in
theorem c_X2_hexes (l : Launch) (L : Nat) (hL : L ≤ 4) : Rd l yX2_hexes wsX2_hexes ({ frames := 0, cells := 0, slots := 0, locals := 0 }) [.int (nI L)] (fun _ => True) (nI (7 ^ L)) := by
  refine met_in RX2 (by decide) rfl rfl (Nat.le_of_ble_eq_true rfl) ?_
  intro p e s m below meth c ls S hr hlocks hl hB
  have hx := S.1
  have hb := S.2.1
  have hml := S.2.2.1
  have hown := S.2.2.2.1
  have hts := S.2.2.2.2
  have hl : lv_has ls 3 [(0, .int (nI L))] := hl
  refine lv_iconst (v := nI 1) hx hb dX2_hexes_0 (by decide) ?_
  refine lv_istore_n (lv' := [(1, .int (nI 1)), (0, .int (nI L))]) hx hb dX2_hexes_1 rfl hl (by decide) rfl (fun ls hl => ?_)
  refine lv_iconst (v := nI 0) hx hb dX2_hexes_2 (by decide) ?_
  refine lv_istore_n (lv' := [(2, .int (nI 0)), (1, .int (nI 1)), (0, .int (nI L))]) hx hb dX2_hexes_3 rfl hl (by decide) rfl (fun ls hl => ?_)
  have loop_4 : ∀ (n : Nat) (i : Nat), (i ≤ L) → L - i < n → ∀ (x1 x2 : Int32), x1 = nI (7 ^ i) → x2 = nI i → ∀ ls : Array Slot, lv_has ls 3 [(0, .int (nI L)), (1, .int x1), (2, .int x2)] → W p l e (headSpec wsX2_hexes ({ frames := 0, cells := 0, slots := 0, locals := 0 })).room s m [.int (nI L)].toArray below meth c s.heap [] 0 0 (MQ below (vp_Si (fun r => r = nI (7 ^ L))) [.int (nI L)].toArray s 0 0 (fun _ => False)) (F0 m 4 ls []) := by
    intro n
    induction n with
    | zero => intro i hi hm; exact absurd hm (Nat.not_lt_zero _)
    | succ n ih_4 =>
      intro i hi hm_4 x1 x2 e1 e2 ls hl
      subst e1
      subst e2
      refine lv_iload_n hx hb dX2_hexes_4 rfl (lv_at hl 2 rfl) ?_
      refine lv_iload_n hx hb dX2_hexes_5 rfl (lv_at hl 0 rfl) ?_
      refine nv_icmp_ge (tgt := 20) hx hb dX2_hexes_6 (by decide) (by omega) (by omega) (fun c_6 => ?_) (fun c_6 => ?_)
      ·
        have hLi : L = i := by omega
        subst hLi
        refine lv_iload_n hx hb dX2_hexes_20 rfl (lv_at hl 1 rfl) ?_
        exact ret_i hx hb hr hlocks dX2_hexes_21 (by rfl)
      ·
        refine lv_iload_n hx hb dX2_hexes_9 rfl (lv_at hl 1 rfl) ?_
        refine lv_bipush (v := nI 7) hx hb dX2_hexes_10 (by decide) ?_
        refine lv_imul hx hb dX2_hexes_12 ?_
        refine nv_as (nI ((7 ^ i) * 7)) (pk_mul _ _) ?_
        refine lv_istore_n (lv' := [(1, .int (nI ((7 ^ i) * 7))), (0, .int (nI L)), (2, .int (nI i))]) hx hb dX2_hexes_13 rfl hl (by decide) rfl (fun ls hl => ?_)
        refine lv_iinc (v := nI (i + 1)) (lv' := [(2, .int (nI (i + 1))), (1, .int (nI ((7 ^ i) * 7))), (0, .int (nI L))]) hx hb dX2_hexes_14 hl (k := 2) rfl (inc_nI _) (by decide) rfl (fun ls hl => ?_)
        refine lv_goto (tgt := 4) hx hb dX2_hexes_17 (by decide) ?_
        exact ih_4 (i + 1) (by omega) (by omega) _ _ (by first | rfl | exact congrArg nI (by omega)) (by first | rfl | exact congrArg nI (by omega)) _ (lv_sub hl [2, 1, 0] rfl)
  exact loop_4 (L - 0 + 1) 0 (by omega) (Nat.lt_succ_self _) _ _ (by first | rfl | exact congrArg nI (by omega)) rfl _ (lv_sub hl [2, 1, 0] rfl)
theorem nf_X2_patchOf : nfOk yX2_patchOf 2 := by unfold nfOk; decide +kernel
set_option maxHeartbeats 4000000 in
set_option maxRecDepth 100000 in
theorem c_X2_patchOf (l : Launch) (k : Nat) (L : Nat) (hk : k < 2 ^ 31) (hL : L ≤ 4) : Rd l yX2_patchOf wsX2_patchOf ({ frames := 1, cells := 0, slots := 0, locals := 22 }) [.int (nI k), .int (nI L)] (fun _ => True) (nI (k / 7 ^ L * 7 ^ L)) := by
  refine met_in RX2 (by decide) rfl rfl (Nat.le_of_ble_eq_true rfl) ?_
  intro p e s m below meth c ls S hr hlocks hl hB
  have hx := S.1
  have hb := S.2.1
  have hml := S.2.2.1
  have hown := S.2.2.2.1
  have hts := S.2.2.2.2
  have hl : lv_has ls 2 [(0, .int (nI k)), (1, .int (nI L))] := hl
  refine lv_iload_n hx hb dX2_patchOf_0 rfl (lv_at hl 0 rfl) ?_
  refine lv_iload_n hx hb dX2_patchOf_1 rfl (lv_at hl 1 rfl) ?_
  refine rd_S S hl (c_X2_hexes l L (by omega)) HB.tt gX2_patchOf_X2_hexes rfl nf_X2_hexes rfl rfl dX2_patchOf_2  (fun _ _ _ => trivial) ?_
  refine lv_idiv hx hb dX2_patchOf_5 (p7_ne hL) ?_
  refine nv_as (nI (k / 7 ^ L)) (by exact pk_div hk (Nat.pow_pos (by decide)) (p7_lt hL)) ?_
  refine lv_iload_n hx hb dX2_patchOf_6 rfl (lv_at hl 1 rfl) ?_
  refine rd_S S hl (c_X2_hexes l L (by omega)) HB.tt gX2_patchOf_X2_hexes rfl nf_X2_hexes rfl rfl dX2_patchOf_7  (fun _ _ _ => trivial) ?_
  refine lv_imul hx hb dX2_patchOf_10 ?_
  refine nv_as (nI ((k / 7 ^ L) * (7 ^ L))) (pk_mul _ _) ?_
  exact ret_i hx hb hr hlocks dX2_patchOf_11 (by rfl)
theorem nf_X2_sideA : nfOk yX2_sideA 1 := by unfold nfOk; decide +kernel
set_option maxHeartbeats 4000000 in
set_option maxRecDepth 100000 in
theorem c_X2_sideA (l : Launch) (d : Nat) (hd : d < 7) : Rd l yX2_sideA wsX2_sideA ({ frames := 0, cells := 0, slots := 0, locals := 0 }) [.int (nI d)] (fun _ => True) (iI (sA d)) := by
  refine met_in RX2 (by decide) rfl rfl (Nat.le_of_ble_eq_true rfl) ?_
  intro p e s m below meth c ls S hr hlocks hl hB
  have hx := S.1
  have hb := S.2.1
  have hml := S.2.2.1
  have hown := S.2.2.2.1
  have hts := S.2.2.2.2
  have hl : lv_has ls 1 [(0, .int (nI d))] := hl
  refine lv_iload_n hx hb dX2_sideA_0 rfl (lv_at hl 0 rfl) ?_
  refine lv_iconst (v := nI 1) hx hb dX2_sideA_1 (by decide) ?_
  refine nv_icmp_eq (tgt := 11) hx hb dX2_sideA_2 (by decide) (by omega) (by omega) (fun c_2 => ?_) (fun c_2 => ?_)
  ·
    refine lv_iconst (v := nI 1) hx hb dX2_sideA_11 (by decide) ?_
    refine lv_goto (tgt := 30) hx hb dX2_sideA_12 (by decide) ?_
    exact ret_i hx hb hr hlocks dX2_sideA_30 (by rcases (show d = 0 ∨ d = 1 ∨ d = 2 ∨ d = 3 ∨ d = 4 ∨ d = 5 ∨ d = 6 by omega) with rfl | rfl | rfl | rfl | rfl | rfl | rfl <;> first | rfl | (exfalso; omega))
  ·
    refine lv_iload_n hx hb dX2_sideA_5 rfl (lv_at hl 0 rfl) ?_
    refine lv_bipush (v := nI 6) hx hb dX2_sideA_6 (by decide) ?_
    refine nv_icmp_ne (tgt := 15) hx hb dX2_sideA_8 (by decide) (by omega) (by omega) (fun c_8 => ?_) (fun c_8 => ?_)
    ·
      refine lv_iload_n hx hb dX2_sideA_15 rfl (lv_at hl 0 rfl) ?_
      refine lv_iconst (v := nI 3) hx hb dX2_sideA_16 (by decide) ?_
      refine nv_icmp_eq (tgt := 25) hx hb dX2_sideA_17 (by decide) (by omega) (by omega) (fun c_17 => ?_) (fun c_17 => ?_)
      ·
        refine lv_iconst (v := (-1)) hx hb dX2_sideA_25 (by decide) ?_
        refine lv_goto (tgt := 30) hx hb dX2_sideA_26 (by decide) ?_
        exact ret_i hx hb hr hlocks dX2_sideA_30 (by rcases (show d = 0 ∨ d = 1 ∨ d = 2 ∨ d = 3 ∨ d = 4 ∨ d = 5 ∨ d = 6 by omega) with rfl | rfl | rfl | rfl | rfl | rfl | rfl <;> first | rfl | (exfalso; omega))
      ·
        refine lv_iload_n hx hb dX2_sideA_20 rfl (lv_at hl 0 rfl) ?_
        refine lv_iconst (v := nI 4) hx hb dX2_sideA_21 (by decide) ?_
        refine nv_icmp_ne (tgt := 29) hx hb dX2_sideA_22 (by decide) (by omega) (by omega) (fun c_22 => ?_) (fun c_22 => ?_)
        ·
          refine lv_iconst (v := nI 0) hx hb dX2_sideA_29 (by decide) ?_
          exact ret_i hx hb hr hlocks dX2_sideA_30 (by rcases (show d = 0 ∨ d = 1 ∨ d = 2 ∨ d = 3 ∨ d = 4 ∨ d = 5 ∨ d = 6 by omega) with rfl | rfl | rfl | rfl | rfl | rfl | rfl <;> first | rfl | (exfalso; omega))
        ·
          refine lv_iconst (v := (-1)) hx hb dX2_sideA_25 (by decide) ?_
          refine lv_goto (tgt := 30) hx hb dX2_sideA_26 (by decide) ?_
          exact ret_i hx hb hr hlocks dX2_sideA_30 (by rcases (show d = 0 ∨ d = 1 ∨ d = 2 ∨ d = 3 ∨ d = 4 ∨ d = 5 ∨ d = 6 by omega) with rfl | rfl | rfl | rfl | rfl | rfl | rfl <;> first | rfl | (exfalso; omega))
    ·
      refine lv_iconst (v := nI 1) hx hb dX2_sideA_11 (by decide) ?_
      refine lv_goto (tgt := 30) hx hb dX2_sideA_12 (by decide) ?_
      exact ret_i hx hb hr hlocks dX2_sideA_30 (by rcases (show d = 0 ∨ d = 1 ∨ d = 2 ∨ d = 3 ∨ d = 4 ∨ d = 5 ∨ d = 6 by omega) with rfl | rfl | rfl | rfl | rfl | rfl | rfl <;> first | rfl | (exfalso; omega))
theorem nf_X2_sideB : nfOk yX2_sideB 1 := by unfold nfOk; decide +kernel
set_option maxHeartbeats 4000000 in
set_option maxRecDepth 100000 in
theorem c_X2_sideB (l : Launch) (d : Nat) (hd : d < 7) : Rd l yX2_sideB wsX2_sideB ({ frames := 0, cells := 0, slots := 0, locals := 0 }) [.int (nI d)] (fun _ => True) (iI (sB d)) := by
  refine met_in RX2 (by decide) rfl rfl (Nat.le_of_ble_eq_true rfl) ?_
  intro p e s m below meth c ls S hr hlocks hl hB
  have hx := S.1
  have hb := S.2.1
  have hml := S.2.2.1
  have hown := S.2.2.2.1
  have hts := S.2.2.2.2
  have hl : lv_has ls 1 [(0, .int (nI d))] := hl
  refine lv_iload_n hx hb dX2_sideB_0 rfl (lv_at hl 0 rfl) ?_
  refine lv_iconst (v := nI 2) hx hb dX2_sideB_1 (by decide) ?_
  refine nv_icmp_eq (tgt := 10) hx hb dX2_sideB_2 (by decide) (by omega) (by omega) (fun c_2 => ?_) (fun c_2 => ?_)
  ·
    refine lv_iconst (v := nI 1) hx hb dX2_sideB_10 (by decide) ?_
    refine lv_goto (tgt := 30) hx hb dX2_sideB_11 (by decide) ?_
    exact ret_i hx hb hr hlocks dX2_sideB_30 (by rcases (show d = 0 ∨ d = 1 ∨ d = 2 ∨ d = 3 ∨ d = 4 ∨ d = 5 ∨ d = 6 by omega) with rfl | rfl | rfl | rfl | rfl | rfl | rfl <;> first | rfl | (exfalso; omega))
  ·
    refine lv_iload_n hx hb dX2_sideB_5 rfl (lv_at hl 0 rfl) ?_
    refine lv_iconst (v := nI 3) hx hb dX2_sideB_6 (by decide) ?_
    refine nv_icmp_ne (tgt := 14) hx hb dX2_sideB_7 (by decide) (by omega) (by omega) (fun c_7 => ?_) (fun c_7 => ?_)
    ·
      refine lv_iload_n hx hb dX2_sideB_14 rfl (lv_at hl 0 rfl) ?_
      refine lv_iconst (v := nI 5) hx hb dX2_sideB_15 (by decide) ?_
      refine nv_icmp_eq (tgt := 25) hx hb dX2_sideB_16 (by decide) (by omega) (by omega) (fun c_16 => ?_) (fun c_16 => ?_)
      ·
        refine lv_iconst (v := (-1)) hx hb dX2_sideB_25 (by decide) ?_
        refine lv_goto (tgt := 30) hx hb dX2_sideB_26 (by decide) ?_
        exact ret_i hx hb hr hlocks dX2_sideB_30 (by rcases (show d = 0 ∨ d = 1 ∨ d = 2 ∨ d = 3 ∨ d = 4 ∨ d = 5 ∨ d = 6 by omega) with rfl | rfl | rfl | rfl | rfl | rfl | rfl <;> first | rfl | (exfalso; omega))
      ·
        refine lv_iload_n hx hb dX2_sideB_19 rfl (lv_at hl 0 rfl) ?_
        refine lv_bipush (v := nI 6) hx hb dX2_sideB_20 (by decide) ?_
        refine nv_icmp_ne (tgt := 29) hx hb dX2_sideB_22 (by decide) (by omega) (by omega) (fun c_22 => ?_) (fun c_22 => ?_)
        ·
          refine lv_iconst (v := nI 0) hx hb dX2_sideB_29 (by decide) ?_
          exact ret_i hx hb hr hlocks dX2_sideB_30 (by rcases (show d = 0 ∨ d = 1 ∨ d = 2 ∨ d = 3 ∨ d = 4 ∨ d = 5 ∨ d = 6 by omega) with rfl | rfl | rfl | rfl | rfl | rfl | rfl <;> first | rfl | (exfalso; omega))
        ·
          refine lv_iconst (v := (-1)) hx hb dX2_sideB_25 (by decide) ?_
          refine lv_goto (tgt := 30) hx hb dX2_sideB_26 (by decide) ?_
          exact ret_i hx hb hr hlocks dX2_sideB_30 (by rcases (show d = 0 ∨ d = 1 ∨ d = 2 ∨ d = 3 ∨ d = 4 ∨ d = 5 ∨ d = 6 by omega) with rfl | rfl | rfl | rfl | rfl | rfl | rfl <;> first | rfl | (exfalso; omega))
    ·
      refine lv_iconst (v := nI 1) hx hb dX2_sideB_10 (by decide) ?_
      refine lv_goto (tgt := 30) hx hb dX2_sideB_11 (by decide) ?_
      exact ret_i hx hb hr hlocks dX2_sideB_30 (by rcases (show d = 0 ∨ d = 1 ∨ d = 2 ∨ d = 3 ∨ d = 4 ∨ d = 5 ∨ d = 6 by omega) with rfl | rfl | rfl | rfl | rfl | rfl | rfl <;> first | rfl | (exfalso; omega))
theorem nf_X2_size : nfOk yX2_size 1 := by unfold nfOk; decide +kernel
set_option maxHeartbeats 4000000 in
set_option maxRecDepth 100000 in
theorem c_X2_size (l : Launch) (x : Int32) : Rd l yX2_size wsX2_size ({ frames := 0, cells := 0, slots := 0, locals := 0 }) [.int x] (fun _ => True) (ab x) := by
  refine met_in RX2 (by decide) rfl rfl (Nat.le_of_ble_eq_true rfl) ?_
  intro p e s m below meth c ls S hr hlocks hl hB
  have hx := S.1
  have hb := S.2.1
  have hml := S.2.2.1
  have hown := S.2.2.2.1
  have hts := S.2.2.2.2
  have hl : lv_has ls 1 [(0, .int x)] := hl
  refine lv_iload_n hx hb dX2_size_0 rfl (lv_at hl 0 rfl) ?_
  refine lv_if_ge (tgt := 9) hx hb dX2_size_1 (by decide) (fun c_1 => ?_) (fun c_1 => ?_)
  ·
    refine lv_iload_n hx hb dX2_size_9 rfl (lv_at hl 0 rfl) ?_
    exact ret_i hx hb hr hlocks dX2_size_10 (by first | (unfold ab; rw [if_pos c_1]) | (unfold ab; rw [if_neg c_1, neg_eq]))
  ·
    refine lv_iload_n hx hb dX2_size_4 rfl (lv_at hl 0 rfl) ?_
    refine lv_ineg hx hb dX2_size_5 ?_
    refine lv_goto (tgt := 10) hx hb dX2_size_6 (by decide) ?_
    exact ret_i hx hb hr hlocks dX2_size_10 (by first | (unfold ab; rw [if_pos c_1]) | (unfold ab; rw [if_neg c_1, neg_eq]))
