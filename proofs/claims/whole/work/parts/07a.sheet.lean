theorem nf_X0_cellAt : nfOk yX0_cellAt 2 := by unfold nfOk; decide +kernel
set_option maxHeartbeats 4000000 in
set_option maxRecDepth 100000 in
theorem c_X0_cellAt (l : Launch) (a : Int32) (b : Int32) : Rd l yX0_cellAt wsX0_cellAt ({ frames := 0, cells := 0, slots := 0, locals := 0 }) [.int a, .int b] (fun _ => True) ((a + nI 32) * nI 65 + b + nI 32) := by
  refine met_in RX0 (by decide) rfl rfl (Nat.le_of_ble_eq_true rfl) ?_
  intro p e s m below meth c ls S hr hlocks hl hB
  have hx := S.1
  have hb := S.2.1
  have hml := S.2.2.1
  have hown := S.2.2.2.1
  have hts := S.2.2.2.2
  have hl : lv_has ls 2 [(0, .int a), (1, .int b)] := hl
  refine lv_iload_n hx hb dX0_cellAt_0 rfl (lv_at hl 0 rfl) ?_
  refine lv_bipush (v := nI 32) hx hb dX0_cellAt_1 (by decide) ?_
  refine lv_iadd hx hb dX0_cellAt_3 ?_
  refine lv_bipush (v := nI 65) hx hb dX0_cellAt_4 (by decide) ?_
  refine lv_imul hx hb dX0_cellAt_6 ?_
  refine lv_iload_n hx hb dX0_cellAt_7 rfl (lv_at hl 1 rfl) ?_
  refine lv_iadd hx hb dX0_cellAt_8 ?_
  refine lv_bipush (v := nI 32) hx hb dX0_cellAt_9 (by decide) ?_
  refine lv_iadd hx hb dX0_cellAt_11 ?_
  exact ret_i hx hb hr hlocks dX0_cellAt_12 (by first | rfl | simp_all)
theorem nf_X0_pointA : nfOk yX0_pointA 1 := by unfold nfOk; decide +kernel
set_option maxHeartbeats 4000000 in
set_option maxRecDepth 100000 in
theorem c_X0_pointA (l : Launch) (D : va_G) (cI cZ : ClassId) (ρ : Nat → Nat) (ts : Nat) (σ : Nat → Nat → Bool) (κ : Int32) (mk : Nat → Int32) (qu : Nat → Int32) (k : Nat) (hk : k < 2401) : Rd l yX0_pointA wsX0_pointA ({ frames := 1, cells := 0, slots := 0, locals := 21 }) [.ref (ρ 1), .int (nI k)] (XB D cI cZ ρ ts σ κ mk qu) (iI (ptA k)) := by
  refine met_in RX0 (by decide) rfl rfl (Nat.le_of_ble_eq_true rfl) ?_
  intro p e s m below meth c ls S hr hlocks hl hB
  have hx := S.1
  have hb := S.2.1
  have hml := S.2.2.1
  have hown := S.2.2.2.1
  have hts := S.2.2.2.2
  have hl : lv_has ls 2 [(0, .ref (ρ 1)), (1, .int (nI k))] := hl
  obtain ⟨⟨held, hRel, hP⟩, hXK⟩ := hB
  have hK := hXK.1
  have hS : va_S (xA 7 ρ) s.heap s.heap [] := va_S.rf
  have hcl := cellN_lt hk
  refine lv_aload_n hx hb dX0_pointA_0 rfl (lv_at hl 0 rfl) ?_
  refine va_get (D := D) (ci := 0) (v := .ref (ρ 5)) (C := RX0) (T := TX0) (N := 2) hx hb hts (by decide +kernel) hown hK hP 1 rfl rfl 0 (by decide) (hts (.fieldLink RX0 9 "SevenKeys$Sheet" "cells" "[I") (by decide +kernel)) (fun _ h9 => h9) rfl dX0_pointA_1 ?_
  refine lv_iload_n hx hb dX0_pointA_4 rfl (lv_at hl 1 rfl) ?_
  refine rd_SN S hl (c_X1_valueAt l (ρ 5) 2401 cellF (nI k) (by decide)) TB_hb gX0_pointA_X1_valueAt_n31 rfl nf_X1_valueAt rfl rfl dX0_pointA_5 hXK.2.2.2.2.1 (hts (.initialized RX1) (by decide +kernel)) (hts (.static yX1_valueAt) (by decide +kernel))  (TB_P hK hP 5 rfl (by decide)) ?_
  refine nv_as (nI (cellN k)) (by exact vAt_in hk (by decide)) ?_
  refine lv_bipush (v := nI 65) hx hb dX0_pointA_8 (by decide) ?_
  refine lv_idiv hx hb dX0_pointA_10 (by decide) ?_
  refine nv_as (nI ((cellN k) / 65)) (pk_div (by omega) (by omega) (by omega)) ?_
  refine lv_bipush (v := nI 32) hx hb dX0_pointA_11 (by decide) ?_
  refine lv_isub hx hb dX0_pointA_13 ?_
  exact ret_i hx hb hr hlocks dX0_pointA_14 (by exact pA_leaf hk)
theorem nf_X0_pointB : nfOk yX0_pointB 1 := by unfold nfOk; decide +kernel
set_option maxHeartbeats 4000000 in
set_option maxRecDepth 100000 in
theorem c_X0_pointB (l : Launch) (D : va_G) (cI cZ : ClassId) (ρ : Nat → Nat) (ts : Nat) (σ : Nat → Nat → Bool) (κ : Int32) (mk : Nat → Int32) (qu : Nat → Int32) (k : Nat) (hk : k < 2401) : Rd l yX0_pointB wsX0_pointB ({ frames := 1, cells := 0, slots := 0, locals := 21 }) [.ref (ρ 1), .int (nI k)] (XB D cI cZ ρ ts σ κ mk qu) (iI (ptB k)) := by
  refine met_in RX0 (by decide) rfl rfl (Nat.le_of_ble_eq_true rfl) ?_
  intro p e s m below meth c ls S hr hlocks hl hB
  have hx := S.1
  have hb := S.2.1
  have hml := S.2.2.1
  have hown := S.2.2.2.1
  have hts := S.2.2.2.2
  have hl : lv_has ls 2 [(0, .ref (ρ 1)), (1, .int (nI k))] := hl
  obtain ⟨⟨held, hRel, hP⟩, hXK⟩ := hB
  have hK := hXK.1
  have hS : va_S (xA 7 ρ) s.heap s.heap [] := va_S.rf
  have hcl := cellN_lt hk
  refine lv_aload_n hx hb dX0_pointB_0 rfl (lv_at hl 0 rfl) ?_
  refine va_get (D := D) (ci := 0) (v := .ref (ρ 5)) (C := RX0) (T := TX0) (N := 2) hx hb hts (by decide +kernel) hown hK hP 1 rfl rfl 0 (by decide) (hts (.fieldLink RX0 9 "SevenKeys$Sheet" "cells" "[I") (by decide +kernel)) (fun _ h9 => h9) rfl dX0_pointB_1 ?_
  refine lv_iload_n hx hb dX0_pointB_4 rfl (lv_at hl 1 rfl) ?_
  refine rd_SN S hl (c_X1_valueAt l (ρ 5) 2401 cellF (nI k) (by decide)) TB_hb gX0_pointB_X1_valueAt_n31 rfl nf_X1_valueAt rfl rfl dX0_pointB_5 hXK.2.2.2.2.1 (hts (.initialized RX1) (by decide +kernel)) (hts (.static yX1_valueAt) (by decide +kernel))  (TB_P hK hP 5 rfl (by decide)) ?_
  refine nv_as (nI (cellN k)) (by exact vAt_in hk (by decide)) ?_
  refine lv_bipush (v := nI 65) hx hb dX0_pointB_8 (by decide) ?_
  refine lv_irem hx hb dX0_pointB_10 (by decide) ?_
  refine nv_as (nI ((cellN k) % 65)) (pk_rem (by omega) (by omega) (by omega)) ?_
  refine lv_bipush (v := nI 32) hx hb dX0_pointB_11 (by decide) ?_
  refine lv_isub hx hb dX0_pointB_13 ?_
  exact ret_i hx hb hr hlocks dX0_pointB_14 (by exact pB_leaf hk)
theorem nf_X0_keyOf : nfOk yX0_keyOf 2 := by unfold nfOk; decide +kernel
set_option maxHeartbeats 4000000 in
set_option maxRecDepth 100000 in
theorem c_X0_keyOf (l : Launch) (D : va_G) (cI cZ : ClassId) (ρ : Nat → Nat) (ts : Nat) (σ : Nat → Nat → Bool) (κ : Int32) (mk : Nat → Int32) (qu : Nat → Int32) (a : Int) (b : Int) (ha : -100 ≤ a ∧ a ≤ 100) (hbb : -100 ≤ b ∧ b ≤ 100) : Rd l yX0_keyOf wsX0_keyOf ({ frames := 1, cells := 0, slots := 0, locals := 22 }) [.ref (ρ 1), .int (iI a), .int (iI b)] (XB D cI cZ ρ ts σ κ mk qu) (oI (kAt a b)) := by
  refine met_in RX0 (by decide) rfl rfl (Nat.le_of_ble_eq_true rfl) ?_
  intro p e s m below meth c ls S hr hlocks hl hB
  have hx := S.1
  have hb := S.2.1
  have hml := S.2.2.1
  have hown := S.2.2.2.1
  have hts := S.2.2.2.2
  have hl : lv_has ls 3 [(0, .ref (ρ 1)), (1, .int (iI a)), (2, .int (iI b))] := hl
  obtain ⟨⟨held, hRel, hP⟩, hXK⟩ := hB
  have hK := hXK.1
  have hS : va_S (xA 7 ρ) s.heap s.heap [] := va_S.rf
  refine lv_iload_n hx hb dX0_keyOf_0 rfl (lv_at hl 1 rfl) ?_
  refine lv_bipush (v := (-32)) hx hb dX0_keyOf_1 (by decide) ?_
  refine lv_bipush (v := nI 32) hx hb dX0_keyOf_3 (by decide) ?_
  refine rd_SN S hl (c_X1_within l (iI a) (-32) (nI 32)) HB.tt gX0_keyOf_X1_within_n42 rfl nf_X1_within rfl rfl dX0_keyOf_5 hXK.2.2.2.2.2 (hts (.initialized RX1) (by decide +kernel)) (hts (.static yX1_within) (by decide +kernel))  (fun _ _ _ => trivial) ?_
  refine nv_ifz_eq (tgt := 22) hx hb dX0_keyOf_8 (by decide) (fun c_8 => ?_) (fun c_8 => ?_)
  ·
    have q1 : ¬ (-32 ≤ a ∧ a ≤ 32) := fun q => absurd ((w32 ha).mpr q) (by rw [c_8]; decide)
    refine lv_bipush (v := (-6)) hx hb dX0_keyOf_22 (by decide) ?_
    exact ret_i hx hb hr hlocks dX0_keyOf_24 (by first | exact ko_out (fun q => q2 q.2) | exact ko_out (fun q => q1 q.1))
  ·
    have q1 := (w32 ha).mp c_8
    refine lv_iload_n hx hb dX0_keyOf_11 rfl (lv_at hl 2 rfl) ?_
    refine lv_bipush (v := (-32)) hx hb dX0_keyOf_12 (by decide) ?_
    refine lv_bipush (v := nI 32) hx hb dX0_keyOf_14 (by decide) ?_
    refine rd_SN S hl (c_X1_within l (iI b) (-32) (nI 32)) HB.tt gX0_keyOf_X1_within_n42 rfl nf_X1_within rfl rfl dX0_keyOf_16 hXK.2.2.2.2.2 (hts (.initialized RX1) (by decide +kernel)) (hts (.static yX1_within) (by decide +kernel))  (fun _ _ _ => trivial) ?_
    refine nv_ifz_ne (tgt := 25) hx hb dX0_keyOf_19 (by decide) (fun c_19 => ?_) (fun c_19 => ?_)
    ·
      have q2 := (w32 hbb).mp c_19
      refine lv_aload_n hx hb dX0_keyOf_25 rfl (lv_at hl 0 rfl) ?_
      refine va_get (D := D) (ci := 0) (v := .ref (ρ 6)) (C := RX0) (T := TX0) (N := 2) hx hb hts (by decide +kernel) hown hK hP 1 rfl rfl 1 (by decide) (hts (.fieldLink RX0 15 "SevenKeys$Sheet" "keys" "[I") (by decide +kernel)) (fun _ h9 => h9) rfl dX0_keyOf_26 ?_
      refine lv_iload_n hx hb dX0_keyOf_29 rfl (lv_at hl 1 rfl) ?_
      refine lv_iload_n hx hb dX0_keyOf_30 rfl (lv_at hl 2 rfl) ?_
      refine rd_S S hl (c_X0_cellAt l (iI a) (iI b)) HB.tt gX0_keyOf_X0_cellAt rfl nf_X0_cellAt rfl rfl dX0_keyOf_31  (fun _ _ _ => trivial) ?_
      refine rd_SN S hl (c_X1_valueAt l (ρ 6) 4225 keyF (((iI a) + nI 32) * nI 65 + (iI b) + nI 32) (by decide)) TB_hb gX0_keyOf_X1_valueAt_n31 rfl nf_X1_valueAt rfl rfl dX0_keyOf_34 hXK.2.2.2.2.1 (hts (.initialized RX1) (by decide +kernel)) (hts (.static yX1_valueAt) (by decide +kernel))  (TB_P hK hP 6 rfl (by decide)) ?_
      refine nv_as (oI (kAt a b)) (by exact ko_leaf q1 q2) ?_
      exact ret_i hx hb hr hlocks dX0_keyOf_37 (by rfl)
    ·
      have q2 : ¬ (-32 ≤ b ∧ b ≤ 32) := fun q => absurd ((w32 hbb).mpr q) (by rw [c_19]; decide)
      refine lv_bipush (v := (-6)) hx hb dX0_keyOf_22 (by decide) ?_
      exact ret_i hx hb hr hlocks dX0_keyOf_24 (by first | exact ko_out (fun q => q2 q.2) | exact ko_out (fun q => q1 q.1))
theorem nf_X0_neighbour : nfOk yX0_neighbour 2 := by unfold nfOk; decide +kernel
set_option maxHeartbeats 4000000 in
set_option maxRecDepth 100000 in
theorem c_X0_neighbour (l : Launch) (D : va_G) (cI cZ : ClassId) (ρ : Nat → Nat) (ts : Nat) (σ : Nat → Nat → Bool) (κ : Int32) (mk : Nat → Int32) (qu : Nat → Int32) (k : Nat) (d : Nat) (hk : k < 2401) (hd : d < 7) : Rd l yX0_neighbour wsX0_neighbour ({ frames := 1, cells := 0, slots := 0, locals := 21 }) [.ref (ρ 1), .int (nI k), .int (nI d)] (XB D cI cZ ρ ts σ κ mk qu) (oI (nbo k d)) := by
  refine met_in RX0 (by decide) rfl rfl (Nat.le_of_ble_eq_true rfl) ?_
  intro p e s m below meth c ls S hr hlocks hl hB
  have hx := S.1
  have hb := S.2.1
  have hml := S.2.2.1
  have hown := S.2.2.2.1
  have hts := S.2.2.2.2
  have hl : lv_has ls 3 [(0, .ref (ρ 1)), (1, .int (nI k)), (2, .int (nI d))] := hl
  obtain ⟨⟨held, hRel, hP⟩, hXK⟩ := hB
  have hK := hXK.1
  have hS : va_S (xA 7 ρ) s.heap s.heap [] := va_S.rf
  refine lv_aload_n hx hb dX0_neighbour_0 rfl (lv_at hl 0 rfl) ?_
  refine va_get (D := D) (ci := 0) (v := .ref (ρ 6)) (C := RX0) (T := TX0) (N := 2) hx hb hts (by decide +kernel) hown hK hP 1 rfl rfl 1 (by decide) (hts (.fieldLink RX0 15 "SevenKeys$Sheet" "keys" "[I") (by decide +kernel)) (fun _ h9 => h9) rfl dX0_neighbour_1 ?_
  refine lv_aload_n hx hb dX0_neighbour_4 rfl (lv_at hl 0 rfl) ?_
  refine va_get (D := D) (ci := 0) (v := .ref (ρ 5)) (C := RX0) (T := TX0) (N := 2) hx hb hts (by decide +kernel) hown hK hP 1 rfl rfl 0 (by decide) (hts (.fieldLink RX0 9 "SevenKeys$Sheet" "cells" "[I") (by decide +kernel)) (fun _ h9 => h9) rfl dX0_neighbour_5 ?_
  refine lv_iload_n hx hb dX0_neighbour_8 rfl (lv_at hl 1 rfl) ?_
  refine rd_SN S hl (c_X1_valueAt l (ρ 5) 2401 cellF (nI k) (by decide)) TB_hb gX0_neighbour_X1_valueAt_n31 rfl nf_X1_valueAt rfl rfl dX0_neighbour_9 hXK.2.2.2.2.1 (hts (.initialized RX1) (by decide +kernel)) (hts (.static yX1_valueAt) (by decide +kernel))  (TB_P hK hP 5 rfl (by decide)) ?_
  refine nv_as (nI (cellN k)) (by exact vAt_in hk (by decide)) ?_
  refine va_gets hx hb hXK.2.2.1 hS hown (hts (.fieldLink RX0 46 "SevenKeys$Sheet" "SIDE_STEPS" "[I") (by decide +kernel)) (fun _ h9 => h9) dX0_neighbour_12 ?_
  refine lv_iload_n hx hb dX0_neighbour_15 rfl (lv_at hl 2 rfl) ?_
  refine rd_SN S hl (c_X1_valueAt l ts 7 stF (nI d) (by decide)) TB_hb gX0_neighbour_X1_valueAt_n31 rfl nf_X1_valueAt rfl rfl dX0_neighbour_16 hXK.2.2.2.2.1 (hts (.initialized RX1) (by decide +kernel)) (hts (.static yX1_valueAt) (by decide +kernel))  (TB_T hXK.2.2.2.1 hS) ?_
  refine nv_as (stF d) (by exact vAt_in hd (by decide)) ?_
  refine lv_iadd hx hb dX0_neighbour_19 ?_
  refine rd_SN S hl (c_X1_valueAt l (ρ 6) 4225 keyF ((nI (cellN k)) + (stF d)) (by decide)) TB_hb gX0_neighbour_X1_valueAt_n31 rfl nf_X1_valueAt rfl rfl dX0_neighbour_20 hXK.2.2.2.2.1 (hts (.initialized RX1) (by decide +kernel)) (hts (.static yX1_valueAt) (by decide +kernel))  (TB_P hK hP 6 rfl (by decide)) ?_
  refine nv_as (oI (nbo k d)) (by exact nb_leaf hk hd) ?_
  exact ret_i hx hb hr hlocks dX0_neighbour_23 (by rfl)
theorem nf_X0_stepsApart : nfOk yX0_stepsApart 2 := by unfold nfOk; decide +kernel
set_option maxHeartbeats 4000000 in
set_option maxRecDepth 100000 in
theorem c_X0_stepsApart (l : Launch) (D : va_G) (cI cZ : ClassId) (ρ : Nat → Nat) (ts : Nat) (σ : Nat → Nat → Bool) (κ : Int32) (mk : Nat → Int32) (qu : Nat → Int32) (j : Nat) (k : Nat) (hj : j < 2401) (hk : k < 2401) : Rd l yX0_stepsApart wsX0_stepsApart ({ frames := 2, cells := 0, slots := 0, locals := 42 }) [.ref (ρ 1), .int (nI j), .int (nI k)] (XB D cI cZ ρ ts σ κ mk qu) (farI j k) := by
  refine met_in RX0 (by decide) rfl rfl (Nat.le_of_ble_eq_true rfl) ?_
  intro p e s m below meth c ls S hr hlocks hl hB
  have hx := S.1
  have hb := S.2.1
  have hml := S.2.2.1
  have hown := S.2.2.2.1
  have hts := S.2.2.2.2
  have hl : lv_has ls 5 [(0, .ref (ρ 1)), (1, .int (nI j)), (2, .int (nI k))] := hl
  obtain ⟨⟨held, hRel, hP⟩, hXK⟩ := hB
  have hK := hXK.1
  have hS : va_S (xA 7 ρ) s.heap s.heap [] := va_S.rf
  refine lv_aload_n hx hb dX0_stepsApart_0 rfl (lv_at hl 0 rfl) ?_
  refine lv_iload_n hx hb dX0_stepsApart_1 rfl (lv_at hl 1 rfl) ?_
  refine rd_V S hl (c_X0_pointA l D cI cZ ρ ts σ κ mk qu j (by omega)) XB.hb gX0_stepsApart_X0_pointA rfl rfl nf_X0_pointA rfl rfl dX0_stepsApart_2 (XP.rc1 hXK hP) (XB.at hXK hS ⟨held, hRel, hP⟩) ?_
  refine lv_aload_n hx hb dX0_stepsApart_5 rfl (lv_at hl 0 rfl) ?_
  refine lv_iload_n hx hb dX0_stepsApart_6 rfl (lv_at hl 2 rfl) ?_
  refine rd_V S hl (c_X0_pointA l D cI cZ ρ ts σ κ mk qu k (by omega)) XB.hb gX0_stepsApart_X0_pointA rfl rfl nf_X0_pointA rfl rfl dX0_stepsApart_7 (XP.rc1 hXK hP) (XB.at hXK hS ⟨held, hRel, hP⟩) ?_
  refine lv_isub hx hb dX0_stepsApart_10 ?_
  refine lv_istore_n (lv' := [(3, .int ((iI (ptA j)) - (iI (ptA k)))), (0, .ref (ρ 1)), (1, .int (nI j)), (2, .int (nI k))]) hx hb dX0_stepsApart_11 rfl hl (by decide) rfl (fun ls hl => ?_)
  refine lv_aload_n hx hb dX0_stepsApart_12 rfl (lv_at hl 1 rfl) ?_
  refine lv_iload_n hx hb dX0_stepsApart_13 rfl (lv_at hl 2 rfl) ?_
  refine rd_V S hl (c_X0_pointB l D cI cZ ρ ts σ κ mk qu j (by omega)) XB.hb gX0_stepsApart_X0_pointB rfl rfl nf_X0_pointB rfl rfl dX0_stepsApart_14 (XP.rc1 hXK hP) (XB.at hXK hS ⟨held, hRel, hP⟩) ?_
  refine lv_aload_n hx hb dX0_stepsApart_17 rfl (lv_at hl 1 rfl) ?_
  refine lv_iload_n hx hb dX0_stepsApart_18 rfl (lv_at hl 3 rfl) ?_
  refine rd_V S hl (c_X0_pointB l D cI cZ ρ ts σ κ mk qu k (by omega)) XB.hb gX0_stepsApart_X0_pointB rfl rfl nf_X0_pointB rfl rfl dX0_stepsApart_19 (XP.rc1 hXK hP) (XB.at hXK hS ⟨held, hRel, hP⟩) ?_
  refine lv_isub hx hb dX0_stepsApart_22 ?_
  refine lv_istore (lv' := [(4, .int ((iI (ptB j)) - (iI (ptB k)))), (3, .int ((iI (ptA j)) - (iI (ptA k)))), (0, .ref (ρ 1)), (1, .int (nI j)), (2, .int (nI k))]) hx hb dX0_stepsApart_23 hl (by decide) rfl (fun ls hl => ?_)
  refine lv_iload_n hx hb dX0_stepsApart_25 rfl (lv_at hl 1 rfl) ?_
  refine va_mabs hx hb (hml.trans hl.1.symm) hown (hts (.methodLink RX0 55 Lib.Math.abs.name) (by decide +kernel)) (hts (.static Lib.Math.abs.name) (by decide +kernel)) (hts (.initialized "java/lang/Math") (by decide +kernel)) (hts (.code Lib.Math.abs.name Lib.Math.abs.code 1 (some .int)) (by decide +kernel)) (Nat.le_of_ble_eq_true rfl) (Nat.le_of_ble_eq_true rfl) (Nat.le_of_ble_eq_true rfl) (Nat.le_of_ble_eq_true rfl) dX0_stepsApart_26 ?_
  refine lv_iload hx hb dX0_stepsApart_29 (lv_at hl 0 rfl) ?_
  refine va_mabs hx hb (hml.trans hl.1.symm) hown (hts (.methodLink RX0 55 Lib.Math.abs.name) (by decide +kernel)) (hts (.static Lib.Math.abs.name) (by decide +kernel)) (hts (.initialized "java/lang/Math") (by decide +kernel)) (hts (.code Lib.Math.abs.name Lib.Math.abs.code 1 (some .int)) (by decide +kernel)) (Nat.le_of_ble_eq_true rfl) (Nat.le_of_ble_eq_true rfl) (Nat.le_of_ble_eq_true rfl) (Nat.le_of_ble_eq_true rfl) dX0_stepsApart_31 ?_
  refine va_mmax hx hb (hml.trans hl.1.symm) hown (hts (.methodLink RX0 60 Lib.Math.max.name) (by decide +kernel)) (hts (.static Lib.Math.max.name) (by decide +kernel)) (hts (.initialized "java/lang/Math") (by decide +kernel)) (hts (.code Lib.Math.max.name Lib.Math.max.code 2 (some .int)) (by decide +kernel)) (Nat.le_of_ble_eq_true rfl) (Nat.le_of_ble_eq_true rfl) (Nat.le_of_ble_eq_true rfl) (Nat.le_of_ble_eq_true rfl) dX0_stepsApart_34 ?_
  refine lv_iload_n hx hb dX0_stepsApart_37 rfl (lv_at hl 1 rfl) ?_
  refine lv_iload hx hb dX0_stepsApart_38 (lv_at hl 0 rfl) ?_
  refine lv_iadd hx hb dX0_stepsApart_40 ?_
  refine va_mabs hx hb (hml.trans hl.1.symm) hown (hts (.methodLink RX0 55 Lib.Math.abs.name) (by decide +kernel)) (hts (.static Lib.Math.abs.name) (by decide +kernel)) (hts (.initialized "java/lang/Math") (by decide +kernel)) (hts (.code Lib.Math.abs.name Lib.Math.abs.code 1 (some .int)) (by decide +kernel)) (Nat.le_of_ble_eq_true rfl) (Nat.le_of_ble_eq_true rfl) (Nat.le_of_ble_eq_true rfl) (Nat.le_of_ble_eq_true rfl) dX0_stepsApart_41 ?_
  refine va_mmax hx hb (hml.trans hl.1.symm) hown (hts (.methodLink RX0 60 Lib.Math.max.name) (by decide +kernel)) (hts (.static Lib.Math.max.name) (by decide +kernel)) (hts (.initialized "java/lang/Math") (by decide +kernel)) (hts (.code Lib.Math.max.name Lib.Math.max.code 2 (some .int)) (by decide +kernel)) (Nat.le_of_ble_eq_true rfl) (Nat.le_of_ble_eq_true rfl) (Nat.le_of_ble_eq_true rfl) (Nat.le_of_ble_eq_true rfl) dX0_stepsApart_44 ?_
  exact ret_i hx hb hr hlocks dX0_stepsApart_47 (by rfl)
