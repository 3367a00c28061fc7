theorem nf_X1_point : nfOk yX1_point 2 := by unfold nfOk; decide +kernel
set_option maxHeartbeats 4000000 in
set_option maxRecDepth 100000 in
theorem c_X1_point (l : Launch) (D : va_G) (cI cZ : ClassId) (ρ : Nat → Nat) (ts : Nat) (σ : Nat → Nat → Bool) (κ : Int32) (mk : Nat → Int32) (qu : Nat → Int32) (x : Int32) (y : Int32) : Rd l yX1_point wsX1_point ({ frames := 2, cells := 0, slots := 0, locals := 42 }) [.ref (ρ 0), .int x, .int y] (XB D cI cZ ρ ts σ κ mk qu) (pointR x y) := by
  refine met_in RX1 (by decide) rfl rfl (Nat.le_of_ble_eq_true rfl) ?_
  intro p e s m below meth c ls S hr hlocks hl hB
  have hx := S.1
  have hb := S.2.1
  have hml := S.2.2.1
  have hown := S.2.2.2.1
  have hts := S.2.2.2.2
  have hl : lv_has ls 3 [(0, .ref (ρ 0)), (1, .int x), (2, .int y)] := hl
  obtain ⟨⟨held, hRel, hP⟩, hXK⟩ := hB
  have hK := hXK.1
  have hS : va_S (xA 7 ρ) s.heap s.heap [] := va_S.rf
  refine lv_iload_n hx hb dX1_point_0 rfl (lv_at hl 1 rfl) ?_
  refine rd_S S hl (c_X1_isKey l x) HB.tt gX1_point_X1_isKey rfl nf_X1_isKey rfl rfl dX1_point_1  (fun _ _ _ => trivial) ?_
  refine nv_ifz_eq (tgt := 16) hx hb dX1_point_4 (by decide) (fun c_4 => ?_) (fun c_4 => ?_)
  ·
    refine lv_bipush (v := (-2)) hx hb dX1_point_16 (by decide) ?_
    exact ret_i hx hb hr hlocks dX1_point_18 (by first | (simp [pointR, gd, gs, c_4, c_13]; done) | (simp [pointR, gd, gs, c_4]; done))
  ·
    obtain ⟨k, hk, hxk⟩ := wI_nat c_4 (by decide)
    subst hxk
    have hck : (nI k).toNatClampNeg = k := nI_clamp (by omega)
    refine lv_iload_n hx hb dX1_point_7 rfl (lv_at hl 2 rfl) ?_
    refine lv_iconst (v := nI 0) hx hb dX1_point_8 (by decide) ?_
    refine lv_iconst (v := nI 1) hx hb dX1_point_9 (by decide) ?_
    refine rd_S S hl (c_X1_within l y (nI 0) (nI 1)) HB.tt gX1_point_X1_within rfl nf_X1_within rfl rfl dX1_point_10  (fun _ _ _ => trivial) ?_
    refine nv_ifz_ne (tgt := 19) hx hb dX1_point_13 (by decide) (fun c_13 => ?_) (fun c_13 => ?_)
    ·
      obtain ⟨w, hw, hxw⟩ := wI_nat c_13 (by decide)
      subst hxw
      have hcw : (nI w).toNatClampNeg = w := nI_clamp (by omega)
      refine lv_sipush (v := nI 1000) hx hb dX1_point_19 (by decide) ?_
      refine lv_iload_n hx hb dX1_point_22 rfl (lv_at hl 2 rfl) ?_
      refine lv_if_ne (tgt := 37) hx hb dX1_point_23 (by decide) (fun c_23 => ?_) (fun c_23 => ?_)
      ·
        have hw0 : w ≠ 0 := fun q => c_23 (by rw [q]; rfl)
        refine lv_aload_n hx hb dX1_point_37 rfl (lv_at hl 0 rfl) ?_
        refine va_get (D := D) (ci := 1) (v := .ref (ρ 1)) (C := RX1) (T := TX1) (N := 5) hx hb hts (by decide +kernel) hown hK hP 0 rfl rfl 0 (by decide) (hts (.fieldLink RX1 10 "SevenKeys" "sheet" "LSevenKeys$Sheet;") (by decide +kernel)) (fun _ h9 => h9) rfl dX1_point_38 ?_
        refine lv_iload_n hx hb dX1_point_41 rfl (lv_at hl 1 rfl) ?_
        refine rd_V S hl (c_X0_pointB l D cI cZ ρ ts σ κ mk qu k (by omega)) XB.hb gX1_point_X0_pointB rfl rfl nf_X0_pointB rfl rfl dX1_point_42 (XP.rc1 hXK hP) (XB.at hXK hS ⟨held, hRel, hP⟩) ?_
        refine lv_iadd hx hb dX1_point_45 ?_
        exact ret_i hx hb hr hlocks dX1_point_46 (by unfold pointR gd; rw [show isK (nI k) = true from c_4, c_13, show cl (nI k) = k from hck, show cl (nI w) = w from hcw]; first | (rw [if_pos hw0]; rfl) | (rw [if_neg hw0]; rfl))
      ·
        have hw0 : w = 0 := nz0 c_23 (by omega)
        refine lv_aload_n hx hb dX1_point_26 rfl (lv_at hl 0 rfl) ?_
        refine va_get (D := D) (ci := 1) (v := .ref (ρ 1)) (C := RX1) (T := TX1) (N := 5) hx hb hts (by decide +kernel) hown hK hP 0 rfl rfl 0 (by decide) (hts (.fieldLink RX1 10 "SevenKeys" "sheet" "LSevenKeys$Sheet;") (by decide +kernel)) (fun _ h9 => h9) rfl dX1_point_27 ?_
        refine lv_iload_n hx hb dX1_point_30 rfl (lv_at hl 1 rfl) ?_
        refine rd_V S hl (c_X0_pointA l D cI cZ ρ ts σ κ mk qu k (by omega)) XB.hb gX1_point_X0_pointA rfl rfl nf_X0_pointA rfl rfl dX1_point_31 (XP.rc1 hXK hP) (XB.at hXK hS ⟨held, hRel, hP⟩) ?_
        refine lv_goto (tgt := 45) hx hb dX1_point_34 (by decide) ?_
        refine lv_iadd hx hb dX1_point_45 ?_
        exact ret_i hx hb hr hlocks dX1_point_46 (by unfold pointR gd; rw [show isK (nI k) = true from c_4, c_13, show cl (nI k) = k from hck, show cl (nI w) = w from hcw]; first | (rw [if_pos hw0]; rfl) | (rw [if_neg hw0]; rfl))
    ·
      refine lv_bipush (v := (-2)) hx hb dX1_point_16 (by decide) ?_
      exact ret_i hx hb hr hlocks dX1_point_18 (by first | (simp [pointR, gd, gs, c_4, c_13]; done) | (simp [pointR, gd, gs, c_4]; done))
theorem nf_X1_key : nfOk yX1_key 2 := by unfold nfOk; decide +kernel
set_option maxHeartbeats 4000000 in
set_option maxRecDepth 100000 in
theorem c_X1_key (l : Launch) (D : va_G) (cI cZ : ClassId) (ρ : Nat → Nat) (ts : Nat) (σ : Nat → Nat → Bool) (κ : Int32) (mk : Nat → Int32) (qu : Nat → Int32) (x : Int32) (y : Int32) : Rd l yX1_key wsX1_key ({ frames := 2, cells := 0, slots := 0, locals := 44 }) [.ref (ρ 0), .int x, .int y] (XB D cI cZ ρ ts σ κ mk qu) (keyR x y) := by
  refine met_in RX1 (by decide) rfl rfl (Nat.le_of_ble_eq_true rfl) ?_
  intro p e s m below meth c ls S hr hlocks hl hB
  have hx := S.1
  have hb := S.2.1
  have hml := S.2.2.1
  have hown := S.2.2.2.1
  have hts := S.2.2.2.2
  have hl : lv_has ls 3 [(0, .ref (ρ 0)), (1, .int x), (2, .int y)] := hl
  obtain ⟨⟨held, hRel, hP⟩, hXK⟩ := hB
  have hK := hXK.1
  have hS : va_S (xA 7 ρ) s.heap s.heap [] := va_S.rf
  refine lv_iload_n hx hb dX1_key_0 rfl (lv_at hl 1 rfl) ?_
  refine lv_bipush (v := (-100)) hx hb dX1_key_1 (by decide) ?_
  refine lv_bipush (v := nI 100) hx hb dX1_key_3 (by decide) ?_
  refine rd_S S hl (c_X1_within l x (-100) (nI 100)) HB.tt gX1_key_X1_within rfl nf_X1_within rfl rfl dX1_key_5  (fun _ _ _ => trivial) ?_
  refine nv_ifz_eq (tgt := 22) hx hb dX1_key_8 (by decide) (fun c_8 => ?_) (fun c_8 => ?_)
  ·
    refine lv_bipush (v := (-2)) hx hb dX1_key_22 (by decide) ?_
    exact ret_i hx hb hr hlocks dX1_key_24 (by first | (simp [keyR, gd, gs, c_8, c_19]; done) | (simp [keyR, gd, gs, c_8]; done))
  ·
    obtain ⟨a, ha1, ha2, hxa⟩ := w100 c_8
    subst hxa
    refine lv_iload_n hx hb dX1_key_11 rfl (lv_at hl 2 rfl) ?_
    refine lv_bipush (v := (-100)) hx hb dX1_key_12 (by decide) ?_
    refine lv_bipush (v := nI 100) hx hb dX1_key_14 (by decide) ?_
    refine rd_S S hl (c_X1_within l y (-100) (nI 100)) HB.tt gX1_key_X1_within rfl nf_X1_within rfl rfl dX1_key_16  (fun _ _ _ => trivial) ?_
    refine nv_ifz_ne (tgt := 25) hx hb dX1_key_19 (by decide) (fun c_19 => ?_) (fun c_19 => ?_)
    ·
      obtain ⟨b, hb1, hb2, hxb⟩ := w100 c_19
      subst hxb
      refine lv_aload_n hx hb dX1_key_25 rfl (lv_at hl 0 rfl) ?_
      refine va_get (D := D) (ci := 1) (v := .ref (ρ 1)) (C := RX1) (T := TX1) (N := 5) hx hb hts (by decide +kernel) hown hK hP 0 rfl rfl 0 (by decide) (hts (.fieldLink RX1 10 "SevenKeys" "sheet" "LSevenKeys$Sheet;") (by decide +kernel)) (fun _ h9 => h9) rfl dX1_key_26 ?_
      refine lv_iload_n hx hb dX1_key_29 rfl (lv_at hl 1 rfl) ?_
      refine lv_iload_n hx hb dX1_key_30 rfl (lv_at hl 2 rfl) ?_
      refine rd_V S hl (c_X0_keyOf l D cI cZ ρ ts σ κ mk qu a b (by omega) (by omega)) XB.hb gX1_key_X0_keyOf rfl rfl nf_X0_keyOf rfl rfl dX1_key_31 (XP.rc1 hXK hP) (XB.at hXK hS ⟨held, hRel, hP⟩) ?_
      exact ret_i hx hb hr hlocks dX1_key_34 (by simp [keyR, gd, c_8, c_19, iI_toInt (show -2147483648 ≤ a by omega) (show a < 2147483648 by omega), iI_toInt (show -2147483648 ≤ b by omega) (show b < 2147483648 by omega)])
    ·
      refine lv_bipush (v := (-2)) hx hb dX1_key_22 (by decide) ?_
      exact ret_i hx hb hr hlocks dX1_key_24 (by first | (simp [keyR, gd, gs, c_8, c_19]; done) | (simp [keyR, gd, gs, c_8]; done))
theorem nf_X1_next : nfOk yX1_next 2 := by unfold nfOk; decide +kernel
set_option maxHeartbeats 4000000 in
set_option maxRecDepth 100000 in
theorem c_X1_next (l : Launch) (D : va_G) (cI cZ : ClassId) (ρ : Nat → Nat) (ts : Nat) (σ : Nat → Nat → Bool) (κ : Int32) (mk : Nat → Int32) (qu : Nat → Int32) (x : Int32) (y : Int32) : Rd l yX1_next wsX1_next ({ frames := 2, cells := 0, slots := 0, locals := 43 }) [.ref (ρ 0), .int x, .int y] (XB D cI cZ ρ ts σ κ mk qu) (nextR x y) := by
  refine met_in RX1 (by decide) rfl rfl (Nat.le_of_ble_eq_true rfl) ?_
  intro p e s m below meth c ls S hr hlocks hl hB
  have hx := S.1
  have hb := S.2.1
  have hml := S.2.2.1
  have hown := S.2.2.2.1
  have hts := S.2.2.2.2
  have hl : lv_has ls 3 [(0, .ref (ρ 0)), (1, .int x), (2, .int y)] := hl
  obtain ⟨⟨held, hRel, hP⟩, hXK⟩ := hB
  have hK := hXK.1
  have hS : va_S (xA 7 ρ) s.heap s.heap [] := va_S.rf
  refine lv_iload_n hx hb dX1_next_0 rfl (lv_at hl 1 rfl) ?_
  refine rd_S S hl (c_X1_isKey l x) HB.tt gX1_next_X1_isKey rfl nf_X1_isKey rfl rfl dX1_next_1  (fun _ _ _ => trivial) ?_
  refine nv_ifz_eq (tgt := 17) hx hb dX1_next_4 (by decide) (fun c_4 => ?_) (fun c_4 => ?_)
  ·
    refine lv_bipush (v := (-2)) hx hb dX1_next_17 (by decide) ?_
    exact ret_i hx hb hr hlocks dX1_next_19 (by first | (simp [nextR, gd, gs, c_4, c_14, hck, hcd]; done) | (simp [nextR, gd, gs, c_4, c_14, hck]; done) | (simp [nextR, gd, gs, c_4, c_14]; done) | (simp [nextR, gd, gs, c_4]; done))
  ·
    obtain ⟨k, hk, hxk⟩ := wI_nat c_4 (by decide)
    subst hxk
    have hck : (nI k).toNatClampNeg = k := nI_clamp (by omega)
    refine lv_iload_n hx hb dX1_next_7 rfl (lv_at hl 2 rfl) ?_
    refine lv_iconst (v := nI 1) hx hb dX1_next_8 (by decide) ?_
    refine lv_bipush (v := nI 6) hx hb dX1_next_9 (by decide) ?_
    refine rd_S S hl (c_X1_within l y (nI 1) (nI 6)) HB.tt gX1_next_X1_within rfl nf_X1_within rfl rfl dX1_next_11  (fun _ _ _ => trivial) ?_
    refine nv_ifz_ne (tgt := 20) hx hb dX1_next_14 (by decide) (fun c_14 => ?_) (fun c_14 => ?_)
    ·
      obtain ⟨d, h1d, hd, hxd⟩ := wI_1 c_14 (by decide) (by decide)
      subst hxd
      have hcd : (nI d).toNatClampNeg = d := nI_clamp (by omega)
      refine lv_aload_n hx hb dX1_next_20 rfl (lv_at hl 0 rfl) ?_
      refine va_get (D := D) (ci := 1) (v := .ref (ρ 1)) (C := RX1) (T := TX1) (N := 5) hx hb hts (by decide +kernel) hown hK hP 0 rfl rfl 0 (by decide) (hts (.fieldLink RX1 10 "SevenKeys" "sheet" "LSevenKeys$Sheet;") (by decide +kernel)) (fun _ h9 => h9) rfl dX1_next_21 ?_
      refine lv_iload_n hx hb dX1_next_24 rfl (lv_at hl 1 rfl) ?_
      refine lv_iload_n hx hb dX1_next_25 rfl (lv_at hl 2 rfl) ?_
      refine rd_V S hl (c_X0_neighbour l D cI cZ ρ ts σ κ mk qu k d (by omega) (by omega)) XB.hb gX1_next_X0_neighbour rfl rfl nf_X0_neighbour rfl rfl dX1_next_26 (XP.rc1 hXK hP) (XB.at hXK hS ⟨held, hRel, hP⟩) ?_
      exact ret_i hx hb hr hlocks dX1_next_29 (by first | (simp [nextR, gd, gs, c_4, c_14, hck, hcd]; done) | (simp [nextR, gd, gs, c_4, c_14, hck]; done) | (simp [nextR, gd, gs, c_4, c_14]; done) | (simp [nextR, gd, gs, c_4]; done))
    ·
      refine lv_bipush (v := (-2)) hx hb dX1_next_17 (by decide) ?_
      exact ret_i hx hb hr hlocks dX1_next_19 (by first | (simp [nextR, gd, gs, c_4, c_14, hck, hcd]; done) | (simp [nextR, gd, gs, c_4, c_14, hck]; done) | (simp [nextR, gd, gs, c_4, c_14]; done) | (simp [nextR, gd, gs, c_4]; done))
theorem nf_X1_far : nfOk yX1_far 2 := by unfold nfOk; decide +kernel
set_option maxHeartbeats 4000000 in
set_option maxRecDepth 100000 in
theorem c_X1_far (l : Launch) (D : va_G) (cI cZ : ClassId) (ρ : Nat → Nat) (ts : Nat) (σ : Nat → Nat → Bool) (κ : Int32) (mk : Nat → Int32) (qu : Nat → Int32) (x : Int32) (y : Int32) : Rd l yX1_far wsX1_far ({ frames := 3, cells := 0, slots := 0, locals := 66 }) [.ref (ρ 0), .int x, .int y] (XB D cI cZ ρ ts σ κ mk qu) (farR x y) := by
  refine met_in RX1 (by decide) rfl rfl (Nat.le_of_ble_eq_true rfl) ?_
  intro p e s m below meth c ls S hr hlocks hl hB
  have hx := S.1
  have hb := S.2.1
  have hml := S.2.2.1
  have hown := S.2.2.2.1
  have hts := S.2.2.2.2
  have hl : lv_has ls 3 [(0, .ref (ρ 0)), (1, .int x), (2, .int y)] := hl
  obtain ⟨⟨held, hRel, hP⟩, hXK⟩ := hB
  have hK := hXK.1
  have hS : va_S (xA 7 ρ) s.heap s.heap [] := va_S.rf
  refine lv_iload_n hx hb dX1_far_0 rfl (lv_at hl 1 rfl) ?_
  refine rd_S S hl (c_X1_isKey l x) HB.tt gX1_far_X1_isKey rfl nf_X1_isKey rfl rfl dX1_far_1  (fun _ _ _ => trivial) ?_
  refine nv_ifz_eq (tgt := 14) hx hb dX1_far_4 (by decide) (fun c_4 => ?_) (fun c_4 => ?_)
  ·
    refine lv_bipush (v := (-2)) hx hb dX1_far_14 (by decide) ?_
    exact ret_i hx hb hr hlocks dX1_far_16 (by first | (simp [farR, gd, gs, c_4, c_11, hcj, hck]; done) | (simp [farR, gd, gs, c_4, c_11, hcj]; done) | (simp [farR, gd, gs, c_4, c_11]; done) | (simp [farR, gd, gs, c_4]; done))
  ·
    obtain ⟨j, hj, hxj⟩ := wI_nat c_4 (by decide)
    subst hxj
    have hcj : (nI j).toNatClampNeg = j := nI_clamp (by omega)
    refine lv_iload_n hx hb dX1_far_7 rfl (lv_at hl 2 rfl) ?_
    refine rd_S S hl (c_X1_isKey l y) HB.tt gX1_far_X1_isKey rfl nf_X1_isKey rfl rfl dX1_far_8  (fun _ _ _ => trivial) ?_
    refine nv_ifz_ne (tgt := 17) hx hb dX1_far_11 (by decide) (fun c_11 => ?_) (fun c_11 => ?_)
    ·
      obtain ⟨k, hk, hxk⟩ := wI_nat c_11 (by decide)
      subst hxk
      have hck : (nI k).toNatClampNeg = k := nI_clamp (by omega)
      refine lv_aload_n hx hb dX1_far_17 rfl (lv_at hl 0 rfl) ?_
      refine va_get (D := D) (ci := 1) (v := .ref (ρ 1)) (C := RX1) (T := TX1) (N := 5) hx hb hts (by decide +kernel) hown hK hP 0 rfl rfl 0 (by decide) (hts (.fieldLink RX1 10 "SevenKeys" "sheet" "LSevenKeys$Sheet;") (by decide +kernel)) (fun _ h9 => h9) rfl dX1_far_18 ?_
      refine lv_iload_n hx hb dX1_far_21 rfl (lv_at hl 1 rfl) ?_
      refine lv_iload_n hx hb dX1_far_22 rfl (lv_at hl 2 rfl) ?_
      refine rd_V S hl (c_X0_stepsApart l D cI cZ ρ ts σ κ mk qu j k (by omega) (by omega)) XB.hb gX1_far_X0_stepsApart rfl rfl nf_X0_stepsApart rfl rfl dX1_far_23 (XP.rc1 hXK hP) (XB.at hXK hS ⟨held, hRel, hP⟩) ?_
      exact ret_i hx hb hr hlocks dX1_far_26 (by first | (simp [farR, gd, gs, c_4, c_11, hcj, hck]; done) | (simp [farR, gd, gs, c_4, c_11, hcj]; done) | (simp [farR, gd, gs, c_4, c_11]; done) | (simp [farR, gd, gs, c_4]; done))
    ·
      refine lv_bipush (v := (-2)) hx hb dX1_far_14 (by decide) ?_
      exact ret_i hx hb hr hlocks dX1_far_16 (by first | (simp [farR, gd, gs, c_4, c_11, hcj, hck]; done) | (simp [farR, gd, gs, c_4, c_11, hcj]; done) | (simp [farR, gd, gs, c_4, c_11]; done) | (simp [farR, gd, gs, c_4]; done))
theorem nf_X1_side : nfOk yX1_side 2 := by unfold nfOk; decide +kernel
set_option maxHeartbeats 4000000 in
set_option maxRecDepth 100000 in
theorem c_X1_side (l : Launch) (D : va_G) (cI cZ : ClassId) (ρ : Nat → Nat) (ts : Nat) (σ : Nat → Nat → Bool) (κ : Int32) (mk : Nat → Int32) (qu : Nat → Int32) (x : Int32) (y : Int32) : Rd l yX1_side wsX1_side ({ frames := 2, cells := 0, slots := 0, locals := 43 }) [.ref (ρ 0), .int x, .int y] (XB D cI cZ ρ ts σ κ mk qu) (sideR x y) := by
  refine met_in RX1 (by decide) rfl rfl (Nat.le_of_ble_eq_true rfl) ?_
  intro p e s m below meth c ls S hr hlocks hl hB
  have hx := S.1
  have hb := S.2.1
  have hml := S.2.2.1
  have hown := S.2.2.2.1
  have hts := S.2.2.2.2
  have hl : lv_has ls 4 [(0, .ref (ρ 0)), (1, .int x), (2, .int y)] := hl
  obtain ⟨⟨held, hRel, hP⟩, hXK⟩ := hB
  have hK := hXK.1
  have hS : va_S (xA 7 ρ) s.heap s.heap [] := va_S.rf
  refine lv_iload_n hx hb dX1_side_0 rfl (lv_at hl 1 rfl) ?_
  refine rd_S S hl (c_X1_isKey l x) HB.tt gX1_side_X1_isKey rfl nf_X1_isKey rfl rfl dX1_side_1  (fun _ _ _ => trivial) ?_
  refine nv_ifz_eq (tgt := 14) hx hb dX1_side_4 (by decide) (fun c_4 => ?_) (fun c_4 => ?_)
  ·
    refine lv_bipush (v := (-2)) hx hb dX1_side_14 (by decide) ?_
    exact ret_i hx hb hr hlocks dX1_side_16 (by first | (simp [sideR, gd, gs, c_4, c_11]; done) | (simp [sideR, gd, gs, c_4]; done))
  ·
    obtain ⟨j, hj, hxj⟩ := wI_nat c_4 (by decide)
    subst hxj
    have hcj : (nI j).toNatClampNeg = j := nI_clamp (by omega)
    refine lv_iload_n hx hb dX1_side_7 rfl (lv_at hl 2 rfl) ?_
    refine rd_S S hl (c_X1_isKey l y) HB.tt gX1_side_X1_isKey rfl nf_X1_isKey rfl rfl dX1_side_8  (fun _ _ _ => trivial) ?_
    refine nv_ifz_ne (tgt := 17) hx hb dX1_side_11 (by decide) (fun c_11 => ?_) (fun c_11 => ?_)
    ·
      obtain ⟨k, hk, hxk⟩ := wI_nat c_11 (by decide)
      subst hxk
      have hck : (nI k).toNatClampNeg = k := nI_clamp (by omega)
      refine lv_iconst (v := nI 0) hx hb dX1_side_17 (by decide) ?_
      refine lv_istore_n (lv' := [(3, .int (nI 0)), (0, .ref (ρ 0)), (1, .int (nI j)), (2, .int (nI k))]) hx hb dX1_side_18 rfl hl (by decide) rfl (fun ls hl => ?_)
      have loop_19 : ∀ (n : Nat) (d : Nat), (d ≤ 7) → (∀ e, e < d → nbo j e ≠ some k) → 7 - d < n → ∀ (x3 : Int32), x3 = nI d → ∀ ls : Array Slot, lv_has ls 4 [(0, .ref (ρ 0)), (1, .int (nI j)), (2, .int (nI k)), (3, .int x3)] → W p l e (headSpec wsX1_side ({ frames := 2, cells := 0, slots := 0, locals := 43 })).room s m [.ref (ρ 0), .int (nI j), .int (nI k)].toArray below meth c s.heap [] 0 0 (MQ below (vp_Si (fun r => r = sideR (nI j) (nI k))) [.ref (ρ 0), .int (nI j), .int (nI k)].toArray s 0 0 (fun _ => False)) (F0 m 19 ls []) := by
        intro n
        induction n with
        | zero => intro d hd hno hm; exact absurd hm (Nat.not_lt_zero _)
        | succ n ih_19 =>
          intro d hd hno hm_19 x3 e3 ls hl
          subst e3
          refine lv_iload_n hx hb dX1_side_19 rfl (lv_at hl 3 rfl) ?_
          refine lv_bipush (v := nI 6) hx hb dX1_side_20 (by decide) ?_
          refine nv_icmp_gt (tgt := 46) hx hb dX1_side_22 (by decide) (by omega) (by omega) (fun c_22 => ?_) (fun c_22 => ?_)
          ·
            refine lv_bipush (v := (-6)) hx hb dX1_side_46 (by decide) ?_
            exact ret_i hx hb hr hlocks dX1_side_48 (by simp [sideR, gd, c_4, c_11, hcj, hck, lst_miss (p := sdP j k) (n := 7) (fun e he => decide_eq_false (hno e (by omega)))]; rfl)
          ·
            refine lv_aload_n hx hb dX1_side_25 rfl (lv_at hl 0 rfl) ?_
            refine va_get (D := D) (ci := 1) (v := .ref (ρ 1)) (C := RX1) (T := TX1) (N := 5) hx hb hts (by decide +kernel) hown hK hP 0 rfl rfl 0 (by decide) (hts (.fieldLink RX1 10 "SevenKeys" "sheet" "LSevenKeys$Sheet;") (by decide +kernel)) (fun _ h9 => h9) rfl dX1_side_26 ?_
            refine lv_iload_n hx hb dX1_side_29 rfl (lv_at hl 1 rfl) ?_
            refine lv_iload_n hx hb dX1_side_30 rfl (lv_at hl 3 rfl) ?_
            refine rd_V S hl (c_X0_neighbour l D cI cZ ρ ts σ κ mk qu j d (by omega) (by omega)) XB.hb gX1_side_X0_neighbour rfl rfl nf_X0_neighbour rfl rfl dX1_side_31 (XP.rc1 hXK hP) (XB.at hXK hS ⟨held, hRel, hP⟩) ?_
            refine lv_iload_n hx hb dX1_side_34 rfl (lv_at hl 2 rfl) ?_
            refine lv_icmp_ne (tgt := 40) hx hb dX1_side_35 (by decide) (fun c_35 => ?_) (fun c_35 => ?_)
            ·
              have mis : nbo j d ≠ some k := fun q => c_35 ((oI_eq (fun q h => nbo_lt h) (by omega)).mpr q)
              refine lv_iinc (v := nI (d + 1)) (lv' := [(3, .int (nI (d + 1))), (0, .ref (ρ 0)), (1, .int (nI j)), (2, .int (nI k))]) hx hb dX1_side_40 hl (k := 3) rfl (inc_nI _) (by decide) rfl (fun ls hl => ?_)
              refine lv_goto (tgt := 19) hx hb dX1_side_43 (by decide) ?_
              exact ih_19 (d + 1) (by omega) (by exact lt_s hno mis) (by omega) _ (by first | rfl | exact congrArg nI (by omega)) _ (lv_sub hl [1, 2, 3, 0] rfl)
            ·
              have hit := (oI_eq (fun q h => nbo_lt h) (by omega)).mp c_35
              refine lv_iload_n hx hb dX1_side_38 rfl (lv_at hl 3 rfl) ?_
              exact ret_i hx hb hr hlocks dX1_side_39 (by simp [sideR, gd, c_4, c_11, hcj, hck, sd_hit (show d < 7 by omega) hit])
      exact loop_19 (7 - 0 + 1) 0 (by omega) (by intro e he; omega) (Nat.lt_succ_self _) _ rfl _ (lv_sub hl [1, 2, 3, 0] rfl)
    ·
      refine lv_bipush (v := (-2)) hx hb dX1_side_14 (by decide) ?_
      exact ret_i hx hb hr hlocks dX1_side_16 (by first | (simp [sideR, gd, gs, c_4, c_11]; done) | (simp [sideR, gd, gs, c_4]; done))
theorem nf_X1_patch : nfOk yX1_patch 2 := by unfold nfOk; decide +kernel
set_option maxHeartbeats 4000000 in
set_option maxRecDepth 100000 in
theorem c_X1_patch (l : Launch) (D : va_G) (cI cZ : ClassId) (ρ : Nat → Nat) (ts : Nat) (σ : Nat → Nat → Bool) (κ : Int32) (mk : Nat → Int32) (qu : Nat → Int32) (x : Int32) (y : Int32) : Rd l yX1_patch wsX1_patch ({ frames := 2, cells := 0, slots := 0, locals := 45 }) [.ref (ρ 0), .int x, .int y] (XB D cI cZ ρ ts σ κ mk qu) (patchR x y) := by
  refine met_in RX1 (by decide) rfl rfl (Nat.le_of_ble_eq_true rfl) ?_
  intro p e s m below meth c ls S hr hlocks hl hB
  have hx := S.1
  have hb := S.2.1
  have hml := S.2.2.1
  have hown := S.2.2.2.1
  have hts := S.2.2.2.2
  have hl : lv_has ls 3 [(0, .ref (ρ 0)), (1, .int x), (2, .int y)] := hl
  obtain ⟨⟨held, hRel, hP⟩, hXK⟩ := hB
  have hK := hXK.1
  have hS : va_S (xA 7 ρ) s.heap s.heap [] := va_S.rf
  refine lv_iload_n hx hb dX1_patch_0 rfl (lv_at hl 1 rfl) ?_
  refine rd_S S hl (c_X1_isKey l x) HB.tt gX1_patch_X1_isKey rfl nf_X1_isKey rfl rfl dX1_patch_1  (fun _ _ _ => trivial) ?_
  refine nv_ifz_eq (tgt := 14) hx hb dX1_patch_4 (by decide) (fun c_4 => ?_) (fun c_4 => ?_)
  ·
    refine lv_bipush (v := (-2)) hx hb dX1_patch_14 (by decide) ?_
    exact ret_i hx hb hr hlocks dX1_patch_16 (by first | (simp [patchR, gd, gs, c_4, c_11]; done) | (simp [patchR, gd, gs, c_4]; done))
  ·
    obtain ⟨k, hk, hxk⟩ := wI_nat c_4 (by decide)
    subst hxk
    have hck : (nI k).toNatClampNeg = k := nI_clamp (by omega)
    refine lv_iload_n hx hb dX1_patch_7 rfl (lv_at hl 2 rfl) ?_
    refine rd_S S hl (c_X1_isLevel l y) HB.tt gX1_patch_X1_isLevel rfl nf_X1_isLevel rfl rfl dX1_patch_8  (fun _ _ _ => trivial) ?_
    refine nv_ifz_ne (tgt := 17) hx hb dX1_patch_11 (by decide) (fun c_11 => ?_) (fun c_11 => ?_)
    ·
      obtain ⟨L, hL, hxL⟩ := wI_nat c_11 (by decide)
      subst hxL
      have hcL : (nI L).toNatClampNeg = L := nI_clamp (by omega)
      refine lv_iload_n hx hb dX1_patch_17 rfl (lv_at hl 1 rfl) ?_
      refine lv_iload_n hx hb dX1_patch_18 rfl (lv_at hl 2 rfl) ?_
      refine rd_S S hl (c_X1_patchOf l k L (by omega) (by omega)) HB.tt gX1_patch_X1_patchOf rfl nf_X1_patchOf rfl rfl dX1_patch_19  (fun _ _ _ => trivial) ?_
      exact ret_i hx hb hr hlocks dX1_patch_22 (by simp [patchR, gd, pO, c_4, c_11, hck, hcL])
    ·
      refine lv_bipush (v := (-2)) hx hb dX1_patch_14 (by decide) ?_
      exact ret_i hx hb hr hlocks dX1_patch_16 (by first | (simp [patchR, gd, gs, c_4, c_11]; done) | (simp [patchR, gd, gs, c_4]; done))
theorem nf_X1_ring : nfOk yX1_ring 2 := by unfold nfOk; decide +kernel
set_option maxHeartbeats 4000000 in
set_option maxRecDepth 100000 in
theorem c_X1_ring (l : Launch) (D : va_G) (cI cZ : ClassId) (ρ : Nat → Nat) (ts : Nat) (σ : Nat → Nat → Bool) (κ : Int32) (mk : Nat → Int32) (qu : Nat → Int32) (x : Int32) (y : Int32) : Rd l yX1_ring wsX1_ring ({ frames := 3, cells := 0, slots := 0, locals := 66 }) [.ref (ρ 0), .int x, .int y] (XB D cI cZ ρ ts σ κ mk qu) (ringR x y) := by
  refine met_in RX1 (by decide) rfl rfl (Nat.le_of_ble_eq_true rfl) ?_
  intro p e s m below meth c ls S hr hlocks hl hB
  have hx := S.1
  have hb := S.2.1
  have hml := S.2.2.1
  have hown := S.2.2.2.1
  have hts := S.2.2.2.2
  have hl : lv_has ls 5 [(0, .ref (ρ 0)), (1, .int x), (2, .int y)] := hl
  obtain ⟨⟨held, hRel, hP⟩, hXK⟩ := hB
  have hK := hXK.1
  have hS : va_S (xA 7 ρ) s.heap s.heap [] := va_S.rf
  refine lv_iload_n hx hb dX1_ring_0 rfl (lv_at hl 1 rfl) ?_
  refine rd_S S hl (c_X1_isKey l x) HB.tt gX1_ring_X1_isKey rfl nf_X1_isKey rfl rfl dX1_ring_1  (fun _ _ _ => trivial) ?_
  refine nv_ifz_eq (tgt := 17) hx hb dX1_ring_4 (by decide) (fun c_4 => ?_) (fun c_4 => ?_)
  ·
    refine lv_bipush (v := (-2)) hx hb dX1_ring_17 (by decide) ?_
    exact ret_i hx hb hr hlocks dX1_ring_19 (by first | (simp [ringR, gd, gs, c_4, c_14]; done) | (simp [ringR, gd, gs, c_4]; done))
  ·
    obtain ⟨k, hk, hxk⟩ := wI_nat c_4 (by decide)
    subst hxk
    have hck : (nI k).toNatClampNeg = k := nI_clamp (by omega)
    refine lv_iload_n hx hb dX1_ring_7 rfl (lv_at hl 2 rfl) ?_
    refine lv_iconst (v := nI 0) hx hb dX1_ring_8 (by decide) ?_
    refine lv_bipush (v := nI 70) hx hb dX1_ring_9 (by decide) ?_
    refine rd_S S hl (c_X1_within l y (nI 0) (nI 70)) HB.tt gX1_ring_X1_within rfl nf_X1_within rfl rfl dX1_ring_11  (fun _ _ _ => trivial) ?_
    refine nv_ifz_ne (tgt := 20) hx hb dX1_ring_14 (by decide) (fun c_14 => ?_) (fun c_14 => ?_)
    ·
      obtain ⟨nn, hnn, hyn⟩ := wI_nat c_14 (by decide)
      refine lv_iconst (v := nI 0) hx hb dX1_ring_20 (by decide) ?_
      refine lv_istore_n (lv' := [(3, .int (nI 0)), (0, .ref (ρ 0)), (1, .int (nI k)), (2, .int y)]) hx hb dX1_ring_21 rfl hl (by decide) rfl (fun ls hl => ?_)
      refine lv_iconst (v := nI 0) hx hb dX1_ring_22 (by decide) ?_
      refine lv_istore (lv' := [(4, .int (nI 0)), (3, .int (nI 0)), (0, .ref (ρ 0)), (1, .int (nI k)), (2, .int y)]) hx hb dX1_ring_23 hl (by decide) rfl (fun ls hl => ?_)
      have loop_25 : ∀ (n : Nat) (i : Nat), (i ≤ 2401) → 2401 - i < n → ∀ (x3 x4 : Int32), x3 = nI (fb_ct (fun j => decide (farI k j = y)) i) → x4 = nI i → ∀ ls : Array Slot, lv_has ls 5 [(0, .ref (ρ 0)), (1, .int (nI k)), (2, .int y), (3, .int x3), (4, .int x4)] → W p l e (headSpec wsX1_ring ({ frames := 3, cells := 0, slots := 0, locals := 66 })).room s m [.ref (ρ 0), .int (nI k), .int y].toArray below meth c s.heap [] 0 0 (MQ below (vp_Si (fun r => r = ringR (nI k) y)) [.ref (ρ 0), .int (nI k), .int y].toArray s 0 0 (fun _ => False)) (F0 m 25 ls []) := by
        intro n
        induction n with
        | zero => intro i hi hm; exact absurd hm (Nat.not_lt_zero _)
        | succ n ih_25 =>
          intro i hi hm_25 x3 x4 e3 e4 ls hl
          subst e3
          subst e4
          refine lv_iload hx hb dX1_ring_25 (lv_at hl 4 rfl) ?_
          refine lv_sipush (v := nI 2401) hx hb dX1_ring_27 (by decide) ?_
          refine nv_icmp_ge (tgt := 56) hx hb dX1_ring_30 (by decide) (by omega) (by omega) (fun c_30 => ?_) (fun c_30 => ?_)
          ·
            refine lv_iload_n hx hb dX1_ring_56 rfl (lv_at hl 3 rfl) ?_
            exact ret_i hx hb hr hlocks dX1_ring_57 (by simp [ringR, gd, c_4, c_14, hck, show i = 2401 by omega])
          ·
            refine lv_aload_n hx hb dX1_ring_33 rfl (lv_at hl 0 rfl) ?_
            refine va_get (D := D) (ci := 1) (v := .ref (ρ 1)) (C := RX1) (T := TX1) (N := 5) hx hb hts (by decide +kernel) hown hK hP 0 rfl rfl 0 (by decide) (hts (.fieldLink RX1 10 "SevenKeys" "sheet" "LSevenKeys$Sheet;") (by decide +kernel)) (fun _ h9 => h9) rfl dX1_ring_34 ?_
            refine lv_iload_n hx hb dX1_ring_37 rfl (lv_at hl 1 rfl) ?_
            refine lv_iload hx hb dX1_ring_38 (lv_at hl 4 rfl) ?_
            refine rd_V S hl (c_X0_stepsApart l D cI cZ ρ ts σ κ mk qu k i (by omega) (by omega)) XB.hb gX1_ring_X0_stepsApart rfl rfl nf_X0_stepsApart rfl rfl dX1_ring_40 (XP.rc1 hXK hP) (XB.at hXK hS ⟨held, hRel, hP⟩) ?_
            refine lv_iload_n hx hb dX1_ring_43 rfl (lv_at hl 2 rfl) ?_
            refine lv_icmp_ne (tgt := 50) hx hb dX1_ring_44 (by decide) (fun c_44 => ?_) (fun c_44 => ?_)
            ·
              have hh : decide (farI k i = y) = false := decide_eq_false c_44
              refine lv_iinc (v := nI (i + 1)) (lv' := [(4, .int (nI (i + 1))), (0, .ref (ρ 0)), (1, .int (nI k)), (2, .int y), (3, .int (nI (fb_ct (fun j => decide (farI k j = y)) i)))]) hx hb dX1_ring_50 hl (k := 4) rfl (inc_nI _) (by decide) rfl (fun ls hl => ?_)
              refine lv_goto (tgt := 25) hx hb dX1_ring_53 (by decide) ?_
              exact ih_25 (i + 1) (by omega) (by omega) _ _ (by rw [fb_ct_succ, hh]; rfl) (by first | rfl | exact congrArg nI (by omega)) _ (lv_sub hl [1, 2, 3, 4, 0] rfl)
            ·
              have hh : decide (farI k i = y) = true := decide_eq_true c_44
              refine lv_iinc (v := nI (fb_ct (fun j => decide (farI k j = y)) i + 1)) (lv' := [(3, .int (nI (fb_ct (fun j => decide (farI k j = y)) i + 1))), (0, .ref (ρ 0)), (1, .int (nI k)), (2, .int y), (4, .int (nI i))]) hx hb dX1_ring_47 hl (k := 3) rfl (inc_nI _) (by decide) rfl (fun ls hl => ?_)
              refine lv_iinc (v := nI (i + 1)) (lv' := [(4, .int (nI (i + 1))), (3, .int (nI (fb_ct (fun j => decide (farI k j = y)) i + 1))), (0, .ref (ρ 0)), (1, .int (nI k)), (2, .int y)]) hx hb dX1_ring_50 hl (k := 4) rfl (inc_nI _) (by decide) rfl (fun ls hl => ?_)
              refine lv_goto (tgt := 25) hx hb dX1_ring_53 (by decide) ?_
              exact ih_25 (i + 1) (by omega) (by omega) _ _ (by rw [fb_ct_succ, hh]; rfl) (by first | rfl | exact congrArg nI (by omega)) _ (lv_sub hl [2, 3, 4, 1, 0] rfl)
      exact loop_25 (2401 - 0 + 1) 0 (by omega) (Nat.lt_succ_self _) _ _ (by first | rfl | exact congrArg nI (by omega)) rfl _ (lv_sub hl [2, 3, 4, 1, 0] rfl)
    ·
      refine lv_bipush (v := (-2)) hx hb dX1_ring_17 (by decide) ?_
      exact ret_i hx hb hr hlocks dX1_ring_19 (by first | (simp [ringR, gd, gs, c_4, c_14]; done) | (simp [ringR, gd, gs, c_4]; done))
