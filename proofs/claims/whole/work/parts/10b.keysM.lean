theorem nf_X2_keyAt : nfOk yX2_keyAt 2 := by unfold nfOk; decide +kernel
set_option maxHeartbeats 4000000 in
set_option maxRecDepth 100000 in
theorem c_X2_keyAt (l : Launch) (D : va_G) (cI cZ : ClassId) (μ : Nat → Nat) (σ : Nat → Nat → Bool) (M : Nat → Nat → Int32) (V : Nat → Int32) (a : Int) (b : Int) (ha : -200 ≤ a ∧ a ≤ 200) (hbb : -200 ≤ b ∧ b ≤ 200) : Rd l yX2_keyAt wsX2_keyAt ({ frames := 1, cells := 0, slots := 0, locals := 22 }) [.ref (μ 0), .int (iI a), .int (iI b)] (MB D cI cZ μ σ M V) (oI (kAt a b)) := by
  refine met_in RX2 (by decide) rfl rfl (Nat.le_of_ble_eq_true rfl) ?_
  intro p e s m below meth c ls S hr hlocks hl hB
  have hx := S.1
  have hb := S.2.1
  have hml := S.2.2.1
  have hown := S.2.2.2.1
  have hts := S.2.2.2.2
  have hl : lv_has ls 4 [(0, .ref (μ 0)), (1, .int (iI a)), (2, .int (iI b))] := hl
  obtain ⟨⟨hRel, hPt, hKg, hP⟩, hMK⟩ := hB
  have hK := hMK.1
  have hS : va_S (xA 13 μ) s.heap s.heap [] := va_S.rf
  refine lv_iload_n hx hb dX2_keyAt_0 rfl (lv_at hl 1 rfl) ?_
  refine lv_bipush (v := (-60)) hx hb dX2_keyAt_1 (by decide) ?_
  refine lv_bipush (v := nI 60) hx hb dX2_keyAt_3 (by decide) ?_
  refine rd_S S hl (c_X2_in l (iI a) (-60) (nI 60)) HB.tt gX2_keyAt_X2_in rfl nf_X2_in rfl rfl dX2_keyAt_5  (fun _ _ _ => trivial) ?_
  refine nv_ifz_eq (tgt := 22) hx hb dX2_keyAt_8 (by decide) (fun c_8 => ?_) (fun c_8 => ?_)
  ·
    have q1 : ¬ (-60 ≤ a ∧ a ≤ 60) := fun q => absurd ((w60 ha).mpr q) (by rw [c_8]; decide)
    refine lv_bipush (v := (-6)) hx hb dX2_keyAt_22 (by decide) ?_
    exact ret_i hx hb hr hlocks dX2_keyAt_24 (by first | exact ka_out (fun q => q2 q.2) | exact ka_out (fun q => q1 q.1))
  ·
    have q1 := (w60 ha).mp c_8
    refine lv_iload_n hx hb dX2_keyAt_11 rfl (lv_at hl 2 rfl) ?_
    refine lv_bipush (v := (-60)) hx hb dX2_keyAt_12 (by decide) ?_
    refine lv_bipush (v := nI 60) hx hb dX2_keyAt_14 (by decide) ?_
    refine rd_S S hl (c_X2_in l (iI b) (-60) (nI 60)) HB.tt gX2_keyAt_X2_in rfl nf_X2_in rfl rfl dX2_keyAt_16  (fun _ _ _ => trivial) ?_
    refine nv_ifz_ne (tgt := 25) hx hb dX2_keyAt_19 (by decide) (fun c_19 => ?_) (fun c_19 => ?_)
    ·
      have q2 := (w60 hbb).mp c_19
      refine lv_aload_n hx hb dX2_keyAt_25 rfl (lv_at hl 0 rfl) ?_
      refine va_get (D := D) (ci := 2) (v := .ref (μ 3)) (C := RX2) (T := TX2) (N := 15) hx hb hts (by decide +kernel) hown hK hP 0 rfl rfl 2 (by decide) (hts (.fieldLink RX2 16 "SevenKeysModel" "keys" "[I") (by decide +kernel)) (fun _ h9 => h9) rfl dX2_keyAt_26 ?_
      refine lv_bipush (v := nI 121) hx hb dX2_keyAt_29 (by decide) ?_
      refine lv_iload_n hx hb dX2_keyAt_31 rfl (lv_at hl 1 rfl) ?_
      refine lv_bipush (v := nI 60) hx hb dX2_keyAt_32 (by decide) ?_
      refine lv_iadd hx hb dX2_keyAt_34 ?_
      refine lv_imul hx hb dX2_keyAt_35 ?_
      refine lv_iload_n hx hb dX2_keyAt_36 rfl (lv_at hl 2 rfl) ?_
      refine lv_iadd hx hb dX2_keyAt_37 ?_
      refine lv_bipush (v := nI 60) hx hb dX2_keyAt_38 (by decide) ?_
      refine lv_iadd hx hb dX2_keyAt_40 ?_
      refine nv_as (nI ((121 * (a + 60) + b + 60).toNat)) (by exact ka_ix q1 q2) ?_
      refine nv_iald hx hb hK hP 3 0 rfl rfl (by omega) (by decide) dX2_keyAt_41 ?_
      refine nv_as (oG (kAt a b)) (by rw [hKg]; exact ka_get q1 q2) ?_
      refine lv_istore_n (lv' := [(3, .int (oG (kAt a b))), (0, .ref (μ 0)), (1, .int (iI a)), (2, .int (iI b))]) hx hb dX2_keyAt_42 rfl hl (by decide) rfl (fun ls hl => ?_)
      rcases hka : kAt a b with _ | k
      ·
        rw [hka] at hl
        have hl : lv_has ls 4 [(3, .int (oG none)), (0, .ref (μ 0)), (1, .int (iI a)), (2, .int (iI b))] := hl
        refine lv_iload_n hx hb dX2_keyAt_43 rfl (lv_at hl 0 rfl) ?_
        refine lv_if_ne (tgt := 52) hx hb dX2_keyAt_44 (by decide) (fun c_44 => ?_) (fun c_44 => ?_)
        ·
          exact absurd rfl c_44
        ·
          refine lv_bipush (v := (-6)) hx hb dX2_keyAt_47 (by decide) ?_
          refine lv_goto (tgt := 55) hx hb dX2_keyAt_49 (by decide) ?_
          exact ret_i hx hb hr hlocks dX2_keyAt_55 (by rfl)
      ·
        have hkl := (kAt_some hka).1
        rw [hka] at hl
        have hl : lv_has ls 4 [(3, .int (nI (k + 1))), (0, .ref (μ 0)), (1, .int (iI a)), (2, .int (iI b))] := hl
        refine lv_iload_n hx hb dX2_keyAt_43 rfl (lv_at hl 0 rfl) ?_
        refine lv_if_ne (tgt := 52) hx hb dX2_keyAt_44 (by decide) (fun c_44 => ?_) (fun c_44 => ?_)
        ·
          refine lv_iload_n hx hb dX2_keyAt_52 rfl (lv_at hl 0 rfl) ?_
          refine lv_iconst (v := nI 1) hx hb dX2_keyAt_53 (by decide) ?_
          refine lv_isub hx hb dX2_keyAt_54 ?_
          refine nv_as (nI k) (by exact pk_sub (Nat.le_add_left 1 k)) ?_
          exact ret_i hx hb hr hlocks dX2_keyAt_55 (by rfl)
        ·
          exact absurd c_44 (nI_ne0 (Nat.succ_pos _) (by omega))
    ·
      have q2 : ¬ (-60 ≤ b ∧ b ≤ 60) := fun q => absurd ((w60 hbb).mpr q) (by rw [c_19]; decide)
      refine lv_bipush (v := (-6)) hx hb dX2_keyAt_22 (by decide) ?_
      exact ret_i hx hb hr hlocks dX2_keyAt_24 (by first | exact ka_out (fun q => q2 q.2) | exact ka_out (fun q => q1 q.1))
theorem nf_X2_nextOf : nfOk yX2_nextOf 2 := by unfold nfOk; decide +kernel
set_option maxHeartbeats 4000000 in
set_option maxRecDepth 100000 in
theorem c_X2_nextOf (l : Launch) (D : va_G) (cI cZ : ClassId) (μ : Nat → Nat) (σ : Nat → Nat → Bool) (M : Nat → Nat → Int32) (V : Nat → Int32) (k : Nat) (d : Nat) (hk : k < 2401) (hd : d < 7) : Rd l yX2_nextOf wsX2_nextOf ({ frames := 2, cells := 0, slots := 0, locals := 45 }) [.ref (μ 0), .int (nI k), .int (nI d)] (MB D cI cZ μ σ M V) (oI (nbo k d)) := by
  refine met_in RX2 (by decide) rfl rfl (Nat.le_of_ble_eq_true rfl) ?_
  intro p e s m below meth c ls S hr hlocks hl hB
  have hx := S.1
  have hb := S.2.1
  have hml := S.2.2.1
  have hown := S.2.2.2.1
  have hts := S.2.2.2.2
  have hl : lv_has ls 3 [(0, .ref (μ 0)), (1, .int (nI k)), (2, .int (nI d))] := hl
  obtain ⟨⟨hRel, hPt, hKg, hP⟩, hMK⟩ := hB
  have hK := hMK.1
  have hS : va_S (xA 13 μ) s.heap s.heap [] := va_S.rf
  have hpb := pt_bd hk
  have hsb := side_bd hd
  refine lv_aload_n hx hb dX2_nextOf_0 rfl (lv_at hl 0 rfl) ?_
  refine lv_aload_n hx hb dX2_nextOf_1 rfl (lv_at hl 0 rfl) ?_
  refine va_get (D := D) (ci := 2) (v := .ref (μ 1)) (C := RX2) (T := TX2) (N := 15) hx hb hts (by decide +kernel) hown hK hP 0 rfl rfl 0 (by decide) (hts (.fieldLink RX2 7 "SevenKeysModel" "as" "[I") (by decide +kernel)) (fun _ h9 => h9) rfl dX2_nextOf_2 ?_
  refine lv_iload_n hx hb dX2_nextOf_5 rfl (lv_at hl 1 rfl) ?_
  refine nv_iald hx hb hK hP 1 0 rfl rfl (by omega) (by decide) dX2_nextOf_6 ?_
  refine nv_as (iI (ptA k)) (by exact (hPt k (by omega)).1) ?_
  refine lv_iload_n hx hb dX2_nextOf_7 rfl (lv_at hl 2 rfl) ?_
  refine rd_S S hl (c_X2_sideA l d (by omega)) HB.tt gX2_nextOf_X2_sideA rfl nf_X2_sideA rfl rfl dX2_nextOf_8  (fun _ _ _ => trivial) ?_
  refine lv_iadd hx hb dX2_nextOf_11 ?_
  refine nv_as (iI (ptA k + sA d)) (by exact iI_add _ _) ?_
  refine lv_aload_n hx hb dX2_nextOf_12 rfl (lv_at hl 0 rfl) ?_
  refine va_get (D := D) (ci := 2) (v := .ref (μ 2)) (C := RX2) (T := TX2) (N := 15) hx hb hts (by decide +kernel) hown hK hP 0 rfl rfl 1 (by decide) (hts (.fieldLink RX2 13 "SevenKeysModel" "bs" "[I") (by decide +kernel)) (fun _ h9 => h9) rfl dX2_nextOf_13 ?_
  refine lv_iload_n hx hb dX2_nextOf_16 rfl (lv_at hl 1 rfl) ?_
  refine nv_iald hx hb hK hP 2 0 rfl rfl (by omega) (by decide) dX2_nextOf_17 ?_
  refine nv_as (iI (ptB k)) (by exact (hPt k (by omega)).2) ?_
  refine lv_iload_n hx hb dX2_nextOf_18 rfl (lv_at hl 2 rfl) ?_
  refine rd_S S hl (c_X2_sideB l d (by omega)) HB.tt gX2_nextOf_X2_sideB rfl nf_X2_sideB rfl rfl dX2_nextOf_19  (fun _ _ _ => trivial) ?_
  refine lv_iadd hx hb dX2_nextOf_22 ?_
  refine nv_as (iI (ptB k + sB d)) (by exact iI_add _ _) ?_
  refine rd_V S hl (c_X2_keyAt l D cI cZ μ σ M V (ptA k + sA d) (ptB k + sB d) (by omega) (by omega)) MB.hb gX2_nextOf_X2_keyAt rfl rfl nf_X2_keyAt rfl rfl dX2_nextOf_23 (MP.rc0 hMK hP) (MB.at hMK ⟨hRel, hPt, hKg, hP⟩) ?_
  exact ret_i hx hb hr hlocks dX2_nextOf_26 (by rfl)
theorem nf_X2_point : nfOk yX2_point 2 := by unfold nfOk; decide +kernel
set_option maxHeartbeats 4000000 in
set_option maxRecDepth 100000 in
theorem c_X2_point (l : Launch) (D : va_G) (cI cZ : ClassId) (μ : Nat → Nat) (σ : Nat → Nat → Bool) (M : Nat → Nat → Int32) (V : Nat → Int32) (x : Int32) (y : Int32) : Rd l yX2_point wsX2_point ({ frames := 2, cells := 0, slots := 0, locals := 42 }) [.ref (μ 0), .int x, .int y] (MB D cI cZ μ σ M V) (pointR x y) := by
  refine met_in RX2 (by decide) rfl rfl (Nat.le_of_ble_eq_true rfl) ?_
  intro p e s m below meth c ls S hr hlocks hl hB
  have hx := S.1
  have hb := S.2.1
  have hml := S.2.2.1
  have hown := S.2.2.2.1
  have hts := S.2.2.2.2
  have hl : lv_has ls 3 [(0, .ref (μ 0)), (1, .int x), (2, .int y)] := hl
  obtain ⟨⟨hRel, hPt, hKg, hP⟩, hMK⟩ := hB
  have hK := hMK.1
  have hS : va_S (xA 13 μ) s.heap s.heap [] := va_S.rf
  refine lv_iload_n hx hb dX2_point_0 rfl (lv_at hl 1 rfl) ?_
  refine rd_S S hl (c_X2_isKey l x) HB.tt gX2_point_X2_isKey rfl nf_X2_isKey rfl rfl dX2_point_1  (fun _ _ _ => trivial) ?_
  refine nv_ifz_eq (tgt := 16) hx hb dX2_point_4 (by decide) (fun c_4 => ?_) (fun c_4 => ?_)
  ·
    refine lv_bipush (v := (-2)) hx hb dX2_point_16 (by decide) ?_
    exact ret_i hx hb hr hlocks dX2_point_18 (by first | (simp [pointR, gd, gs, c_4, c_13]; done) | (simp [pointR, gd, gs, c_4]; done))
  ·
    obtain ⟨k, hk, hxk⟩ := wI_nat c_4 (by decide)
    subst hxk
    have hck : (nI k).toNatClampNeg = k := nI_clamp (by omega)
    refine lv_iload_n hx hb dX2_point_7 rfl (lv_at hl 2 rfl) ?_
    refine lv_iconst (v := nI 0) hx hb dX2_point_8 (by decide) ?_
    refine lv_iconst (v := nI 1) hx hb dX2_point_9 (by decide) ?_
    refine rd_S S hl (c_X2_in l y (nI 0) (nI 1)) HB.tt gX2_point_X2_in rfl nf_X2_in rfl rfl dX2_point_10  (fun _ _ _ => trivial) ?_
    refine nv_ifz_ne (tgt := 19) hx hb dX2_point_13 (by decide) (fun c_13 => ?_) (fun c_13 => ?_)
    ·
      obtain ⟨w, hw, hxw⟩ := wI_nat c_13 (by decide)
      subst hxw
      have hcw : (nI w).toNatClampNeg = w := nI_clamp (by omega)
      refine lv_sipush (v := nI 1000) hx hb dX2_point_19 (by decide) ?_
      refine lv_iload_n hx hb dX2_point_22 rfl (lv_at hl 2 rfl) ?_
      refine lv_if_ne (tgt := 35) hx hb dX2_point_23 (by decide) (fun c_23 => ?_) (fun c_23 => ?_)
      ·
        have hw0 : w ≠ 0 := fun q => c_23 (by rw [q]; rfl)
        refine lv_aload_n hx hb dX2_point_35 rfl (lv_at hl 0 rfl) ?_
        refine va_get (D := D) (ci := 2) (v := .ref (μ 2)) (C := RX2) (T := TX2) (N := 15) hx hb hts (by decide +kernel) hown hK hP 0 rfl rfl 1 (by decide) (hts (.fieldLink RX2 13 "SevenKeysModel" "bs" "[I") (by decide +kernel)) (fun _ h9 => h9) rfl dX2_point_36 ?_
        refine lv_iload_n hx hb dX2_point_39 rfl (lv_at hl 1 rfl) ?_
        refine nv_iald hx hb hK hP 2 0 rfl rfl (by omega) (by decide) dX2_point_40 ?_
        refine nv_as (iI (ptB k)) (by exact (hPt k (by omega)).2) ?_
        refine lv_iadd hx hb dX2_point_41 ?_
        exact ret_i hx hb hr hlocks dX2_point_42 (by unfold pointR gd; rw [show isK (nI k) = true from c_4, c_13, show cl (nI k) = k from hck, show cl (nI w) = w from hcw]; first | (rw [if_pos hw0]; rfl) | (rw [if_neg hw0]; rfl))
      ·
        have hw0 : w = 0 := nz0 c_23 (by omega)
        refine lv_aload_n hx hb dX2_point_26 rfl (lv_at hl 0 rfl) ?_
        refine va_get (D := D) (ci := 2) (v := .ref (μ 1)) (C := RX2) (T := TX2) (N := 15) hx hb hts (by decide +kernel) hown hK hP 0 rfl rfl 0 (by decide) (hts (.fieldLink RX2 7 "SevenKeysModel" "as" "[I") (by decide +kernel)) (fun _ h9 => h9) rfl dX2_point_27 ?_
        refine lv_iload_n hx hb dX2_point_30 rfl (lv_at hl 1 rfl) ?_
        refine nv_iald hx hb hK hP 1 0 rfl rfl (by omega) (by decide) dX2_point_31 ?_
        refine nv_as (iI (ptA k)) (by exact (hPt k (by omega)).1) ?_
        refine lv_goto (tgt := 41) hx hb dX2_point_32 (by decide) ?_
        refine lv_iadd hx hb dX2_point_41 ?_
        exact ret_i hx hb hr hlocks dX2_point_42 (by unfold pointR gd; rw [show isK (nI k) = true from c_4, c_13, show cl (nI k) = k from hck, show cl (nI w) = w from hcw]; first | (rw [if_pos hw0]; rfl) | (rw [if_neg hw0]; rfl))
    ·
      refine lv_bipush (v := (-2)) hx hb dX2_point_16 (by decide) ?_
      exact ret_i hx hb hr hlocks dX2_point_18 (by first | (simp [pointR, gd, gs, c_4, c_13]; done) | (simp [pointR, gd, gs, c_4]; done))
theorem nf_X2_key : nfOk yX2_key 2 := by unfold nfOk; decide +kernel
set_option maxHeartbeats 4000000 in
set_option maxRecDepth 100000 in
theorem c_X2_key (l : Launch) (D : va_G) (cI cZ : ClassId) (μ : Nat → Nat) (σ : Nat → Nat → Bool) (M : Nat → Nat → Int32) (V : Nat → Int32) (x : Int32) (y : Int32) : Rd l yX2_key wsX2_key ({ frames := 2, cells := 0, slots := 0, locals := 45 }) [.ref (μ 0), .int x, .int y] (MB D cI cZ μ σ M V) (keyR x y) := by
  refine met_in RX2 (by decide) rfl rfl (Nat.le_of_ble_eq_true rfl) ?_
  intro p e s m below meth c ls S hr hlocks hl hB
  have hx := S.1
  have hb := S.2.1
  have hml := S.2.2.1
  have hown := S.2.2.2.1
  have hts := S.2.2.2.2
  have hl : lv_has ls 3 [(0, .ref (μ 0)), (1, .int x), (2, .int y)] := hl
  obtain ⟨⟨hRel, hPt, hKg, hP⟩, hMK⟩ := hB
  have hK := hMK.1
  have hS : va_S (xA 13 μ) s.heap s.heap [] := va_S.rf
  refine lv_iload_n hx hb dX2_key_0 rfl (lv_at hl 1 rfl) ?_
  refine lv_bipush (v := (-100)) hx hb dX2_key_1 (by decide) ?_
  refine lv_bipush (v := nI 100) hx hb dX2_key_3 (by decide) ?_
  refine rd_S S hl (c_X2_in l x (-100) (nI 100)) HB.tt gX2_key_X2_in rfl nf_X2_in rfl rfl dX2_key_5  (fun _ _ _ => trivial) ?_
  refine nv_ifz_eq (tgt := 31) hx hb dX2_key_8 (by decide) (fun c_8 => ?_) (fun c_8 => ?_)
  ·
    refine lv_bipush (v := (-2)) hx hb dX2_key_31 (by decide) ?_
    exact ret_i hx hb hr hlocks dX2_key_33 (by first | (simp [keyR, gd, c_8, c_19, iI_toInt (show -2147483648 ≤ a by omega) (show a < 2147483648 by omega), iI_toInt (show -2147483648 ≤ b by omega) (show b < 2147483648 by omega)]; done) | (simp [keyR, gd, c_8, c_19]; done) | (simp [keyR, gd, c_8]; done))
  ·
    obtain ⟨a, ha1, ha2, hxa⟩ := w100 c_8
    subst hxa
    refine lv_iload_n hx hb dX2_key_11 rfl (lv_at hl 2 rfl) ?_
    refine lv_bipush (v := (-100)) hx hb dX2_key_12 (by decide) ?_
    refine lv_bipush (v := nI 100) hx hb dX2_key_14 (by decide) ?_
    refine rd_S S hl (c_X2_in l y (-100) (nI 100)) HB.tt gX2_key_X2_in rfl nf_X2_in rfl rfl dX2_key_16  (fun _ _ _ => trivial) ?_
    refine nv_ifz_eq (tgt := 31) hx hb dX2_key_19 (by decide) (fun c_19 => ?_) (fun c_19 => ?_)
    ·
      refine lv_bipush (v := (-2)) hx hb dX2_key_31 (by decide) ?_
      exact ret_i hx hb hr hlocks dX2_key_33 (by first | (simp [keyR, gd, c_8, c_19, iI_toInt (show -2147483648 ≤ a by omega) (show a < 2147483648 by omega), iI_toInt (show -2147483648 ≤ b by omega) (show b < 2147483648 by omega)]; done) | (simp [keyR, gd, c_8, c_19]; done) | (simp [keyR, gd, c_8]; done))
    ·
      obtain ⟨b, hb1, hb2, hxb⟩ := w100 c_19
      subst hxb
      refine lv_aload_n hx hb dX2_key_22 rfl (lv_at hl 0 rfl) ?_
      refine lv_iload_n hx hb dX2_key_23 rfl (lv_at hl 1 rfl) ?_
      refine lv_iload_n hx hb dX2_key_24 rfl (lv_at hl 2 rfl) ?_
      refine rd_V S hl (c_X2_keyAt l D cI cZ μ σ M V a b (by omega) (by omega)) MB.hb gX2_key_X2_keyAt rfl rfl nf_X2_keyAt rfl rfl dX2_key_25 (MP.rc0 hMK hP) (MB.at hMK ⟨hRel, hPt, hKg, hP⟩) ?_
      refine lv_goto (tgt := 33) hx hb dX2_key_28 (by decide) ?_
      exact ret_i hx hb hr hlocks dX2_key_33 (by first | (simp [keyR, gd, c_8, c_19, iI_toInt (show -2147483648 ≤ a by omega) (show a < 2147483648 by omega), iI_toInt (show -2147483648 ≤ b by omega) (show b < 2147483648 by omega)]; done) | (simp [keyR, gd, c_8, c_19]; done) | (simp [keyR, gd, c_8]; done))
theorem nf_X2_next : nfOk yX2_next 2 := by unfold nfOk; decide +kernel
set_option maxHeartbeats 4000000 in
set_option maxRecDepth 100000 in
theorem c_X2_next (l : Launch) (D : va_G) (cI cZ : ClassId) (μ : Nat → Nat) (σ : Nat → Nat → Bool) (M : Nat → Nat → Int32) (V : Nat → Int32) (x : Int32) (y : Int32) : Rd l yX2_next wsX2_next ({ frames := 3, cells := 0, slots := 0, locals := 67 }) [.ref (μ 0), .int x, .int y] (MB D cI cZ μ σ M V) (nextR x y) := by
  refine met_in RX2 (by decide) rfl rfl (Nat.le_of_ble_eq_true rfl) ?_
  intro p e s m below meth c ls S hr hlocks hl hB
  have hx := S.1
  have hb := S.2.1
  have hml := S.2.2.1
  have hown := S.2.2.2.1
  have hts := S.2.2.2.2
  have hl : lv_has ls 3 [(0, .ref (μ 0)), (1, .int x), (2, .int y)] := hl
  obtain ⟨⟨hRel, hPt, hKg, hP⟩, hMK⟩ := hB
  have hK := hMK.1
  have hS : va_S (xA 13 μ) s.heap s.heap [] := va_S.rf
  refine lv_iload_n hx hb dX2_next_0 rfl (lv_at hl 1 rfl) ?_
  refine rd_S S hl (c_X2_isKey l x) HB.tt gX2_next_X2_isKey rfl nf_X2_isKey rfl rfl dX2_next_1  (fun _ _ _ => trivial) ?_
  refine nv_ifz_eq (tgt := 26) hx hb dX2_next_4 (by decide) (fun c_4 => ?_) (fun c_4 => ?_)
  ·
    refine lv_bipush (v := (-2)) hx hb dX2_next_26 (by decide) ?_
    exact ret_i hx hb hr hlocks dX2_next_28 (by first | (simp [nextR, gd, gs, c_4, c_14, hck, hcd]; done) | (simp [nextR, gd, gs, c_4, c_14, hck]; done) | (simp [nextR, gd, gs, c_4, c_14]; done) | (simp [nextR, gd, gs, c_4]; done))
  ·
    obtain ⟨k, hk, hxk⟩ := wI_nat c_4 (by decide)
    subst hxk
    have hck : (nI k).toNatClampNeg = k := nI_clamp (by omega)
    refine lv_iload_n hx hb dX2_next_7 rfl (lv_at hl 2 rfl) ?_
    refine lv_iconst (v := nI 1) hx hb dX2_next_8 (by decide) ?_
    refine lv_bipush (v := nI 6) hx hb dX2_next_9 (by decide) ?_
    refine rd_S S hl (c_X2_in l y (nI 1) (nI 6)) HB.tt gX2_next_X2_in rfl nf_X2_in rfl rfl dX2_next_11  (fun _ _ _ => trivial) ?_
    refine nv_ifz_eq (tgt := 26) hx hb dX2_next_14 (by decide) (fun c_14 => ?_) (fun c_14 => ?_)
    ·
      refine lv_bipush (v := (-2)) hx hb dX2_next_26 (by decide) ?_
      exact ret_i hx hb hr hlocks dX2_next_28 (by first | (simp [nextR, gd, gs, c_4, c_14, hck, hcd]; done) | (simp [nextR, gd, gs, c_4, c_14, hck]; done) | (simp [nextR, gd, gs, c_4, c_14]; done) | (simp [nextR, gd, gs, c_4]; done))
    ·
      obtain ⟨d, h1d, hd, hxd⟩ := wI_1 c_14 (by decide) (by decide)
      subst hxd
      have hcd : (nI d).toNatClampNeg = d := nI_clamp (by omega)
      refine lv_aload_n hx hb dX2_next_17 rfl (lv_at hl 0 rfl) ?_
      refine lv_iload_n hx hb dX2_next_18 rfl (lv_at hl 1 rfl) ?_
      refine lv_iload_n hx hb dX2_next_19 rfl (lv_at hl 2 rfl) ?_
      refine rd_V S hl (c_X2_nextOf l D cI cZ μ σ M V k d (by omega) (by omega)) MB.hb gX2_next_X2_nextOf rfl rfl nf_X2_nextOf rfl rfl dX2_next_20 (MP.rc0 hMK hP) (MB.at hMK ⟨hRel, hPt, hKg, hP⟩) ?_
      refine lv_goto (tgt := 28) hx hb dX2_next_23 (by decide) ?_
      exact ret_i hx hb hr hlocks dX2_next_28 (by first | (simp [nextR, gd, gs, c_4, c_14, hck, hcd]; done) | (simp [nextR, gd, gs, c_4, c_14, hck]; done) | (simp [nextR, gd, gs, c_4, c_14]; done) | (simp [nextR, gd, gs, c_4]; done))
theorem nf_X2_farOf : nfOk yX2_farOf 2 := by unfold nfOk; decide +kernel
set_option maxHeartbeats 4000000 in
set_option maxRecDepth 100000 in
theorem c_X2_farOf (l : Launch) (D : va_G) (cI cZ : ClassId) (μ : Nat → Nat) (σ : Nat → Nat → Bool) (M : Nat → Nat → Int32) (V : Nat → Int32) (j : Nat) (k : Nat) (hj : j < 2401) (hk : k < 2401) : Rd l yX2_farOf wsX2_farOf ({ frames := 1, cells := 0, slots := 0, locals := 20 }) [.ref (μ 0), .int (nI j), .int (nI k)] (MB D cI cZ μ σ M V) (farI j k) := by
  refine met_in RX2 (by decide) rfl rfl (Nat.le_of_ble_eq_true rfl) ?_
  intro p e s m below meth c ls S hr hlocks hl hB
  have hx := S.1
  have hb := S.2.1
  have hml := S.2.2.1
  have hown := S.2.2.2.1
  have hts := S.2.2.2.2
  have hl : lv_has ls 7 [(0, .ref (μ 0)), (1, .int (nI j)), (2, .int (nI k))] := hl
  obtain ⟨⟨hRel, hPt, hKg, hP⟩, hMK⟩ := hB
  have hK := hMK.1
  have hS : va_S (xA 13 μ) s.heap s.heap [] := va_S.rf
  refine lv_aload_n hx hb dX2_farOf_0 rfl (lv_at hl 0 rfl) ?_
  refine va_get (D := D) (ci := 2) (v := .ref (μ 1)) (C := RX2) (T := TX2) (N := 15) hx hb hts (by decide +kernel) hown hK hP 0 rfl rfl 0 (by decide) (hts (.fieldLink RX2 7 "SevenKeysModel" "as" "[I") (by decide +kernel)) (fun _ h9 => h9) rfl dX2_farOf_1 ?_
  refine lv_iload_n hx hb dX2_farOf_4 rfl (lv_at hl 1 rfl) ?_
  refine nv_iald hx hb hK hP 1 0 rfl rfl (by omega) (by decide) dX2_farOf_5 ?_
  refine nv_as (iI (ptA j)) (by exact (hPt j (by omega)).1) ?_
  refine lv_aload_n hx hb dX2_farOf_6 rfl (lv_at hl 0 rfl) ?_
  refine va_get (D := D) (ci := 2) (v := .ref (μ 1)) (C := RX2) (T := TX2) (N := 15) hx hb hts (by decide +kernel) hown hK hP 0 rfl rfl 0 (by decide) (hts (.fieldLink RX2 7 "SevenKeysModel" "as" "[I") (by decide +kernel)) (fun _ h9 => h9) rfl dX2_farOf_7 ?_
  refine lv_iload_n hx hb dX2_farOf_10 rfl (lv_at hl 2 rfl) ?_
  refine nv_iald hx hb hK hP 1 0 rfl rfl (by omega) (by decide) dX2_farOf_11 ?_
  refine nv_as (iI (ptA k)) (by exact (hPt k (by omega)).1) ?_
  refine lv_isub hx hb dX2_farOf_12 ?_
  refine rd_S S hl (c_X2_size l ((iI (ptA j)) - (iI (ptA k)))) HB.tt gX2_farOf_X2_size rfl nf_X2_size rfl rfl dX2_farOf_13  (fun _ _ _ => trivial) ?_
  refine lv_istore_n (lv' := [(3, .int (ab ((iI (ptA j)) - (iI (ptA k))))), (0, .ref (μ 0)), (1, .int (nI j)), (2, .int (nI k))]) hx hb dX2_farOf_16 rfl hl (by decide) rfl (fun ls hl => ?_)
  refine lv_aload_n hx hb dX2_farOf_17 rfl (lv_at hl 1 rfl) ?_
  refine va_get (D := D) (ci := 2) (v := .ref (μ 2)) (C := RX2) (T := TX2) (N := 15) hx hb hts (by decide +kernel) hown hK hP 0 rfl rfl 1 (by decide) (hts (.fieldLink RX2 13 "SevenKeysModel" "bs" "[I") (by decide +kernel)) (fun _ h9 => h9) rfl dX2_farOf_18 ?_
  refine lv_iload_n hx hb dX2_farOf_21 rfl (lv_at hl 2 rfl) ?_
  refine nv_iald hx hb hK hP 2 0 rfl rfl (by omega) (by decide) dX2_farOf_22 ?_
  refine nv_as (iI (ptB j)) (by exact (hPt j (by omega)).2) ?_
  refine lv_aload_n hx hb dX2_farOf_23 rfl (lv_at hl 1 rfl) ?_
  refine va_get (D := D) (ci := 2) (v := .ref (μ 2)) (C := RX2) (T := TX2) (N := 15) hx hb hts (by decide +kernel) hown hK hP 0 rfl rfl 1 (by decide) (hts (.fieldLink RX2 13 "SevenKeysModel" "bs" "[I") (by decide +kernel)) (fun _ h9 => h9) rfl dX2_farOf_24 ?_
  refine lv_iload_n hx hb dX2_farOf_27 rfl (lv_at hl 3 rfl) ?_
  refine nv_iald hx hb hK hP 2 0 rfl rfl (by omega) (by decide) dX2_farOf_28 ?_
  refine nv_as (iI (ptB k)) (by exact (hPt k (by omega)).2) ?_
  refine lv_isub hx hb dX2_farOf_29 ?_
  refine rd_S S hl (c_X2_size l ((iI (ptB j)) - (iI (ptB k)))) HB.tt gX2_farOf_X2_size rfl nf_X2_size rfl rfl dX2_farOf_30  (fun _ _ _ => trivial) ?_
  refine lv_istore (lv' := [(4, .int (ab ((iI (ptB j)) - (iI (ptB k))))), (3, .int (ab ((iI (ptA j)) - (iI (ptA k))))), (0, .ref (μ 0)), (1, .int (nI j)), (2, .int (nI k))]) hx hb dX2_farOf_33 hl (by decide) rfl (fun ls hl => ?_)
  refine lv_aload_n hx hb dX2_farOf_35 rfl (lv_at hl 2 rfl) ?_
  refine va_get (D := D) (ci := 2) (v := .ref (μ 1)) (C := RX2) (T := TX2) (N := 15) hx hb hts (by decide +kernel) hown hK hP 0 rfl rfl 0 (by decide) (hts (.fieldLink RX2 7 "SevenKeysModel" "as" "[I") (by decide +kernel)) (fun _ h9 => h9) rfl dX2_farOf_36 ?_
  refine lv_iload_n hx hb dX2_farOf_39 rfl (lv_at hl 3 rfl) ?_
  refine nv_iald hx hb hK hP 1 0 rfl rfl (by omega) (by decide) dX2_farOf_40 ?_
  refine nv_as (iI (ptA j)) (by exact (hPt j (by omega)).1) ?_
  refine lv_aload_n hx hb dX2_farOf_41 rfl (lv_at hl 2 rfl) ?_
  refine va_get (D := D) (ci := 2) (v := .ref (μ 1)) (C := RX2) (T := TX2) (N := 15) hx hb hts (by decide +kernel) hown hK hP 0 rfl rfl 0 (by decide) (hts (.fieldLink RX2 7 "SevenKeysModel" "as" "[I") (by decide +kernel)) (fun _ h9 => h9) rfl dX2_farOf_42 ?_
  refine lv_iload_n hx hb dX2_farOf_45 rfl (lv_at hl 4 rfl) ?_
  refine nv_iald hx hb hK hP 1 0 rfl rfl (by omega) (by decide) dX2_farOf_46 ?_
  refine nv_as (iI (ptA k)) (by exact (hPt k (by omega)).1) ?_
  refine lv_isub hx hb dX2_farOf_47 ?_
  refine lv_aload_n hx hb dX2_farOf_48 rfl (lv_at hl 2 rfl) ?_
  refine va_get (D := D) (ci := 2) (v := .ref (μ 2)) (C := RX2) (T := TX2) (N := 15) hx hb hts (by decide +kernel) hown hK hP 0 rfl rfl 1 (by decide) (hts (.fieldLink RX2 13 "SevenKeysModel" "bs" "[I") (by decide +kernel)) (fun _ h9 => h9) rfl dX2_farOf_49 ?_
  refine lv_iload_n hx hb dX2_farOf_52 rfl (lv_at hl 3 rfl) ?_
  refine nv_iald hx hb hK hP 2 0 rfl rfl (by omega) (by decide) dX2_farOf_53 ?_
  refine nv_as (iI (ptB j)) (by exact (hPt j (by omega)).2) ?_
  refine lv_iadd hx hb dX2_farOf_54 ?_
  refine lv_aload_n hx hb dX2_farOf_55 rfl (lv_at hl 2 rfl) ?_
  refine va_get (D := D) (ci := 2) (v := .ref (μ 2)) (C := RX2) (T := TX2) (N := 15) hx hb hts (by decide +kernel) hown hK hP 0 rfl rfl 1 (by decide) (hts (.fieldLink RX2 13 "SevenKeysModel" "bs" "[I") (by decide +kernel)) (fun _ h9 => h9) rfl dX2_farOf_56 ?_
  refine lv_iload_n hx hb dX2_farOf_59 rfl (lv_at hl 4 rfl) ?_
  refine nv_iald hx hb hK hP 2 0 rfl rfl (by omega) (by decide) dX2_farOf_60 ?_
  refine nv_as (iI (ptB k)) (by exact (hPt k (by omega)).2) ?_
  refine lv_isub hx hb dX2_farOf_61 ?_
  refine nv_as ((iI (ptA j) - iI (ptA k)) + (iI (ptB j) - iI (ptB k))) (by exact far_as _ _ _) ?_
  refine rd_S S hl (c_X2_size l ((iI (ptA j) - iI (ptA k)) + (iI (ptB j) - iI (ptB k)))) HB.tt gX2_farOf_X2_size rfl nf_X2_size rfl rfl dX2_farOf_62  (fun _ _ _ => trivial) ?_
  refine lv_istore (lv' := [(5, .int (ab ((iI (ptA j) - iI (ptA k)) + (iI (ptB j) - iI (ptB k))))), (4, .int (ab ((iI (ptB j)) - (iI (ptB k))))), (3, .int (ab ((iI (ptA j)) - (iI (ptA k))))), (0, .ref (μ 0)), (1, .int (nI j)), (2, .int (nI k))]) hx hb dX2_farOf_65 hl (by decide) rfl (fun ls hl => ?_)
  refine lv_iload_n hx hb dX2_farOf_67 rfl (lv_at hl 2 rfl) ?_
  refine lv_iload hx hb dX2_farOf_68 (lv_at hl 1 rfl) ?_
  refine lv_icmp_le (tgt := 77) hx hb dX2_farOf_70 (by decide) (fun c_70 => ?_) (fun c_70 => ?_)
  ·
    refine lv_iload hx hb dX2_farOf_77 (lv_at hl 1 rfl) ?_
    refine lv_istore (lv' := [(6, .int (ab ((iI (ptB j)) - (iI (ptB k))))), (5, .int (ab ((iI (ptA j) - iI (ptA k)) + (iI (ptB j) - iI (ptB k))))), (4, .int (ab ((iI (ptB j)) - (iI (ptB k))))), (3, .int (ab ((iI (ptA j)) - (iI (ptA k))))), (0, .ref (μ 0)), (1, .int (nI j)), (2, .int (nI k))]) hx hb dX2_farOf_79 hl (by decide) rfl (fun ls hl => ?_)
    refine lv_iload hx hb dX2_farOf_81 (lv_at hl 0 rfl) ?_
    refine lv_iload hx hb dX2_farOf_83 (lv_at hl 1 rfl) ?_
    refine lv_icmp_le (tgt := 93) hx hb dX2_farOf_85 (by decide) (fun c_85 => ?_) (fun c_85 => ?_)
    ·
      refine lv_iload hx hb dX2_farOf_93 (lv_at hl 1 rfl) ?_
      exact ret_i hx hb hr hlocks dX2_farOf_95 (by unfold farI; first | rw [mx_le c_70, mx_le c_85] | rw [mx_le c_70, mx_nle c_85] | rw [mx_nle c_70, mx_le c_85] | rw [mx_nle c_70, mx_nle c_85])
    ·
      refine lv_iload hx hb dX2_farOf_88 (lv_at hl 0 rfl) ?_
      refine lv_goto (tgt := 95) hx hb dX2_farOf_90 (by decide) ?_
      exact ret_i hx hb hr hlocks dX2_farOf_95 (by unfold farI; first | rw [mx_le c_70, mx_le c_85] | rw [mx_le c_70, mx_nle c_85] | rw [mx_nle c_70, mx_le c_85] | rw [mx_nle c_70, mx_nle c_85])
  ·
    refine lv_iload_n hx hb dX2_farOf_73 rfl (lv_at hl 2 rfl) ?_
    refine lv_goto (tgt := 79) hx hb dX2_farOf_74 (by decide) ?_
    refine lv_istore (lv' := [(6, .int (ab ((iI (ptA j)) - (iI (ptA k))))), (5, .int (ab ((iI (ptA j) - iI (ptA k)) + (iI (ptB j) - iI (ptB k))))), (4, .int (ab ((iI (ptB j)) - (iI (ptB k))))), (3, .int (ab ((iI (ptA j)) - (iI (ptA k))))), (0, .ref (μ 0)), (1, .int (nI j)), (2, .int (nI k))]) hx hb dX2_farOf_79 hl (by decide) rfl (fun ls hl => ?_)
    refine lv_iload hx hb dX2_farOf_81 (lv_at hl 0 rfl) ?_
    refine lv_iload hx hb dX2_farOf_83 (lv_at hl 1 rfl) ?_
    refine lv_icmp_le (tgt := 93) hx hb dX2_farOf_85 (by decide) (fun c_85 => ?_) (fun c_85 => ?_)
    ·
      refine lv_iload hx hb dX2_farOf_93 (lv_at hl 1 rfl) ?_
      exact ret_i hx hb hr hlocks dX2_farOf_95 (by unfold farI; first | rw [mx_le c_70, mx_le c_85] | rw [mx_le c_70, mx_nle c_85] | rw [mx_nle c_70, mx_le c_85] | rw [mx_nle c_70, mx_nle c_85])
    ·
      refine lv_iload hx hb dX2_farOf_88 (lv_at hl 0 rfl) ?_
      refine lv_goto (tgt := 95) hx hb dX2_farOf_90 (by decide) ?_
      exact ret_i hx hb hr hlocks dX2_farOf_95 (by unfold farI; first | rw [mx_le c_70, mx_le c_85] | rw [mx_le c_70, mx_nle c_85] | rw [mx_nle c_70, mx_le c_85] | rw [mx_nle c_70, mx_nle c_85])
theorem nf_X2_far : nfOk yX2_far 2 := by unfold nfOk; decide +kernel
set_option maxHeartbeats 4000000 in
set_option maxRecDepth 100000 in
theorem c_X2_far (l : Launch) (D : va_G) (cI cZ : ClassId) (μ : Nat → Nat) (σ : Nat → Nat → Bool) (M : Nat → Nat → Int32) (V : Nat → Int32) (x : Int32) (y : Int32) : Rd l yX2_far wsX2_far ({ frames := 2, cells := 0, slots := 0, locals := 46 }) [.ref (μ 0), .int x, .int y] (MB D cI cZ μ σ M V) (farR x y) := by
  refine met_in RX2 (by decide) rfl rfl (Nat.le_of_ble_eq_true rfl) ?_
  intro p e s m below meth c ls S hr hlocks hl hB
  have hx := S.1
  have hb := S.2.1
  have hml := S.2.2.1
  have hown := S.2.2.2.1
  have hts := S.2.2.2.2
  have hl : lv_has ls 3 [(0, .ref (μ 0)), (1, .int x), (2, .int y)] := hl
  obtain ⟨⟨hRel, hPt, hKg, hP⟩, hMK⟩ := hB
  have hK := hMK.1
  have hS : va_S (xA 13 μ) s.heap s.heap [] := va_S.rf
  refine lv_iload_n hx hb dX2_far_0 rfl (lv_at hl 1 rfl) ?_
  refine rd_S S hl (c_X2_isKey l x) HB.tt gX2_far_X2_isKey rfl nf_X2_isKey rfl rfl dX2_far_1  (fun _ _ _ => trivial) ?_
  refine nv_ifz_eq (tgt := 23) hx hb dX2_far_4 (by decide) (fun c_4 => ?_) (fun c_4 => ?_)
  ·
    refine lv_bipush (v := (-2)) hx hb dX2_far_23 (by decide) ?_
    exact ret_i hx hb hr hlocks dX2_far_25 (by first | (simp [farR, gd, gs, c_4, c_11, hcj, hck]; done) | (simp [farR, gd, gs, c_4, c_11, hcj]; done) | (simp [farR, gd, gs, c_4, c_11]; done) | (simp [farR, gd, gs, c_4]; done))
  ·
    obtain ⟨j, hj, hxj⟩ := wI_nat c_4 (by decide)
    subst hxj
    have hcj : (nI j).toNatClampNeg = j := nI_clamp (by omega)
    refine lv_iload_n hx hb dX2_far_7 rfl (lv_at hl 2 rfl) ?_
    refine rd_S S hl (c_X2_isKey l y) HB.tt gX2_far_X2_isKey rfl nf_X2_isKey rfl rfl dX2_far_8  (fun _ _ _ => trivial) ?_
    refine nv_ifz_eq (tgt := 23) hx hb dX2_far_11 (by decide) (fun c_11 => ?_) (fun c_11 => ?_)
    ·
      refine lv_bipush (v := (-2)) hx hb dX2_far_23 (by decide) ?_
      exact ret_i hx hb hr hlocks dX2_far_25 (by first | (simp [farR, gd, gs, c_4, c_11, hcj, hck]; done) | (simp [farR, gd, gs, c_4, c_11, hcj]; done) | (simp [farR, gd, gs, c_4, c_11]; done) | (simp [farR, gd, gs, c_4]; done))
    ·
      obtain ⟨k, hk, hxk⟩ := wI_nat c_11 (by decide)
      subst hxk
      have hck : (nI k).toNatClampNeg = k := nI_clamp (by omega)
      refine lv_aload_n hx hb dX2_far_14 rfl (lv_at hl 0 rfl) ?_
      refine lv_iload_n hx hb dX2_far_15 rfl (lv_at hl 1 rfl) ?_
      refine lv_iload_n hx hb dX2_far_16 rfl (lv_at hl 2 rfl) ?_
      refine rd_V S hl (c_X2_farOf l D cI cZ μ σ M V j k (by omega) (by omega)) MB.hb gX2_far_X2_farOf rfl rfl nf_X2_farOf rfl rfl dX2_far_17 (MP.rc0 hMK hP) (MB.at hMK ⟨hRel, hPt, hKg, hP⟩) ?_
      refine lv_goto (tgt := 25) hx hb dX2_far_20 (by decide) ?_
      exact ret_i hx hb hr hlocks dX2_far_25 (by first | (simp [farR, gd, gs, c_4, c_11, hcj, hck]; done) | (simp [farR, gd, gs, c_4, c_11, hcj]; done) | (simp [farR, gd, gs, c_4, c_11]; done) | (simp [farR, gd, gs, c_4]; done))
theorem nf_X2_side : nfOk yX2_side 2 := by unfold nfOk; decide +kernel
set_option maxHeartbeats 4000000 in
set_option maxRecDepth 100000 in
theorem c_X2_side (l : Launch) (D : va_G) (cI cZ : ClassId) (μ : Nat → Nat) (σ : Nat → Nat → Bool) (M : Nat → Nat → Int32) (V : Nat → Int32) (x : Int32) (y : Int32) : Rd l yX2_side wsX2_side ({ frames := 3, cells := 0, slots := 0, locals := 67 }) [.ref (μ 0), .int x, .int y] (MB D cI cZ μ σ M V) (sideR x y) := by
  refine met_in RX2 (by decide) rfl rfl (Nat.le_of_ble_eq_true rfl) ?_
  intro p e s m below meth c ls S hr hlocks hl hB
  have hx := S.1
  have hb := S.2.1
  have hml := S.2.2.1
  have hown := S.2.2.2.1
  have hts := S.2.2.2.2
  have hl : lv_has ls 5 [(0, .ref (μ 0)), (1, .int x), (2, .int y)] := hl
  obtain ⟨⟨hRel, hPt, hKg, hP⟩, hMK⟩ := hB
  have hK := hMK.1
  have hS : va_S (xA 13 μ) s.heap s.heap [] := va_S.rf
  refine lv_iload_n hx hb dX2_side_0 rfl (lv_at hl 1 rfl) ?_
  refine rd_S S hl (c_X2_isKey l x) HB.tt gX2_side_X2_isKey rfl nf_X2_isKey rfl rfl dX2_side_1  (fun _ _ _ => trivial) ?_
  refine nv_ifz_eq (tgt := 14) hx hb dX2_side_4 (by decide) (fun c_4 => ?_) (fun c_4 => ?_)
  ·
    refine lv_bipush (v := (-2)) hx hb dX2_side_14 (by decide) ?_
    exact ret_i hx hb hr hlocks dX2_side_16 (by first | (simp [sideR, gd, gs, c_4, c_11]; done) | (simp [sideR, gd, gs, c_4]; done))
  ·
    obtain ⟨j, hj, hxj⟩ := wI_nat c_4 (by decide)
    subst hxj
    have hcj : (nI j).toNatClampNeg = j := nI_clamp (by omega)
    refine lv_iload_n hx hb dX2_side_7 rfl (lv_at hl 2 rfl) ?_
    refine rd_S S hl (c_X2_isKey l y) HB.tt gX2_side_X2_isKey rfl nf_X2_isKey rfl rfl dX2_side_8  (fun _ _ _ => trivial) ?_
    refine nv_ifz_ne (tgt := 17) hx hb dX2_side_11 (by decide) (fun c_11 => ?_) (fun c_11 => ?_)
    ·
      obtain ⟨k, hk, hxk⟩ := wI_nat c_11 (by decide)
      subst hxk
      have hck : (nI k).toNatClampNeg = k := nI_clamp (by omega)
      refine lv_iload_n hx hb dX2_side_17 rfl (lv_at hl 1 rfl) ?_
      refine lv_iload_n hx hb dX2_side_18 rfl (lv_at hl 2 rfl) ?_
      refine nv_icmp_ne (tgt := 26) hx hb dX2_side_19 (by decide) (by omega) (by omega) (fun c_19 => ?_) (fun c_19 => ?_)
      ·
        refine lv_bipush (v := (-6)) hx hb dX2_side_26 (by decide) ?_
        refine lv_istore_n (lv' := [(3, .int (-6)), (0, .ref (μ 0)), (1, .int (nI j)), (2, .int (nI k))]) hx hb dX2_side_28 rfl hl (by decide) rfl (fun ls hl => ?_)
        refine lv_iconst (v := nI 1) hx hb dX2_side_29 (by decide) ?_
        refine lv_istore (lv' := [(4, .int (nI 1)), (3, .int (-6)), (0, .ref (μ 0)), (1, .int (nI j)), (2, .int (nI k))]) hx hb dX2_side_30 hl (by decide) rfl (fun ls hl => ?_)
        have loop_32 : ∀ (n : Nat) (d : Nat), (d ≤ 6) → 6 - d < n → ∀ (x3 x4 : Int32), x3 = oI (lst (sdP j k) (d + 1)) → x4 = nI (d + 1) → ∀ ls : Array Slot, lv_has ls 5 [(0, .ref (μ 0)), (1, .int (nI j)), (2, .int (nI k)), (3, .int x3), (4, .int x4)] → W p l e (headSpec wsX2_side ({ frames := 3, cells := 0, slots := 0, locals := 67 })).room s m [.ref (μ 0), .int (nI j), .int (nI k)].toArray below meth c s.heap [] 0 0 (MQ below (vp_Si (fun r => r = sideR (nI j) (nI k))) [.ref (μ 0), .int (nI j), .int (nI k)].toArray s 0 0 (fun _ => False)) (F0 m 32 ls []) := by
          intro n
          induction n with
          | zero => intro d hd hm; exact absurd hm (Nat.not_lt_zero _)
          | succ n ih_32 =>
            intro d hd hm_32 x3 x4 e3 e4 ls hl
            subst e3
            subst e4
            refine lv_iload hx hb dX2_side_32 (lv_at hl 4 rfl) ?_
            refine lv_bipush (v := nI 6) hx hb dX2_side_34 (by decide) ?_
            refine nv_icmp_gt (tgt := 63) hx hb dX2_side_36 (by decide) (by omega) (by omega) (fun c_36 => ?_) (fun c_36 => ?_)
            ·
              refine lv_iload_n hx hb dX2_side_63 rfl (lv_at hl 3 rfl) ?_
              exact ret_i hx hb hr hlocks dX2_side_64 (by simp [sideR, gd, c_4, c_11, hcj, hck, show d = 6 by omega])
            ·
              refine lv_aload_n hx hb dX2_side_39 rfl (lv_at hl 0 rfl) ?_
              refine lv_iload_n hx hb dX2_side_40 rfl (lv_at hl 1 rfl) ?_
              refine lv_iload hx hb dX2_side_41 (lv_at hl 4 rfl) ?_
              refine rd_V S hl (c_X2_nextOf l D cI cZ μ σ M V j (d + 1) (by omega) (by omega)) MB.hb gX2_side_X2_nextOf rfl rfl nf_X2_nextOf rfl rfl dX2_side_43 (MP.rc0 hMK hP) (MB.at hMK ⟨hRel, hPt, hKg, hP⟩) ?_
              refine lv_iload_n hx hb dX2_side_46 rfl (lv_at hl 2 rfl) ?_
              refine lv_icmp_ne (tgt := 55) hx hb dX2_side_47 (by decide) (fun c_47 => ?_) (fun c_47 => ?_)
              ·
                have mis : nbo j (d + 1) ≠ some k := fun q => c_47 ((oI_eq (fun q h => nbo_lt h) (by omega)).mpr q)
                refine lv_iload_n hx hb dX2_side_55 rfl (lv_at hl 3 rfl) ?_
                refine lv_istore_n (lv' := [(3, .int (oI (lst (sdP j k) (d + 1)))), (0, .ref (μ 0)), (1, .int (nI j)), (2, .int (nI k)), (4, .int (nI (d + 1)))]) hx hb dX2_side_56 rfl hl (by decide) rfl (fun ls hl => ?_)
                refine lv_iinc (v := nI (d + 1 + 1)) (lv' := [(4, .int (nI (d + 1 + 1))), (3, .int (oI (lst (sdP j k) (d + 1)))), (0, .ref (μ 0)), (1, .int (nI j)), (2, .int (nI k))]) hx hb dX2_side_57 hl (k := 4) rfl (inc_nI _) (by decide) rfl (fun ls hl => ?_)
                refine lv_goto (tgt := 32) hx hb dX2_side_60 (by decide) ?_
                exact ih_32 (d + 1) (by omega) (by omega) _ _ (by first | exact sd_t hit | exact sd_f mis) (by first | rfl | exact congrArg nI (by omega)) _ (lv_sub hl [2, 3, 4, 1, 0] rfl)
              ·
                have hit := (oI_eq (fun q h => nbo_lt h) (by omega)).mp c_47
                refine lv_iload hx hb dX2_side_50 (lv_at hl 4 rfl) ?_
                refine lv_goto (tgt := 56) hx hb dX2_side_52 (by decide) ?_
                refine lv_istore_n (lv' := [(3, .int (nI (d + 1))), (0, .ref (μ 0)), (1, .int (nI j)), (2, .int (nI k)), (4, .int (nI (d + 1)))]) hx hb dX2_side_56 rfl hl (by decide) rfl (fun ls hl => ?_)
                refine lv_iinc (v := nI (d + 1 + 1)) (lv' := [(4, .int (nI (d + 1 + 1))), (3, .int (nI (d + 1))), (0, .ref (μ 0)), (1, .int (nI j)), (2, .int (nI k))]) hx hb dX2_side_57 hl (k := 4) rfl (inc_nI _) (by decide) rfl (fun ls hl => ?_)
                refine lv_goto (tgt := 32) hx hb dX2_side_60 (by decide) ?_
                exact ih_32 (d + 1) (by omega) (by omega) _ _ (by first | exact sd_t hit | exact sd_f mis) (by first | rfl | exact congrArg nI (by omega)) _ (lv_sub hl [2, 3, 4, 1, 0] rfl)
        exact loop_32 (6 - 0 + 1) 0 (by omega) (Nat.lt_succ_self _) _ _ (by first | exact sd_eq (by omega) c_19 | exact sd_ne (by omega) c_19) (by first | rfl | exact congrArg nI (by omega)) _ (lv_sub hl [2, 3, 4, 1, 0] rfl)
      ·
        refine lv_iconst (v := nI 0) hx hb dX2_side_22 (by decide) ?_
        refine lv_goto (tgt := 28) hx hb dX2_side_23 (by decide) ?_
        refine lv_istore_n (lv' := [(3, .int (nI 0)), (0, .ref (μ 0)), (1, .int (nI j)), (2, .int (nI k))]) hx hb dX2_side_28 rfl hl (by decide) rfl (fun ls hl => ?_)
        refine lv_iconst (v := nI 1) hx hb dX2_side_29 (by decide) ?_
        refine lv_istore (lv' := [(4, .int (nI 1)), (3, .int (nI 0)), (0, .ref (μ 0)), (1, .int (nI j)), (2, .int (nI k))]) hx hb dX2_side_30 hl (by decide) rfl (fun ls hl => ?_)
        have loop_32 : ∀ (n : Nat) (d : Nat), (d ≤ 6) → 6 - d < n → ∀ (x3 x4 : Int32), x3 = oI (lst (sdP j k) (d + 1)) → x4 = nI (d + 1) → ∀ ls : Array Slot, lv_has ls 5 [(0, .ref (μ 0)), (1, .int (nI j)), (2, .int (nI k)), (3, .int x3), (4, .int x4)] → W p l e (headSpec wsX2_side ({ frames := 3, cells := 0, slots := 0, locals := 67 })).room s m [.ref (μ 0), .int (nI j), .int (nI k)].toArray below meth c s.heap [] 0 0 (MQ below (vp_Si (fun r => r = sideR (nI j) (nI k))) [.ref (μ 0), .int (nI j), .int (nI k)].toArray s 0 0 (fun _ => False)) (F0 m 32 ls []) := by
          intro n
          induction n with
          | zero => intro d hd hm; exact absurd hm (Nat.not_lt_zero _)
          | succ n ih_32 =>
            intro d hd hm_32 x3 x4 e3 e4 ls hl
            subst e3
            subst e4
            refine lv_iload hx hb dX2_side_32 (lv_at hl 4 rfl) ?_
            refine lv_bipush (v := nI 6) hx hb dX2_side_34 (by decide) ?_
            refine nv_icmp_gt (tgt := 63) hx hb dX2_side_36 (by decide) (by omega) (by omega) (fun c_36 => ?_) (fun c_36 => ?_)
            ·
              refine lv_iload_n hx hb dX2_side_63 rfl (lv_at hl 3 rfl) ?_
              exact ret_i hx hb hr hlocks dX2_side_64 (by simp [sideR, gd, c_4, c_11, hcj, hck, show d = 6 by omega])
            ·
              refine lv_aload_n hx hb dX2_side_39 rfl (lv_at hl 0 rfl) ?_
              refine lv_iload_n hx hb dX2_side_40 rfl (lv_at hl 1 rfl) ?_
              refine lv_iload hx hb dX2_side_41 (lv_at hl 4 rfl) ?_
              refine rd_V S hl (c_X2_nextOf l D cI cZ μ σ M V j (d + 1) (by omega) (by omega)) MB.hb gX2_side_X2_nextOf rfl rfl nf_X2_nextOf rfl rfl dX2_side_43 (MP.rc0 hMK hP) (MB.at hMK ⟨hRel, hPt, hKg, hP⟩) ?_
              refine lv_iload_n hx hb dX2_side_46 rfl (lv_at hl 2 rfl) ?_
              refine lv_icmp_ne (tgt := 55) hx hb dX2_side_47 (by decide) (fun c_47 => ?_) (fun c_47 => ?_)
              ·
                have mis : nbo j (d + 1) ≠ some k := fun q => c_47 ((oI_eq (fun q h => nbo_lt h) (by omega)).mpr q)
                refine lv_iload_n hx hb dX2_side_55 rfl (lv_at hl 3 rfl) ?_
                refine lv_istore_n (lv' := [(3, .int (oI (lst (sdP j k) (d + 1)))), (0, .ref (μ 0)), (1, .int (nI j)), (2, .int (nI k)), (4, .int (nI (d + 1)))]) hx hb dX2_side_56 rfl hl (by decide) rfl (fun ls hl => ?_)
                refine lv_iinc (v := nI (d + 1 + 1)) (lv' := [(4, .int (nI (d + 1 + 1))), (3, .int (oI (lst (sdP j k) (d + 1)))), (0, .ref (μ 0)), (1, .int (nI j)), (2, .int (nI k))]) hx hb dX2_side_57 hl (k := 4) rfl (inc_nI _) (by decide) rfl (fun ls hl => ?_)
                refine lv_goto (tgt := 32) hx hb dX2_side_60 (by decide) ?_
                exact ih_32 (d + 1) (by omega) (by omega) _ _ (by first | exact sd_t hit | exact sd_f mis) (by first | rfl | exact congrArg nI (by omega)) _ (lv_sub hl [2, 3, 4, 1, 0] rfl)
              ·
                have hit := (oI_eq (fun q h => nbo_lt h) (by omega)).mp c_47
                refine lv_iload hx hb dX2_side_50 (lv_at hl 4 rfl) ?_
                refine lv_goto (tgt := 56) hx hb dX2_side_52 (by decide) ?_
                refine lv_istore_n (lv' := [(3, .int (nI (d + 1))), (0, .ref (μ 0)), (1, .int (nI j)), (2, .int (nI k)), (4, .int (nI (d + 1)))]) hx hb dX2_side_56 rfl hl (by decide) rfl (fun ls hl => ?_)
                refine lv_iinc (v := nI (d + 1 + 1)) (lv' := [(4, .int (nI (d + 1 + 1))), (3, .int (nI (d + 1))), (0, .ref (μ 0)), (1, .int (nI j)), (2, .int (nI k))]) hx hb dX2_side_57 hl (k := 4) rfl (inc_nI _) (by decide) rfl (fun ls hl => ?_)
                refine lv_goto (tgt := 32) hx hb dX2_side_60 (by decide) ?_
                exact ih_32 (d + 1) (by omega) (by omega) _ _ (by first | exact sd_t hit | exact sd_f mis) (by first | rfl | exact congrArg nI (by omega)) _ (lv_sub hl [2, 3, 4, 1, 0] rfl)
        exact loop_32 (6 - 0 + 1) 0 (by omega) (Nat.lt_succ_self _) _ _ (by first | exact sd_eq (by omega) c_19 | exact sd_ne (by omega) c_19) (by first | rfl | exact congrArg nI (by omega)) _ (lv_sub hl [2, 3, 4, 1, 0] rfl)
    ·
      refine lv_bipush (v := (-2)) hx hb dX2_side_14 (by decide) ?_
      exact ret_i hx hb hr hlocks dX2_side_16 (by first | (simp [sideR, gd, gs, c_4, c_11]; done) | (simp [sideR, gd, gs, c_4]; done))
theorem nf_X2_patch : nfOk yX2_patch 2 := by unfold nfOk; decide +kernel
set_option maxHeartbeats 4000000 in
set_option maxRecDepth 100000 in
theorem c_X2_patch (l : Launch) (D : va_G) (cI cZ : ClassId) (μ : Nat → Nat) (σ : Nat → Nat → Bool) (M : Nat → Nat → Int32) (V : Nat → Int32) (x : Int32) (y : Int32) : Rd l yX2_patch wsX2_patch ({ frames := 2, cells := 0, slots := 0, locals := 43 }) [.ref (μ 0), .int x, .int y] (MB D cI cZ μ σ M V) (patchR x y) := by
  refine met_in RX2 (by decide) rfl rfl (Nat.le_of_ble_eq_true rfl) ?_
  intro p e s m below meth c ls S hr hlocks hl hB
  have hx := S.1
  have hb := S.2.1
  have hml := S.2.2.1
  have hown := S.2.2.2.1
  have hts := S.2.2.2.2
  have hl : lv_has ls 3 [(0, .ref (μ 0)), (1, .int x), (2, .int y)] := hl
  obtain ⟨⟨hRel, hPt, hKg, hP⟩, hMK⟩ := hB
  have hK := hMK.1
  have hS : va_S (xA 13 μ) s.heap s.heap [] := va_S.rf
  refine lv_iload_n hx hb dX2_patch_0 rfl (lv_at hl 1 rfl) ?_
  refine rd_S S hl (c_X2_isKey l x) HB.tt gX2_patch_X2_isKey rfl nf_X2_isKey rfl rfl dX2_patch_1  (fun _ _ _ => trivial) ?_
  refine nv_ifz_eq (tgt := 22) hx hb dX2_patch_4 (by decide) (fun c_4 => ?_) (fun c_4 => ?_)
  ·
    refine lv_bipush (v := (-2)) hx hb dX2_patch_22 (by decide) ?_
    exact ret_i hx hb hr hlocks dX2_patch_24 (by first | (simp [patchR, gd, pO, c_4, c_11, hck, hcL]; done) | (simp [patchR, gd, c_4, c_11]; done) | (simp [patchR, gd, c_4]; done))
  ·
    obtain ⟨k, hk, hxk⟩ := wI_nat c_4 (by decide)
    subst hxk
    have hck : (nI k).toNatClampNeg = k := nI_clamp (by omega)
    refine lv_iload_n hx hb dX2_patch_7 rfl (lv_at hl 2 rfl) ?_
    refine rd_S S hl (c_X2_isLevel l y) HB.tt gX2_patch_X2_isLevel rfl nf_X2_isLevel rfl rfl dX2_patch_8  (fun _ _ _ => trivial) ?_
    refine nv_ifz_eq (tgt := 22) hx hb dX2_patch_11 (by decide) (fun c_11 => ?_) (fun c_11 => ?_)
    ·
      refine lv_bipush (v := (-2)) hx hb dX2_patch_22 (by decide) ?_
      exact ret_i hx hb hr hlocks dX2_patch_24 (by first | (simp [patchR, gd, pO, c_4, c_11, hck, hcL]; done) | (simp [patchR, gd, c_4, c_11]; done) | (simp [patchR, gd, c_4]; done))
    ·
      obtain ⟨L, hL, hxL⟩ := wI_nat c_11 (by decide)
      subst hxL
      have hcL : (nI L).toNatClampNeg = L := nI_clamp (by omega)
      refine lv_iload_n hx hb dX2_patch_14 rfl (lv_at hl 1 rfl) ?_
      refine lv_iload_n hx hb dX2_patch_15 rfl (lv_at hl 2 rfl) ?_
      refine rd_S S hl (c_X2_patchOf l k L (by omega) (by omega)) HB.tt gX2_patch_X2_patchOf rfl nf_X2_patchOf rfl rfl dX2_patch_16  (fun _ _ _ => trivial) ?_
      refine lv_goto (tgt := 24) hx hb dX2_patch_19 (by decide) ?_
      exact ret_i hx hb hr hlocks dX2_patch_24 (by first | (simp [patchR, gd, pO, c_4, c_11, hck, hcL]; done) | (simp [patchR, gd, c_4, c_11]; done) | (simp [patchR, gd, c_4]; done))
theorem nf_X2_ring : nfOk yX2_ring 2 := by unfold nfOk; decide +kernel
set_option maxHeartbeats 4000000 in
set_option maxRecDepth 100000 in
theorem c_X2_ring (l : Launch) (D : va_G) (cI cZ : ClassId) (μ : Nat → Nat) (σ : Nat → Nat → Bool) (M : Nat → Nat → Int32) (V : Nat → Int32) (x : Int32) (y : Int32) : Rd l yX2_ring wsX2_ring ({ frames := 2, cells := 0, slots := 0, locals := 46 }) [.ref (μ 0), .int x, .int y] (MB D cI cZ μ σ M V) (ringR x y) := by
  refine met_in RX2 (by decide) rfl rfl (Nat.le_of_ble_eq_true rfl) ?_
  intro p e s m below meth c ls S hr hlocks hl hB
  have hx := S.1
  have hb := S.2.1
  have hml := S.2.2.1
  have hown := S.2.2.2.1
  have hts := S.2.2.2.2
  have hl : lv_has ls 5 [(0, .ref (μ 0)), (1, .int x), (2, .int y)] := hl
  obtain ⟨⟨hRel, hPt, hKg, hP⟩, hMK⟩ := hB
  have hK := hMK.1
  have hS : va_S (xA 13 μ) s.heap s.heap [] := va_S.rf
  refine lv_iload_n hx hb dX2_ring_0 rfl (lv_at hl 1 rfl) ?_
  refine rd_S S hl (c_X2_isKey l x) HB.tt gX2_ring_X2_isKey rfl nf_X2_isKey rfl rfl dX2_ring_1  (fun _ _ _ => trivial) ?_
  refine nv_ifz_eq (tgt := 17) hx hb dX2_ring_4 (by decide) (fun c_4 => ?_) (fun c_4 => ?_)
  ·
    refine lv_bipush (v := (-2)) hx hb dX2_ring_17 (by decide) ?_
    exact ret_i hx hb hr hlocks dX2_ring_19 (by first | (simp [ringR, gd, gs, c_4, c_14]; done) | (simp [ringR, gd, gs, c_4]; done))
  ·
    obtain ⟨k, hk, hxk⟩ := wI_nat c_4 (by decide)
    subst hxk
    have hck : (nI k).toNatClampNeg = k := nI_clamp (by omega)
    refine lv_iload_n hx hb dX2_ring_7 rfl (lv_at hl 2 rfl) ?_
    refine lv_iconst (v := nI 0) hx hb dX2_ring_8 (by decide) ?_
    refine lv_bipush (v := nI 70) hx hb dX2_ring_9 (by decide) ?_
    refine rd_S S hl (c_X2_in l y (nI 0) (nI 70)) HB.tt gX2_ring_X2_in rfl nf_X2_in rfl rfl dX2_ring_11  (fun _ _ _ => trivial) ?_
    refine nv_ifz_ne (tgt := 20) hx hb dX2_ring_14 (by decide) (fun c_14 => ?_) (fun c_14 => ?_)
    ·
      refine lv_iconst (v := nI 0) hx hb dX2_ring_20 (by decide) ?_
      refine lv_istore_n (lv' := [(3, .int (nI 0)), (0, .ref (μ 0)), (1, .int (nI k)), (2, .int y)]) hx hb dX2_ring_21 rfl hl (by decide) rfl (fun ls hl => ?_)
      refine lv_iconst (v := nI 0) hx hb dX2_ring_22 (by decide) ?_
      refine lv_istore (lv' := [(4, .int (nI 0)), (3, .int (nI 0)), (0, .ref (μ 0)), (1, .int (nI k)), (2, .int y)]) hx hb dX2_ring_23 hl (by decide) rfl (fun ls hl => ?_)
      have loop_25 : ∀ (n : Nat) (i : Nat), (i ≤ 2401) → 2401 - i < n → ∀ (x3 x4 : Int32), x3 = nI (fb_ct (fun j => decide (farI k j = y)) i) → x4 = nI i → ∀ ls : Array Slot, lv_has ls 5 [(0, .ref (μ 0)), (1, .int (nI k)), (2, .int y), (3, .int x3), (4, .int x4)] → W p l e (headSpec wsX2_ring ({ frames := 2, cells := 0, slots := 0, locals := 46 })).room s m [.ref (μ 0), .int (nI k), .int y].toArray below meth c s.heap [] 0 0 (MQ below (vp_Si (fun r => r = ringR (nI k) y)) [.ref (μ 0), .int (nI k), .int y].toArray s 0 0 (fun _ => False)) (F0 m 25 ls []) := by
        intro n
        induction n with
        | zero => intro i hi hm; exact absurd hm (Nat.not_lt_zero _)
        | succ n ih_25 =>
          intro i hi hm_25 x3 x4 e3 e4 ls hl
          subst e3
          subst e4
          refine lv_iload hx hb dX2_ring_25 (lv_at hl 4 rfl) ?_
          refine lv_sipush (v := nI 2401) hx hb dX2_ring_27 (by decide) ?_
          refine nv_icmp_ge (tgt := 58) hx hb dX2_ring_30 (by decide) (by omega) (by omega) (fun c_30 => ?_) (fun c_30 => ?_)
          ·
            refine lv_iload_n hx hb dX2_ring_58 rfl (lv_at hl 3 rfl) ?_
            exact ret_i hx hb hr hlocks dX2_ring_59 (by simp [ringR, gd, c_4, c_14, hck, show i = 2401 by omega])
          ·
            refine lv_iload_n hx hb dX2_ring_33 rfl (lv_at hl 3 rfl) ?_
            refine lv_aload_n hx hb dX2_ring_34 rfl (lv_at hl 0 rfl) ?_
            refine lv_iload_n hx hb dX2_ring_35 rfl (lv_at hl 1 rfl) ?_
            refine lv_iload hx hb dX2_ring_36 (lv_at hl 4 rfl) ?_
            refine rd_V S hl (c_X2_farOf l D cI cZ μ σ M V k i (by omega) (by omega)) MB.hb gX2_ring_X2_farOf rfl rfl nf_X2_farOf rfl rfl dX2_ring_38 (MP.rc0 hMK hP) (MB.at hMK ⟨hRel, hPt, hKg, hP⟩) ?_
            refine lv_iload_n hx hb dX2_ring_41 rfl (lv_at hl 2 rfl) ?_
            refine lv_icmp_ne (tgt := 49) hx hb dX2_ring_42 (by decide) (fun c_42 => ?_) (fun c_42 => ?_)
            ·
              have hh : decide (farI k i = y) = false := decide_eq_false c_42
              refine lv_iconst (v := nI 0) hx hb dX2_ring_49 (by decide) ?_
              refine lv_iadd hx hb dX2_ring_50 ?_
              refine nv_as (nI (fb_ct (fun j => decide (farI k j = y)) i + 0)) (nI_add _ _) ?_
              refine lv_istore_n (lv' := [(3, .int (nI (fb_ct (fun j => decide (farI k j = y)) i + 0))), (0, .ref (μ 0)), (1, .int (nI k)), (2, .int y), (4, .int (nI i))]) hx hb dX2_ring_51 rfl hl (by decide) rfl (fun ls hl => ?_)
              refine lv_iinc (v := nI (i + 1)) (lv' := [(4, .int (nI (i + 1))), (3, .int (nI (fb_ct (fun j => decide (farI k j = y)) i + 0))), (0, .ref (μ 0)), (1, .int (nI k)), (2, .int y)]) hx hb dX2_ring_52 hl (k := 4) rfl (inc_nI _) (by decide) rfl (fun ls hl => ?_)
              refine lv_goto (tgt := 25) hx hb dX2_ring_55 (by decide) ?_
              exact ih_25 (i + 1) (by omega) (by omega) _ _ (by rw [fb_ct_succ, hh]; rfl) (by first | rfl | exact congrArg nI (by omega)) _ (lv_sub hl [2, 3, 4, 1, 0] rfl)
            ·
              have hh : decide (farI k i = y) = true := decide_eq_true c_42
              refine lv_iconst (v := nI 1) hx hb dX2_ring_45 (by decide) ?_
              refine lv_goto (tgt := 50) hx hb dX2_ring_46 (by decide) ?_
              refine lv_iadd hx hb dX2_ring_50 ?_
              refine nv_as (nI (fb_ct (fun j => decide (farI k j = y)) i + 1)) (nI_add _ _) ?_
              refine lv_istore_n (lv' := [(3, .int (nI (fb_ct (fun j => decide (farI k j = y)) i + 1))), (0, .ref (μ 0)), (1, .int (nI k)), (2, .int y), (4, .int (nI i))]) hx hb dX2_ring_51 rfl hl (by decide) rfl (fun ls hl => ?_)
              refine lv_iinc (v := nI (i + 1)) (lv' := [(4, .int (nI (i + 1))), (3, .int (nI (fb_ct (fun j => decide (farI k j = y)) i + 1))), (0, .ref (μ 0)), (1, .int (nI k)), (2, .int y)]) hx hb dX2_ring_52 hl (k := 4) rfl (inc_nI _) (by decide) rfl (fun ls hl => ?_)
              refine lv_goto (tgt := 25) hx hb dX2_ring_55 (by decide) ?_
              exact ih_25 (i + 1) (by omega) (by omega) _ _ (by rw [fb_ct_succ, hh]; rfl) (by first | rfl | exact congrArg nI (by omega)) _ (lv_sub hl [2, 3, 4, 1, 0] rfl)
      exact loop_25 (2401 - 0 + 1) 0 (by omega) (Nat.lt_succ_self _) _ _ (by first | rfl | exact congrArg nI (by omega)) rfl _ (lv_sub hl [2, 3, 4, 1, 0] rfl)
    ·
      refine lv_bipush (v := (-2)) hx hb dX2_ring_17 (by decide) ?_
      exact ret_i hx hb hr hlocks dX2_ring_19 (by first | (simp [ringR, gd, gs, c_4, c_14]; done) | (simp [ringR, gd, gs, c_4]; done))
theorem nf_X2_isIn : nfOk yX2_isIn 2 := by unfold nfOk; decide +kernel
set_option maxHeartbeats 4000000 in
set_option maxRecDepth 100000 in
theorem c_X2_isIn (l : Launch) (D : va_G) (cI cZ : ClassId) (μ : Nat → Nat) (σ : Nat → Nat → Bool) (M : Nat → Nat → Int32) (V : Nat → Int32) (sl : Nat) (k : Nat) (hsl : sl < 12) (hk : k < 2401) : Rd l yX2_isIn wsX2_isIn ({ frames := 0, cells := 0, slots := 0, locals := 0 }) [.ref (μ 0), .int (nI sl), .int (nI k)] (MB D cI cZ μ σ M V) (bI (σ sl k)) := by
  refine met_in RX2 (by decide) rfl rfl (Nat.le_of_ble_eq_true rfl) ?_
  intro p e s m below meth c ls S hr hlocks hl hB
  have hx := S.1
  have hb := S.2.1
  have hml := S.2.2.1
  have hown := S.2.2.2.1
  have hts := S.2.2.2.2
  have hl : lv_has ls 3 [(0, .ref (μ 0)), (1, .int (nI sl)), (2, .int (nI k))] := hl
  obtain ⟨⟨hRel, hPt, hKg, hP⟩, hMK⟩ := hB
  have hK := hMK.1
  have hS : va_S (xA 13 μ) s.heap s.heap [] := va_S.rf
  refine lv_aload_n hx hb dX2_isIn_0 rfl (lv_at hl 0 rfl) ?_
  refine va_get (D := D) (ci := 2) (v := .ref (μ 4)) (C := RX2) (T := TX2) (N := 15) hx hb hts (by decide +kernel) hown hK hP 0 rfl rfl 3 (by decide) (hts (.fieldLink RX2 19 "SevenKeysModel" "sets" "[Z") (by decide +kernel)) (fun _ h9 => h9) rfl dX2_isIn_1 ?_
  refine lv_sipush (v := nI 2401) hx hb dX2_isIn_4 (by decide) ?_
  refine lv_iload_n hx hb dX2_isIn_7 rfl (lv_at hl 1 rfl) ?_
  refine lv_imul hx hb dX2_isIn_8 ?_
  refine nv_as (nI (2401 * sl)) (pk_mul _ _) ?_
  refine lv_iload_n hx hb dX2_isIn_9 rfl (lv_at hl 2 rfl) ?_
  refine lv_iadd hx hb dX2_isIn_10 ?_
  refine nv_as (nI (2401 * sl + k)) (nI_add _ _) ?_
  refine nv_zald hx hb hK hP 4 1 rfl rfl (by omega) (by decide) dX2_isIn_11 ?_
  refine nv_as (bI (σ sl k)) (by exact hRel sl k hsl hk) ?_
  exact ret_z hx hb hr hlocks dX2_isIn_12 (by rfl)
theorem nf_X2_many : nfOk yX2_many 1 := by unfold nfOk; decide +kernel
set_option maxHeartbeats 4000000 in
set_option maxRecDepth 100000 in
theorem c_X2_many (l : Launch) (D : va_G) (cI cZ : ClassId) (μ : Nat → Nat) (σ : Nat → Nat → Bool) (M : Nat → Nat → Int32) (V : Nat → Int32) (sl : Nat) (hsl : sl < 4) : Rd l yX2_many wsX2_many ({ frames := 1, cells := 0, slots := 0, locals := 22 }) [.ref (μ 0), .int (nI sl)] (MB D cI cZ μ σ M V) (nI (fb_ct (σ sl) 2401)) := by
  refine met_in RX2 (by decide) rfl rfl (Nat.le_of_ble_eq_true rfl) ?_
  intro p e s m below meth c ls S hr hlocks hl hB
  have hx := S.1
  have hb := S.2.1
  have hml := S.2.2.1
  have hown := S.2.2.2.1
  have hts := S.2.2.2.2
  have hl : lv_has ls 4 [(0, .ref (μ 0)), (1, .int (nI sl))] := hl
  obtain ⟨⟨hRel, hPt, hKg, hP⟩, hMK⟩ := hB
  have hK := hMK.1
  have hS : va_S (xA 13 μ) s.heap s.heap [] := va_S.rf
  refine lv_iconst (v := nI 0) hx hb dX2_many_0 (by decide) ?_
  refine lv_istore_n (lv' := [(2, .int (nI 0)), (0, .ref (μ 0)), (1, .int (nI sl))]) hx hb dX2_many_1 rfl hl (by decide) rfl (fun ls hl => ?_)
  refine lv_iconst (v := nI 0) hx hb dX2_many_2 (by decide) ?_
  refine lv_istore_n (lv' := [(3, .int (nI 0)), (2, .int (nI 0)), (0, .ref (μ 0)), (1, .int (nI sl))]) hx hb dX2_many_3 rfl hl (by decide) rfl (fun ls hl => ?_)
  have loop_4 : ∀ (n : Nat) (i : Nat), (i ≤ 2401) → 2401 - i < n → ∀ (x2 x3 : Int32), x2 = nI (fb_ct (σ sl) i) → x3 = nI i → ∀ ls : Array Slot, lv_has ls 4 [(0, .ref (μ 0)), (1, .int (nI sl)), (2, .int x2), (3, .int x3)] → W p l e (headSpec wsX2_many ({ frames := 1, cells := 0, slots := 0, locals := 22 })).room s m [.ref (μ 0), .int (nI sl)].toArray below meth c s.heap [] 0 0 (MQ below (vp_Si (fun r => r = nI (fb_ct (σ sl) 2401))) [.ref (μ 0), .int (nI sl)].toArray s 0 0 (fun _ => False)) (F0 m 4 ls []) := by
    intro n
    induction n with
    | zero => intro i hi hm; exact absurd hm (Nat.not_lt_zero _)
    | succ n ih_4 =>
      intro i hi hm_4 x2 x3 e2 e3 ls hl
      subst e2
      subst e3
      refine lv_iload_n hx hb dX2_many_4 rfl (lv_at hl 3 rfl) ?_
      refine lv_sipush (v := nI 2401) hx hb dX2_many_5 (by decide) ?_
      refine nv_icmp_ge (tgt := 34) hx hb dX2_many_8 (by decide) (by omega) (by omega) (fun c_8 => ?_) (fun c_8 => ?_)
      ·
        refine lv_iload_n hx hb dX2_many_34 rfl (lv_at hl 2 rfl) ?_
        exact ret_i hx hb hr hlocks dX2_many_35 (by rw [show i = 2401 by omega])
      ·
        refine lv_iload_n hx hb dX2_many_11 rfl (lv_at hl 2 rfl) ?_
        refine lv_aload_n hx hb dX2_many_12 rfl (lv_at hl 0 rfl) ?_
        refine lv_iload_n hx hb dX2_many_13 rfl (lv_at hl 1 rfl) ?_
        refine lv_iload_n hx hb dX2_many_14 rfl (lv_at hl 3 rfl) ?_
        refine rd_V S hl (c_X2_isIn l D cI cZ μ σ M V sl i (by omega) (by omega)) MB.hb gX2_many_X2_isIn rfl rfl nf_X2_isIn rfl rfl dX2_many_15 (MP.rc0 hMK hP) (MB.at hMK ⟨hRel, hPt, hKg, hP⟩) ?_
        refine nv_ifz_eq (tgt := 25) hx hb dX2_many_18 (by decide) (fun c_18 => ?_) (fun c_18 => ?_)
        ·
          refine lv_iconst (v := nI 0) hx hb dX2_many_25 (by decide) ?_
          refine lv_iadd hx hb dX2_many_26 ?_
          refine nv_as (nI (fb_ct (σ sl) i + 0)) (nI_add _ _) ?_
          refine lv_istore_n (lv' := [(2, .int (nI (fb_ct (σ sl) i + 0))), (0, .ref (μ 0)), (1, .int (nI sl)), (3, .int (nI i))]) hx hb dX2_many_27 rfl hl (by decide) rfl (fun ls hl => ?_)
          refine lv_iinc (v := nI (i + 1)) (lv' := [(3, .int (nI (i + 1))), (2, .int (nI (fb_ct (σ sl) i + 0))), (0, .ref (μ 0)), (1, .int (nI sl))]) hx hb dX2_many_28 hl (k := 3) rfl (inc_nI _) (by decide) rfl (fun ls hl => ?_)
          refine lv_goto (tgt := 4) hx hb dX2_many_31 (by decide) ?_
          exact ih_4 (i + 1) (by omega) (by omega) _ _ (by rw [fb_ct_succ, c_18]; rfl) (by first | rfl | exact congrArg nI (by omega)) _ (lv_sub hl [2, 3, 1, 0] rfl)
        ·
          refine lv_iconst (v := nI 1) hx hb dX2_many_21 (by decide) ?_
          refine lv_goto (tgt := 26) hx hb dX2_many_22 (by decide) ?_
          refine lv_iadd hx hb dX2_many_26 ?_
          refine nv_as (nI (fb_ct (σ sl) i + 1)) (nI_add _ _) ?_
          refine lv_istore_n (lv' := [(2, .int (nI (fb_ct (σ sl) i + 1))), (0, .ref (μ 0)), (1, .int (nI sl)), (3, .int (nI i))]) hx hb dX2_many_27 rfl hl (by decide) rfl (fun ls hl => ?_)
          refine lv_iinc (v := nI (i + 1)) (lv' := [(3, .int (nI (i + 1))), (2, .int (nI (fb_ct (σ sl) i + 1))), (0, .ref (μ 0)), (1, .int (nI sl))]) hx hb dX2_many_28 hl (k := 3) rfl (inc_nI _) (by decide) rfl (fun ls hl => ?_)
          refine lv_goto (tgt := 4) hx hb dX2_many_31 (by decide) ?_
          exact ih_4 (i + 1) (by omega) (by omega) _ _ (by rw [fb_ct_succ, c_18]; rfl) (by first | rfl | exact congrArg nI (by omega)) _ (lv_sub hl [2, 3, 1, 0] rfl)
  exact loop_4 (2401 - 0 + 1) 0 (by omega) (Nat.lt_succ_self _) _ _ (by first | rfl | exact congrArg nI (by omega)) rfl _ (lv_sub hl [2, 3, 1, 0] rfl)
theorem nf_X2_has : nfOk yX2_has 2 := by unfold nfOk; decide +kernel
set_option maxHeartbeats 4000000 in
set_option maxRecDepth 100000 in
theorem c_X2_has (l : Launch) (D : va_G) (cI cZ : ClassId) (μ : Nat → Nat) (σ : Nat → Nat → Bool) (M : Nat → Nat → Int32) (V : Nat → Int32) (a : Int32) (x : Int32) : Rd l yX2_has wsX2_has ({ frames := 2, cells := 0, slots := 0, locals := 42 }) [.ref (μ 0), .int a, .int x] (MB D cI cZ μ σ M V) (hasR σ a x) := by
  refine met_in RX2 (by decide) rfl rfl (Nat.le_of_ble_eq_true rfl) ?_
  intro p e s m below meth c ls S hr hlocks hl hB
  have hx := S.1
  have hb := S.2.1
  have hml := S.2.2.1
  have hown := S.2.2.2.1
  have hts := S.2.2.2.2
  have hl : lv_has ls 3 [(0, .ref (μ 0)), (1, .int a), (2, .int x)] := hl
  obtain ⟨⟨hRel, hPt, hKg, hP⟩, hMK⟩ := hB
  have hK := hMK.1
  have hS : va_S (xA 13 μ) s.heap s.heap [] := va_S.rf
  refine lv_iload_n hx hb dX2_has_0 rfl (lv_at hl 1 rfl) ?_
  refine rd_S S hl (c_X2_isSlot l a) HB.tt gX2_has_X2_isSlot rfl nf_X2_isSlot rfl rfl dX2_has_1  (fun _ _ _ => trivial) ?_
  refine nv_ifz_ne (tgt := 9) hx hb dX2_has_4 (by decide) (fun c_4 => ?_) (fun c_4 => ?_)
  ·
    obtain ⟨sl, hsl, hxsl⟩ := wI_nat c_4 (by decide)
    subst hxsl
    have hcsl : (nI sl).toNatClampNeg = sl := nI_clamp (by omega)
    refine lv_iload_n hx hb dX2_has_9 rfl (lv_at hl 2 rfl) ?_
    refine rd_S S hl (c_X2_isKey l x) HB.tt gX2_has_X2_isKey rfl nf_X2_isKey rfl rfl dX2_has_10  (fun _ _ _ => trivial) ?_
    refine nv_ifz_ne (tgt := 21) hx hb dX2_has_13 (by decide) (fun c_13 => ?_) (fun c_13 => ?_)
    ·
      obtain ⟨k, hk, hxk⟩ := wI_nat c_13 (by decide)
      subst hxk
      have hck : (nI k).toNatClampNeg = k := nI_clamp (by omega)
      refine lv_aload_n hx hb dX2_has_21 rfl (lv_at hl 0 rfl) ?_
      refine lv_iload_n hx hb dX2_has_22 rfl (lv_at hl 1 rfl) ?_
      refine lv_iload_n hx hb dX2_has_23 rfl (lv_at hl 2 rfl) ?_
      refine rd_V S hl (c_X2_isIn l D cI cZ μ σ M V sl k (by omega) (by omega)) MB.hb gX2_has_X2_isIn rfl rfl nf_X2_isIn rfl rfl dX2_has_24 (MP.rc0 hMK hP) (MB.at hMK ⟨hRel, hPt, hKg, hP⟩) ?_
      refine nv_ifz_eq (tgt := 34) hx hb dX2_has_27 (by decide) (fun c_27 => ?_) (fun c_27 => ?_)
      ·
        refine lv_iconst (v := nI 0) hx hb dX2_has_34 (by decide) ?_
        exact ret_i hx hb hr hlocks dX2_has_35 (by first | (unfold hasR gs; rw [show isS (nI sl) = true from c_4, show isK (nI k) = true from c_13, show cl (nI sl) = sl from hcsl, show cl (nI k) = k from hck, c_27]; rfl) | (simp [hasR, gs, c_4, c_13]; done))
      ·
        refine lv_iconst (v := nI 1) hx hb dX2_has_30 (by decide) ?_
        refine lv_goto (tgt := 35) hx hb dX2_has_31 (by decide) ?_
        exact ret_i hx hb hr hlocks dX2_has_35 (by first | (unfold hasR gs; rw [show isS (nI sl) = true from c_4, show isK (nI k) = true from c_13, show cl (nI sl) = sl from hcsl, show cl (nI k) = k from hck, c_27]; rfl) | (simp [hasR, gs, c_4, c_13]; done))
    ·
      refine lv_bipush (v := (-2)) hx hb dX2_has_16 (by decide) ?_
      refine lv_goto (tgt := 35) hx hb dX2_has_18 (by decide) ?_
      exact ret_i hx hb hr hlocks dX2_has_35 (by first | (unfold hasR gs; rw [show isS (nI sl) = true from c_4, show isK (nI k) = true from c_13, show cl (nI sl) = sl from hcsl, show cl (nI k) = k from hck, c_27]; rfl) | (simp [hasR, gs, c_4, c_13]; done))
  ·
    refine lv_iconst (v := (-1)) hx hb dX2_has_7 (by decide) ?_
    exact ret_i hx hb hr hlocks dX2_has_8 (by first | (simp [hasR, gd, gs, c_4, c_13]; done) | (simp [hasR, gd, gs, c_4]; done))
