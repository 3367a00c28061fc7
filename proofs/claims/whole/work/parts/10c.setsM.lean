theorem nf_X2_keep : nfOk yX2_keep 1 := by unfold nfOk; decide +kernel
set_option maxHeartbeats 4000000 in
set_option maxRecDepth 100000 in
theorem c_X2_keep (l : Launch) (D : va_G) (cI cZ : ClassId) (μ : Nat → Nat) (σ : Nat → Nat → Bool) (M : Nat → Nat → Int32) (V : Nat → Int32) (sl : Nat) (f : Nat → Bool) (hsl : sl < 4) (hmd : ∀ j, j < 2401 → M 7 j = bI (f j)) : Wr l yX2_keep wsX2_keep ({ frames := 2, cells := 0, slots := 0, locals := 45 }) [.ref (μ 0), .int (nI sl)] (MB D cI cZ μ σ M V) (some (.int (nI (fb_ct (mdS σ sl 0 2401 f sl) 2401)))) (MS D cI cZ μ (mdS σ sl 0 2401 f) (M 5)) (xA 13 μ) := by
  refine met_in RX2 (by decide) rfl rfl (Nat.le_of_ble_eq_true rfl) ?_
  intro p e s m below meth c ls S hr hlocks hl hB
  have hx := S.1
  have hb := S.2.1
  have hml := S.2.2.1
  have hown := S.2.2.2.1
  have hts := S.2.2.2.2
  have hl : lv_has ls 3 [(0, .ref (μ 0)), (1, .int (nI sl))] := hl
  obtain ⟨⟨hRel, hPt, hKg, hP⟩, hMK⟩ := hB
  have hK := hMK.1
  have hS : va_S (xA 13 μ) s.heap s.heap [] := va_S.rf
  refine lv_iconst (v := nI 0) hx hb dX2_keep_0 (by decide) ?_
  refine lv_istore_n (lv' := [(2, .int (nI 0)), (0, .ref (μ 0)), (1, .int (nI sl))]) hx hb dX2_keep_1 rfl hl (by decide) rfl (fun ls hl => ?_)
  have loop_2 : ∀ (n : Nat) (i : Nat) (M1 : Nat → Nat → Int32), (i ≤ 2401) → (∀ j, j < 2401 → M1 7 j = bI (f j)) → (M1 5 = M 5) → 2401 - i < n → ∀ (x2 : Int32), x2 = nI i → ∀ (H : Heap) (locs : List Loc), va_S (xA 13 μ) s.heap H locs → MP D cI cZ μ (mdS σ sl 0 i f) M1 V H → ∀ ls : Array Slot, lv_has ls 3 [(0, .ref (μ 0)), (1, .int (nI sl)), (2, .int x2)] → W p l e (headSpec wsX2_keep ({ frames := 2, cells := 0, slots := 0, locals := 45 })).room s m [.ref (μ 0), .int (nI sl)].toArray below meth c H locs 0 0 (MQ below (qW (some (.int (nI (fb_ct (mdS σ sl 0 2401 f sl) 2401)))) (MS D cI cZ μ (mdS σ sl 0 2401 f) (M 5)) (xA 13 μ)) [.ref (μ 0), .int (nI sl)].toArray s 0 0 (xA 13 μ)) (F0 m 2 ls []) := by
    intro n
    induction n with
    | zero => intro i M1 hi hm1 h5 hm; exact absurd hm (Nat.not_lt_zero _)
    | succ n ih_2 =>
      intro i M1 hi hm1 h5 hm_2 x2 e2 H locs hS hPP ls hl
      subst e2
      obtain ⟨hRel, hPt, hKg, hP⟩ := hPP
      refine lv_iload_n hx hb dX2_keep_2 rfl (lv_at hl 2 rfl) ?_
      refine lv_sipush (v := nI 2401) hx hb dX2_keep_3 (by decide) ?_
      refine nv_icmp_ge (tgt := 33) hx hb dX2_keep_6 (by decide) (by omega) (by omega) (fun c_6 => ?_) (fun c_6 => ?_)
      ·
        refine lv_aload_n hx hb dX2_keep_33 rfl (lv_at hl 0 rfl) ?_
        refine lv_iload_n hx hb dX2_keep_34 rfl (lv_at hl 1 rfl) ?_
        refine rd_V S hl (c_X2_many l D cI cZ μ (mdS σ sl 0 i f) M1 V sl (by omega)) MB.hb gX2_keep_X2_many rfl rfl nf_X2_many rfl rfl dX2_keep_35 (MP.rc0 hMK hP) (MB.at hMK ⟨hRel, hPt, hKg, hP⟩) ?_
        have hi2 : i = 2401 := by omega
        subst hi2
        exact ret_wi hx hb hr hlocks dX2_keep_38 hS (⟨_, _, h5, hRel, hPt, hKg, hP⟩) (by rfl)
      ·
        refine lv_aload_n hx hb dX2_keep_9 rfl (lv_at hl 0 rfl) ?_
        refine va_get (D := D) (ci := 2) (v := .ref (μ 4)) (C := RX2) (T := TX2) (N := 15) hx hb hts (by decide +kernel) hown hK hP 0 rfl rfl 3 (by decide) (hts (.fieldLink RX2 19 "SevenKeysModel" "sets" "[Z") (by decide +kernel)) (fun _ h9 => h9) rfl dX2_keep_10 ?_
        refine lv_sipush (v := nI 2401) hx hb dX2_keep_13 (by decide) ?_
        refine lv_iload_n hx hb dX2_keep_16 rfl (lv_at hl 1 rfl) ?_
        refine lv_imul hx hb dX2_keep_17 ?_
        refine nv_as (nI (2401 * sl)) (pk_mul _ _) ?_
        refine lv_iload_n hx hb dX2_keep_18 rfl (lv_at hl 2 rfl) ?_
        refine lv_iadd hx hb dX2_keep_19 ?_
        refine nv_as (nI (2401 * sl + i)) (nI_add _ _) ?_
        refine lv_aload_n hx hb dX2_keep_20 rfl (lv_at hl 0 rfl) ?_
        refine va_get (D := D) (ci := 2) (v := .ref (μ 7)) (C := RX2) (T := TX2) (N := 15) hx hb hts (by decide +kernel) hown hK hP 0 rfl rfl 6 (by decide) (hts (.fieldLink RX2 29 "SevenKeysModel" "made" "[Z") (by decide +kernel)) (fun _ h9 => h9) rfl dX2_keep_21 ?_
        refine lv_iload_n hx hb dX2_keep_24 rfl (lv_at hl 2 rfl) ?_
        refine nv_zald hx hb hK hP 7 1 rfl rfl (by omega) (by decide) dX2_keep_25 ?_
        refine nv_as (bI (f i)) (by exact hm1 i (by omega)) ?_
        refine nv_zast (x := f i) hx hb hK hP hMK.D hS 4 1 rfl rfl (by omega) (by decide) dX2_keep_26 (fun H locs hP hS => ?_)
        have hP : va_P D vwCl (mW cI cZ μ (va_up M1 4 (upd (M1 4) (2401 * sl + i) (bI (f i)))) V) H := hP
        refine lv_iinc (v := nI (i + 1)) (lv' := [(2, .int (nI (i + 1))), (0, .ref (μ 0)), (1, .int (nI sl))]) hx hb dX2_keep_27 hl (k := 2) rfl (inc_nI _) (by decide) rfl (fun ls hl => ?_)
        refine lv_goto (tgt := 2) hx hb dX2_keep_30 (by decide) ?_
        exact ih_2 (i + 1) (va_up M1 4 (upd (M1 4) (2401 * sl + i) (bI (f i)))) (by omega) (by exact hm1) (by exact h5) (by omega) _ (by first | rfl | exact congrArg nI (by omega)) _ _ hS ⟨(relM_up hRel (by omega) (by omega) (f i)).eq (md_step rfl (by omega)).symm, hPt, hKg, hP⟩ _ (lv_sub hl [1, 2, 0] rfl)
  exact loop_2 (2401 - 0 + 1) 0 M (by omega) (by exact hmd) (by rfl) (Nat.lt_succ_self _) _ rfl _ _ hS ⟨hRel.eq md_0, hPt, hKg, hP⟩ _ (lv_sub hl [1, 2, 0] rfl)
theorem nf_X2_put : nfOk yX2_put 4 := by unfold nfOk; decide +kernel
set_option maxHeartbeats 4000000 in
set_option maxRecDepth 100000 in
theorem c_X2_put (l : Launch) (D : va_G) (cI cZ : ClassId) (μ : Nat → Nat) (σ : Nat → Nat → Bool) (M : Nat → Nat → Int32) (V : Nat → Int32) (a : Int32) (x : Int32) (y : Int32) (z : Int32) : Wr l yX2_put wsX2_put ({ frames := 2, cells := 0, slots := 0, locals := 45 }) [.ref (μ 0), .int a, .int x, .int y, .int z] (MB D cI cZ μ σ M V) (some (.int (putR σ a x y z))) (MS D cI cZ μ (putS σ a x y z) (M 5)) (xA 13 μ) := by
  refine met_in RX2 (by decide) rfl rfl (Nat.le_of_ble_eq_true rfl) ?_
  intro p e s m below meth c ls S hr hlocks hl hB
  have hx := S.1
  have hb := S.2.1
  have hml := S.2.2.1
  have hown := S.2.2.2.1
  have hts := S.2.2.2.2
  have hl : lv_has ls 7 [(0, .ref (μ 0)), (1, .int a), (2, .int x), (3, .int y), (4, .int z)] := hl
  obtain ⟨⟨hRel, hPt, hKg, hP⟩, hMK⟩ := hB
  have hK := hMK.1
  have hS : va_S (xA 13 μ) s.heap s.heap [] := va_S.rf
  refine lv_iload_n hx hb dX2_put_0 rfl (lv_at hl 1 rfl) ?_
  refine rd_S S hl (c_X2_isSlot l a) HB.tt gX2_put_X2_isSlot rfl nf_X2_isSlot rfl rfl dX2_put_1  (fun _ _ _ => trivial) ?_
  refine nv_ifz_ne (tgt := 9) hx hb dX2_put_4 (by decide) (fun c_4 => ?_) (fun c_4 => ?_)
  ·
    obtain ⟨sl, hsl, hxsl⟩ := wI_nat c_4 (by decide)
    subst hxsl
    have hcsl : (nI sl).toNatClampNeg = sl := nI_clamp (by omega)
    refine lv_iload_n hx hb dX2_put_9 rfl (lv_at hl 2 rfl) ?_
    refine rd_S S hl (c_X2_isKey l x) HB.tt gX2_put_X2_isKey rfl nf_X2_isKey rfl rfl dX2_put_10  (fun _ _ _ => trivial) ?_
    refine nv_ifz_eq (tgt := 33) hx hb dX2_put_13 (by decide) (fun c_13 => ?_) (fun c_13 => ?_)
    ·
      refine lv_bipush (v := (-2)) hx hb dX2_put_33 (by decide) ?_
      exact ret_wi hx hb hr hlocks dX2_put_35 hS (⟨_, _, rfl, hRel.eq (by first | (simp [putS, gd, gs, c_4, c_13, c_20, c_30]; done) | (simp [putS, gd, gs, c_4, c_13, c_20]; done) | (simp [putS, gd, gs, c_4, c_13]; done) | (simp [putS, gd, gs, c_4]; done)), hPt, hKg, hP⟩) (by first | (simp [putR, gd, gs, c_4, c_13, c_20, c_30]; done) | (simp [putR, gd, gs, c_4, c_13, c_20]; done) | (simp [putR, gd, gs, c_4, c_13]; done) | (simp [putR, gd, gs, c_4]; done))
    ·
      obtain ⟨k, hk, hxk⟩ := wI_nat c_13 (by decide)
      subst hxk
      have hck : (nI k).toNatClampNeg = k := nI_clamp (by omega)
      refine lv_iload_n hx hb dX2_put_16 rfl (lv_at hl 3 rfl) ?_
      refine rd_S S hl (c_X2_isLevel l y) HB.tt gX2_put_X2_isLevel rfl nf_X2_isLevel rfl rfl dX2_put_17  (fun _ _ _ => trivial) ?_
      refine nv_ifz_eq (tgt := 33) hx hb dX2_put_20 (by decide) (fun c_20 => ?_) (fun c_20 => ?_)
      ·
        refine lv_bipush (v := (-2)) hx hb dX2_put_33 (by decide) ?_
        exact ret_wi hx hb hr hlocks dX2_put_35 hS (⟨_, _, rfl, hRel.eq (by first | (simp [putS, gd, gs, c_4, c_13, c_20, c_30]; done) | (simp [putS, gd, gs, c_4, c_13, c_20]; done) | (simp [putS, gd, gs, c_4, c_13]; done) | (simp [putS, gd, gs, c_4]; done)), hPt, hKg, hP⟩) (by first | (simp [putR, gd, gs, c_4, c_13, c_20, c_30]; done) | (simp [putR, gd, gs, c_4, c_13, c_20]; done) | (simp [putR, gd, gs, c_4, c_13]; done) | (simp [putR, gd, gs, c_4]; done))
      ·
        obtain ⟨L, hL, hxL⟩ := wI_nat c_20 (by decide)
        subst hxL
        have hcL : (nI L).toNatClampNeg = L := nI_clamp (by omega)
        refine lv_iload hx hb dX2_put_23 (lv_at hl 4 rfl) ?_
        refine lv_iconst (v := nI 0) hx hb dX2_put_25 (by decide) ?_
        refine lv_iconst (v := nI 1) hx hb dX2_put_26 (by decide) ?_
        refine rd_S S hl (c_X2_in l z (nI 0) (nI 1)) HB.tt gX2_put_X2_in rfl nf_X2_in rfl rfl dX2_put_27  (fun _ _ _ => trivial) ?_
        refine nv_ifz_ne (tgt := 36) hx hb dX2_put_30 (by decide) (fun c_30 => ?_) (fun c_30 => ?_)
        ·
          obtain ⟨o, ho, hxo⟩ := wI_nat c_30 (by decide)
          subst hxo
          have hco : (nI o).toNatClampNeg = o := nI_clamp (by omega)
          refine lv_iload_n hx hb dX2_put_36 rfl (lv_at hl 2 rfl) ?_
          refine lv_iload_n hx hb dX2_put_37 rfl (lv_at hl 3 rfl) ?_
          refine rd_S S hl (c_X2_patchOf l k L (by omega) (by omega)) HB.tt gX2_put_X2_patchOf rfl nf_X2_patchOf rfl rfl dX2_put_38  (fun _ _ _ => trivial) ?_
          refine lv_istore (lv' := [(5, .int (nI (k / 7 ^ L * 7 ^ L))), (0, .ref (μ 0)), (1, .int (nI sl)), (2, .int (nI k)), (3, .int (nI L)), (4, .int (nI o))]) hx hb dX2_put_41 hl (by decide) rfl (fun ls hl => ?_)
          refine lv_iload hx hb dX2_put_43 (lv_at hl 0 rfl) ?_
          refine lv_istore (lv' := [(6, .int (nI (k / 7 ^ L * 7 ^ L))), (5, .int (nI (k / 7 ^ L * 7 ^ L))), (0, .ref (μ 0)), (1, .int (nI sl)), (2, .int (nI k)), (3, .int (nI L)), (4, .int (nI o))]) hx hb dX2_put_45 hl (by decide) rfl (fun ls hl => ?_)
          have hp := pO_le (k := k) (L := L) (by omega) (by omega)
          have loop_47 : ∀ (n : Nat) (i : Nat) (M1 : Nat → Nat → Int32), (i ≤ k / 7 ^ L * 7 ^ L + 7 ^ L) → (k / 7 ^ L * 7 ^ L ≤ i) → (M1 5 = M 5) → k / 7 ^ L * 7 ^ L + 7 ^ L - i < n → ∀ (x6 : Int32), x6 = nI i → ∀ (H : Heap) (locs : List Loc), va_S (xA 13 μ) s.heap H locs → MP D cI cZ μ (mdS σ sl (k / 7 ^ L * 7 ^ L) i (fun _ => decide (o = 1))) M1 V H → ∀ ls : Array Slot, lv_has ls 7 [(0, .ref (μ 0)), (1, .int (nI sl)), (2, .int (nI k)), (3, .int (nI L)), (4, .int (nI o)), (5, .int (nI (k / 7 ^ L * 7 ^ L))), (6, .int x6)] → W p l e (headSpec wsX2_put ({ frames := 2, cells := 0, slots := 0, locals := 45 })).room s m [.ref (μ 0), .int (nI sl), .int (nI k), .int (nI L), .int (nI o)].toArray below meth c H locs 0 0 (MQ below (qW (some (.int (putR σ (nI sl) (nI k) (nI L) (nI o)))) (MS D cI cZ μ (putS σ (nI sl) (nI k) (nI L) (nI o)) (M 5)) (xA 13 μ)) [.ref (μ 0), .int (nI sl), .int (nI k), .int (nI L), .int (nI o)].toArray s 0 0 (xA 13 μ)) (F0 m 47 ls []) := by
            intro n
            induction n with
            | zero => intro i M1 hi hlo h5 hm; exact absurd hm (Nat.not_lt_zero _)
            | succ n ih_47 =>
              intro i M1 hi hlo h5 hm_47 x6 e6 H locs hS hPP ls hl
              subst e6
              obtain ⟨hRel, hPt, hKg, hP⟩ := hPP
              refine lv_iload hx hb dX2_put_47 (lv_at hl 6 rfl) ?_
              refine lv_iload hx hb dX2_put_49 (lv_at hl 5 rfl) ?_
              refine lv_iload_n hx hb dX2_put_51 rfl (lv_at hl 3 rfl) ?_
              refine rd_S S hl (c_X2_hexes l L (by omega)) HB.tt gX2_put_X2_hexes rfl nf_X2_hexes rfl rfl dX2_put_52  (fun _ _ _ => trivial) ?_
              refine lv_iadd hx hb dX2_put_55 ?_
              refine nv_as (nI (k / 7 ^ L * 7 ^ L + (7 ^ L))) (nI_add _ _) ?_
              refine nv_icmp_ge (tgt := 89) hx hb dX2_put_56 (by decide) (by omega) (by omega) (fun c_56 => ?_) (fun c_56 => ?_)
              ·
                refine lv_aload_n hx hb dX2_put_89 rfl (lv_at hl 0 rfl) ?_
                refine lv_iload_n hx hb dX2_put_90 rfl (lv_at hl 1 rfl) ?_
                refine rd_V S hl (c_X2_many l D cI cZ μ (mdS σ sl (k / 7 ^ L * 7 ^ L) i (fun _ => decide (o = 1))) M1 V sl (by omega)) MB.hb gX2_put_X2_many rfl rfl nf_X2_many rfl rfl dX2_put_91 (MP.rc0 hMK hP) (MB.at hMK ⟨hRel, hPt, hKg, hP⟩) ?_
                have hi2 : i = k / 7 ^ L * 7 ^ L + 7 ^ L := by omega
                have e : putS σ (nI sl) (nI k) (nI L) (nI o) = mdS σ sl (k / 7 ^ L * 7 ^ L) i (fun _ => decide (o = 1)) := by rw [hi2]; simp [putS, pO, c_4, c_13, c_20, c_30, hcsl, hck, hcL, hco]
                exact ret_wi hx hb hr hlocks dX2_put_94 hS (⟨_, _, h5, hRel.eq e, hPt, hKg, hP⟩) (by unfold putR; rw [e]; simp [gs, c_4, c_13, c_20, c_30, hcsl])
              ·
                refine lv_aload_n hx hb dX2_put_59 rfl (lv_at hl 0 rfl) ?_
                refine va_get (D := D) (ci := 2) (v := .ref (μ 4)) (C := RX2) (T := TX2) (N := 15) hx hb hts (by decide +kernel) hown hK hP 0 rfl rfl 3 (by decide) (hts (.fieldLink RX2 19 "SevenKeysModel" "sets" "[Z") (by decide +kernel)) (fun _ h9 => h9) rfl dX2_put_60 ?_
                refine lv_sipush (v := nI 2401) hx hb dX2_put_63 (by decide) ?_
                refine lv_iload_n hx hb dX2_put_66 rfl (lv_at hl 1 rfl) ?_
                refine lv_imul hx hb dX2_put_67 ?_
                refine nv_as (nI (2401 * sl)) (pk_mul _ _) ?_
                refine lv_iload hx hb dX2_put_68 (lv_at hl 6 rfl) ?_
                refine lv_iadd hx hb dX2_put_70 ?_
                refine nv_as (nI (2401 * sl + i)) (nI_add _ _) ?_
                refine lv_iload hx hb dX2_put_71 (lv_at hl 4 rfl) ?_
                refine lv_iconst (v := nI 1) hx hb dX2_put_73 (by decide) ?_
                refine nv_icmp_ne (tgt := 81) hx hb dX2_put_74 (by decide) (by omega) (by omega) (fun c_74 => ?_) (fun c_74 => ?_)
                ·
                  refine lv_iconst (v := nI 0) hx hb dX2_put_81 (by decide) ?_
                  refine nv_zast (x := false) hx hb hK hP hMK.D hS 4 1 rfl rfl (by omega) (by decide) dX2_put_82 (fun H locs hP hS => ?_)
                  have hP : va_P D vwCl (mW cI cZ μ (va_up M1 4 (upd (M1 4) (2401 * sl + i) (bI false))) V) H := hP
                  refine lv_iinc (v := nI (i + 1)) (lv' := [(6, .int (nI (i + 1))), (0, .ref (μ 0)), (1, .int (nI sl)), (2, .int (nI k)), (3, .int (nI L)), (4, .int (nI o)), (5, .int (nI (k / 7 ^ L * 7 ^ L)))]) hx hb dX2_put_83 hl (k := 6) rfl (inc_nI _) (by decide) rfl (fun ls hl => ?_)
                  refine lv_goto (tgt := 47) hx hb dX2_put_86 (by decide) ?_
                  exact ih_47 (i + 1) (va_up M1 4 (upd (M1 4) (2401 * sl + i) (bI false))) (by omega) (by omega) (by exact h5) (by omega) _ (by first | rfl | exact congrArg nI (by omega)) _ _ hS ⟨(relM_up hRel (by omega) (by omega) _).eq (md_step (by simp [c_74]) (by omega)).symm, hPt, hKg, hP⟩ _ (lv_sub hl [1, 2, 3, 4, 5, 6, 0] rfl)
                ·
                  refine lv_iconst (v := nI 1) hx hb dX2_put_77 (by decide) ?_
                  refine lv_goto (tgt := 82) hx hb dX2_put_78 (by decide) ?_
                  refine nv_zast (x := true) hx hb hK hP hMK.D hS 4 1 rfl rfl (by omega) (by decide) dX2_put_82 (fun H locs hP hS => ?_)
                  have hP : va_P D vwCl (mW cI cZ μ (va_up M1 4 (upd (M1 4) (2401 * sl + i) (bI true))) V) H := hP
                  refine lv_iinc (v := nI (i + 1)) (lv' := [(6, .int (nI (i + 1))), (0, .ref (μ 0)), (1, .int (nI sl)), (2, .int (nI k)), (3, .int (nI L)), (4, .int (nI o)), (5, .int (nI (k / 7 ^ L * 7 ^ L)))]) hx hb dX2_put_83 hl (k := 6) rfl (inc_nI _) (by decide) rfl (fun ls hl => ?_)
                  refine lv_goto (tgt := 47) hx hb dX2_put_86 (by decide) ?_
                  exact ih_47 (i + 1) (va_up M1 4 (upd (M1 4) (2401 * sl + i) (bI true))) (by omega) (by omega) (by exact h5) (by omega) _ (by first | rfl | exact congrArg nI (by omega)) _ _ hS ⟨(relM_up hRel (by omega) (by omega) _).eq (md_step (by simp [c_74]) (by omega)).symm, hPt, hKg, hP⟩ _ (lv_sub hl [1, 2, 3, 4, 5, 6, 0] rfl)
          exact loop_47 (k / 7 ^ L * 7 ^ L + 7 ^ L - (k / 7 ^ L * 7 ^ L) + 1) (k / 7 ^ L * 7 ^ L) M (by exact Nat.le_add_right _ _) (by exact Nat.le_refl _) (by rfl) (Nat.lt_succ_self _) _ (by first | rfl | exact congrArg nI (by omega)) _ _ hS ⟨hRel.eq md_0, hPt, hKg, hP⟩ _ (lv_sub hl [2, 3, 4, 5, 6, 1, 0] rfl)
        ·
          refine lv_bipush (v := (-2)) hx hb dX2_put_33 (by decide) ?_
          exact ret_wi hx hb hr hlocks dX2_put_35 hS (⟨_, _, rfl, hRel.eq (by first | (simp [putS, gd, gs, c_4, c_13, c_20, c_30]; done) | (simp [putS, gd, gs, c_4, c_13, c_20]; done) | (simp [putS, gd, gs, c_4, c_13]; done) | (simp [putS, gd, gs, c_4]; done)), hPt, hKg, hP⟩) (by first | (simp [putR, gd, gs, c_4, c_13, c_20, c_30]; done) | (simp [putR, gd, gs, c_4, c_13, c_20]; done) | (simp [putR, gd, gs, c_4, c_13]; done) | (simp [putR, gd, gs, c_4]; done))
  ·
    refine lv_iconst (v := (-1)) hx hb dX2_put_7 (by decide) ?_
    exact ret_wi hx hb hr hlocks dX2_put_8 hS (⟨_, _, rfl, hRel.eq (by first | (simp [putS, gd, gs, c_4, c_13, c_20, c_30]; done) | (simp [putS, gd, gs, c_4, c_13, c_20]; done) | (simp [putS, gd, gs, c_4, c_13]; done) | (simp [putS, gd, gs, c_4]; done)), hPt, hKg, hP⟩) (by first | (simp [putR, gd, gs, c_4, c_13, c_20, c_30]; done) | (simp [putR, gd, gs, c_4, c_13, c_20]; done) | (simp [putR, gd, gs, c_4, c_13]; done) | (simp [putR, gd, gs, c_4]; done))
theorem nf_X2_disk : nfOk yX2_disk 3 := by unfold nfOk; decide +kernel
set_option maxHeartbeats 4000000 in
set_option maxRecDepth 100000 in
theorem c_X2_disk (l : Launch) (D : va_G) (cI cZ : ClassId) (μ : Nat → Nat) (σ : Nat → Nat → Bool) (M : Nat → Nat → Int32) (V : Nat → Int32) (a : Int32) (x : Int32) (y : Int32) : Wr l yX2_disk wsX2_disk ({ frames := 3, cells := 0, slots := 0, locals := 67 }) [.ref (μ 0), .int a, .int x, .int y] (MB D cI cZ μ σ M V) (some (.int (diskR σ a x y))) (MS D cI cZ μ (diskS σ a x y) (M 5)) (xA 13 μ) := by
  refine met_in RX2 (by decide) rfl rfl (Nat.le_of_ble_eq_true rfl) ?_
  intro p e s m below meth c ls S hr hlocks hl hB
  have hx := S.1
  have hb := S.2.1
  have hml := S.2.2.1
  have hown := S.2.2.2.1
  have hts := S.2.2.2.2
  have hl : lv_has ls 5 [(0, .ref (μ 0)), (1, .int a), (2, .int x), (3, .int y)] := hl
  obtain ⟨⟨hRel, hPt, hKg, hP⟩, hMK⟩ := hB
  have hK := hMK.1
  have hS : va_S (xA 13 μ) s.heap s.heap [] := va_S.rf
  refine lv_iload_n hx hb dX2_disk_0 rfl (lv_at hl 1 rfl) ?_
  refine rd_S S hl (c_X2_isSlot l a) HB.tt gX2_disk_X2_isSlot rfl nf_X2_isSlot rfl rfl dX2_disk_1  (fun _ _ _ => trivial) ?_
  refine nv_ifz_ne (tgt := 9) hx hb dX2_disk_4 (by decide) (fun c_4 => ?_) (fun c_4 => ?_)
  ·
    obtain ⟨sl, hsl, hxsl⟩ := wI_nat c_4 (by decide)
    subst hxsl
    have hcsl : (nI sl).toNatClampNeg = sl := nI_clamp (by omega)
    refine lv_iload_n hx hb dX2_disk_9 rfl (lv_at hl 2 rfl) ?_
    refine rd_S S hl (c_X2_isKey l x) HB.tt gX2_disk_X2_isKey rfl nf_X2_isKey rfl rfl dX2_disk_10  (fun _ _ _ => trivial) ?_
    refine nv_ifz_eq (tgt := 26) hx hb dX2_disk_13 (by decide) (fun c_13 => ?_) (fun c_13 => ?_)
    ·
      refine lv_bipush (v := (-2)) hx hb dX2_disk_26 (by decide) ?_
      exact ret_wi hx hb hr hlocks dX2_disk_28 hS (⟨_, _, rfl, hRel.eq (by first | (simp [diskS, gd, gs, c_4, c_13, c_23]; done) | (simp [diskS, gd, gs, c_4, c_13]; done) | (simp [diskS, gd, gs, c_4]; done)), hPt, hKg, hP⟩) (by first | (simp [diskR, gd, gs, c_4, c_13, c_23]; done) | (simp [diskR, gd, gs, c_4, c_13]; done) | (simp [diskR, gd, gs, c_4]; done))
    ·
      obtain ⟨k, hk, hxk⟩ := wI_nat c_13 (by decide)
      subst hxk
      have hck : (nI k).toNatClampNeg = k := nI_clamp (by omega)
      refine lv_iload_n hx hb dX2_disk_16 rfl (lv_at hl 3 rfl) ?_
      refine lv_iconst (v := nI 0) hx hb dX2_disk_17 (by decide) ?_
      refine lv_bipush (v := nI 70) hx hb dX2_disk_18 (by decide) ?_
      refine rd_S S hl (c_X2_in l y (nI 0) (nI 70)) HB.tt gX2_disk_X2_in rfl nf_X2_in rfl rfl dX2_disk_20  (fun _ _ _ => trivial) ?_
      refine nv_ifz_ne (tgt := 29) hx hb dX2_disk_23 (by decide) (fun c_23 => ?_) (fun c_23 => ?_)
      ·
        refine lv_iconst (v := nI 0) hx hb dX2_disk_29 (by decide) ?_
        refine lv_istore (lv' := [(4, .int (nI 0)), (0, .ref (μ 0)), (1, .int (nI sl)), (2, .int (nI k)), (3, .int y)]) hx hb dX2_disk_30 hl (by decide) rfl (fun ls hl => ?_)
        have loop_32 : ∀ (n : Nat) (i : Nat) (M1 : Nat → Nat → Int32), (i ≤ 2401) → (∀ j, j < i → M1 7 j = bI ((fun j => decide (farI k j ≤ y)) j)) → (M1 5 = M 5) → 2401 - i < n → ∀ (x4 : Int32), x4 = nI i → ∀ (H : Heap) (locs : List Loc), va_S (xA 13 μ) s.heap H locs → MP D cI cZ μ σ M1 V H → ∀ ls : Array Slot, lv_has ls 5 [(0, .ref (μ 0)), (1, .int (nI sl)), (2, .int (nI k)), (3, .int y), (4, .int x4)] → W p l e (headSpec wsX2_disk ({ frames := 3, cells := 0, slots := 0, locals := 67 })).room s m [.ref (μ 0), .int (nI sl), .int (nI k), .int y].toArray below meth c H locs 0 0 (MQ below (qW (some (.int (diskR σ (nI sl) (nI k) y))) (MS D cI cZ μ (diskS σ (nI sl) (nI k) y) (M 5)) (xA 13 μ)) [.ref (μ 0), .int (nI sl), .int (nI k), .int y].toArray s 0 0 (xA 13 μ)) (F0 m 32 ls []) := by
          intro n
          induction n with
          | zero => intro i M1 hi hm1 h5 hm; exact absurd hm (Nat.not_lt_zero _)
          | succ n ih_32 =>
            intro i M1 hi hm1 h5 hm_32 x4 e4 H locs hS hPP ls hl
            subst e4
            obtain ⟨hRel, hPt, hKg, hP⟩ := hPP
            refine lv_iload hx hb dX2_disk_32 (lv_at hl 4 rfl) ?_
            refine lv_sipush (v := nI 2401) hx hb dX2_disk_34 (by decide) ?_
            refine nv_icmp_ge (tgt := 69) hx hb dX2_disk_37 (by decide) (by omega) (by omega) (fun c_37 => ?_) (fun c_37 => ?_)
            ·
              refine lv_aload_n hx hb dX2_disk_69 rfl (lv_at hl 0 rfl) ?_
              refine lv_iload_n hx hb dX2_disk_70 rfl (lv_at hl 1 rfl) ?_
              refine wr_V S hl (c_X2_keep l D cI cZ μ σ M1 V sl (fun j => decide (farI k j ≤ y)) (by omega) (by exact fun j hj => hm1 j (by omega))) MB.hb gX2_disk_X2_keep rfl rfl nf_X2_keep rfl rfl dX2_disk_71 (MP.rc0 hMK hP) (MB.at hMK ⟨hRel, hPt, hKg, hP⟩) hS (fun _ h => h) (fun H locs hPP hS _ hkp => ?_)
              obtain ⟨M_71, V_71, h5_71, hRel, hPt, hKg, hP⟩ := hPP
              refine W.eq (g2 := F0 m 74 ls [.int (nI (fb_ct (mdS σ sl 0 2401 (fun j => decide (farI k j ≤ y)) sl) 2401))]) rfl ?_
              have e : diskS σ (nI sl) (nI k) y = mdS σ sl 0 2401 (fun j => decide (farI k j ≤ y)) := by simp [diskS, c_4, c_13, c_23, hcsl, hck]
              exact ret_wi hx hb hr hlocks dX2_disk_74 hS (⟨_, _, h5_71.trans h5, hRel.eq e, hPt, hKg, hP⟩) (by unfold diskR; rw [e]; simp [gs, c_4, c_13, c_23, hcsl])
            ·
              refine lv_aload_n hx hb dX2_disk_40 rfl (lv_at hl 0 rfl) ?_
              refine va_get (D := D) (ci := 2) (v := .ref (μ 7)) (C := RX2) (T := TX2) (N := 15) hx hb hts (by decide +kernel) hown hK hP 0 rfl rfl 6 (by decide) (hts (.fieldLink RX2 29 "SevenKeysModel" "made" "[Z") (by decide +kernel)) (fun _ h9 => h9) rfl dX2_disk_41 ?_
              refine lv_iload hx hb dX2_disk_44 (lv_at hl 4 rfl) ?_
              refine lv_aload_n hx hb dX2_disk_46 rfl (lv_at hl 0 rfl) ?_
              refine lv_iload_n hx hb dX2_disk_47 rfl (lv_at hl 2 rfl) ?_
              refine lv_iload hx hb dX2_disk_48 (lv_at hl 4 rfl) ?_
              refine rd_V S hl (c_X2_farOf l D cI cZ μ σ M1 V k i (by omega) (by omega)) MB.hb gX2_disk_X2_farOf rfl rfl nf_X2_farOf rfl rfl dX2_disk_50 (MP.rc0 hMK hP) (MB.at hMK ⟨hRel, hPt, hKg, hP⟩) ?_
              refine lv_iload_n hx hb dX2_disk_53 rfl (lv_at hl 3 rfl) ?_
              refine lv_icmp_gt (tgt := 61) hx hb dX2_disk_54 (by decide) (fun c_54 => ?_) (fun c_54 => ?_)
              ·
                have cc : false = decide (farI k i ≤ y) := (decide_eq_false (Int32.not_le.mpr c_54)).symm
                refine lv_iconst (v := nI 0) hx hb dX2_disk_61 (by decide) ?_
                refine nv_zast (x := false) hx hb hK hP hMK.D hS 7 1 rfl rfl (by omega) (by decide) dX2_disk_62 (fun H locs hP hS => ?_)
                have hP : va_P D vwCl (mW cI cZ μ (va_up M1 7 (upd (M1 7) i (bI false))) V) H := hP
                refine lv_iinc (v := nI (i + 1)) (lv' := [(4, .int (nI (i + 1))), (0, .ref (μ 0)), (1, .int (nI sl)), (2, .int (nI k)), (3, .int y)]) hx hb dX2_disk_63 hl (k := 4) rfl (inc_nI _) (by decide) rfl (fun ls hl => ?_)
                refine lv_goto (tgt := 32) hx hb dX2_disk_66 (by decide) ?_
                exact ih_32 (i + 1) (va_up M1 7 (upd (M1 7) i (bI false))) (by omega) (by exact mk_step hm1 (congrArg bI cc)) (by exact h5) (by omega) _ (by first | rfl | exact congrArg nI (by omega)) _ _ hS ⟨hRel, hPt, hKg, hP⟩ _ (lv_sub hl [1, 2, 3, 4, 0] rfl)
              ·
                have cc : true = decide (farI k i ≤ y) := (decide_eq_true (Int32.not_lt.mp c_54)).symm
                refine lv_iconst (v := nI 1) hx hb dX2_disk_57 (by decide) ?_
                refine lv_goto (tgt := 62) hx hb dX2_disk_58 (by decide) ?_
                refine nv_zast (x := true) hx hb hK hP hMK.D hS 7 1 rfl rfl (by omega) (by decide) dX2_disk_62 (fun H locs hP hS => ?_)
                have hP : va_P D vwCl (mW cI cZ μ (va_up M1 7 (upd (M1 7) i (bI true))) V) H := hP
                refine lv_iinc (v := nI (i + 1)) (lv' := [(4, .int (nI (i + 1))), (0, .ref (μ 0)), (1, .int (nI sl)), (2, .int (nI k)), (3, .int y)]) hx hb dX2_disk_63 hl (k := 4) rfl (inc_nI _) (by decide) rfl (fun ls hl => ?_)
                refine lv_goto (tgt := 32) hx hb dX2_disk_66 (by decide) ?_
                exact ih_32 (i + 1) (va_up M1 7 (upd (M1 7) i (bI true))) (by omega) (by exact mk_step hm1 (congrArg bI cc)) (by exact h5) (by omega) _ (by first | rfl | exact congrArg nI (by omega)) _ _ hS ⟨hRel, hPt, hKg, hP⟩ _ (lv_sub hl [1, 2, 3, 4, 0] rfl)
        exact loop_32 (2401 - 0 + 1) 0 M (by omega) (by exact lt_0) (by rfl) (Nat.lt_succ_self _) _ rfl _ _ hS ⟨hRel, hPt, hKg, hP⟩ _ (lv_sub hl [1, 2, 3, 4, 0] rfl)
      ·
        refine lv_bipush (v := (-2)) hx hb dX2_disk_26 (by decide) ?_
        exact ret_wi hx hb hr hlocks dX2_disk_28 hS (⟨_, _, rfl, hRel.eq (by first | (simp [diskS, gd, gs, c_4, c_13, c_23]; done) | (simp [diskS, gd, gs, c_4, c_13]; done) | (simp [diskS, gd, gs, c_4]; done)), hPt, hKg, hP⟩) (by first | (simp [diskR, gd, gs, c_4, c_13, c_23]; done) | (simp [diskR, gd, gs, c_4, c_13]; done) | (simp [diskR, gd, gs, c_4]; done))
  ·
    refine lv_iconst (v := (-1)) hx hb dX2_disk_7 (by decide) ?_
    exact ret_wi hx hb hr hlocks dX2_disk_8 hS (⟨_, _, rfl, hRel.eq (by first | (simp [diskS, gd, gs, c_4, c_13, c_23]; done) | (simp [diskS, gd, gs, c_4, c_13]; done) | (simp [diskS, gd, gs, c_4]; done)), hPt, hKg, hP⟩) (by first | (simp [diskR, gd, gs, c_4, c_13, c_23]; done) | (simp [diskR, gd, gs, c_4, c_13]; done) | (simp [diskR, gd, gs, c_4]; done))
theorem nf_X2_join : nfOk yX2_join 4 := by unfold nfOk; decide +kernel
set_option maxHeartbeats 4000000 in
set_option maxRecDepth 100000 in
theorem c_X2_join (l : Launch) (D : va_G) (cI cZ : ClassId) (μ : Nat → Nat) (σ : Nat → Nat → Bool) (M : Nat → Nat → Int32) (V : Nat → Int32) (a : Int32) (b : Int32) (d : Int32) (y : Int32) : Wr l yX2_join wsX2_join ({ frames := 3, cells := 0, slots := 0, locals := 67 }) [.ref (μ 0), .int a, .int b, .int d, .int y] (MB D cI cZ μ σ M V) (some (.int (joinR σ a b d y))) (MS D cI cZ μ (joinS σ a b d y) (M 5)) (xA 13 μ) := by
  refine met_in RX2 (by decide) rfl rfl (Nat.le_of_ble_eq_true rfl) ?_
  intro p e s m below meth c ls S hr hlocks hl hB
  have hx := S.1
  have hb := S.2.1
  have hml := S.2.2.1
  have hown := S.2.2.2.1
  have hts := S.2.2.2.2
  have hl : lv_has ls 8 [(0, .ref (μ 0)), (1, .int a), (2, .int b), (3, .int d), (4, .int y)] := hl
  obtain ⟨⟨hRel, hPt, hKg, hP⟩, hMK⟩ := hB
  have hK := hMK.1
  have hS : va_S (xA 13 μ) s.heap s.heap [] := va_S.rf
  refine lv_iload_n hx hb dX2_join_0 rfl (lv_at hl 1 rfl) ?_
  refine rd_S S hl (c_X2_isSlot l a) HB.tt gX2_join_X2_isSlot rfl nf_X2_isSlot rfl rfl dX2_join_1  (fun _ _ _ => trivial) ?_
  refine nv_ifz_eq (tgt := 21) hx hb dX2_join_4 (by decide) (fun c_4 => ?_) (fun c_4 => ?_)
  ·
    refine lv_iconst (v := (-1)) hx hb dX2_join_21 (by decide) ?_
    exact ret_wi hx hb hr hlocks dX2_join_22 hS (⟨_, _, rfl, hRel.eq (by first | (simp [joinS, gd, gs, c_4, c_11, c_18, c_30]; done) | (simp [joinS, gd, gs, c_4, c_11, c_18]; done) | (simp [joinS, gd, gs, c_4, c_11]; done) | (simp [joinS, gd, gs, c_4]; done)), hPt, hKg, hP⟩) (by first | (simp [joinR, gd, gs, c_4, c_11, c_18, c_30]; done) | (simp [joinR, gd, gs, c_4, c_11, c_18]; done) | (simp [joinR, gd, gs, c_4, c_11]; done) | (simp [joinR, gd, gs, c_4]; done))
  ·
    obtain ⟨sl, hsl, hxsl⟩ := wI_nat c_4 (by decide)
    subst hxsl
    have hcsl : (nI sl).toNatClampNeg = sl := nI_clamp (by omega)
    refine lv_iload_n hx hb dX2_join_7 rfl (lv_at hl 2 rfl) ?_
    refine rd_S S hl (c_X2_isSlot l b) HB.tt gX2_join_X2_isSlot rfl nf_X2_isSlot rfl rfl dX2_join_8  (fun _ _ _ => trivial) ?_
    refine nv_ifz_eq (tgt := 21) hx hb dX2_join_11 (by decide) (fun c_11 => ?_) (fun c_11 => ?_)
    ·
      refine lv_iconst (v := (-1)) hx hb dX2_join_21 (by decide) ?_
      exact ret_wi hx hb hr hlocks dX2_join_22 hS (⟨_, _, rfl, hRel.eq (by first | (simp [joinS, gd, gs, c_4, c_11, c_18, c_30]; done) | (simp [joinS, gd, gs, c_4, c_11, c_18]; done) | (simp [joinS, gd, gs, c_4, c_11]; done) | (simp [joinS, gd, gs, c_4]; done)), hPt, hKg, hP⟩) (by first | (simp [joinR, gd, gs, c_4, c_11, c_18, c_30]; done) | (simp [joinR, gd, gs, c_4, c_11, c_18]; done) | (simp [joinR, gd, gs, c_4, c_11]; done) | (simp [joinR, gd, gs, c_4]; done))
    ·
      obtain ⟨s1, hs1, hxs1⟩ := wI_nat c_11 (by decide)
      subst hxs1
      have hcs1 : (nI s1).toNatClampNeg = s1 := nI_clamp (by omega)
      refine lv_iload_n hx hb dX2_join_14 rfl (lv_at hl 3 rfl) ?_
      refine rd_S S hl (c_X2_isSlot l d) HB.tt gX2_join_X2_isSlot rfl nf_X2_isSlot rfl rfl dX2_join_15  (fun _ _ _ => trivial) ?_
      refine nv_ifz_ne (tgt := 23) hx hb dX2_join_18 (by decide) (fun c_18 => ?_) (fun c_18 => ?_)
      ·
        obtain ⟨s2, hs2, hxs2⟩ := wI_nat c_18 (by decide)
        subst hxs2
        have hcs2 : (nI s2).toNatClampNeg = s2 := nI_clamp (by omega)
        refine lv_iload hx hb dX2_join_23 (lv_at hl 4 rfl) ?_
        refine lv_iconst (v := nI 0) hx hb dX2_join_25 (by decide) ?_
        refine lv_iconst (v := nI 3) hx hb dX2_join_26 (by decide) ?_
        refine rd_S S hl (c_X2_in l y (nI 0) (nI 3)) HB.tt gX2_join_X2_in rfl nf_X2_in rfl rfl dX2_join_27  (fun _ _ _ => trivial) ?_
        refine nv_ifz_ne (tgt := 36) hx hb dX2_join_30 (by decide) (fun c_30 => ?_) (fun c_30 => ?_)
        ·
          obtain ⟨w, hw, hxw⟩ := wI_nat c_30 (by decide)
          subst hxw
          have hcw : (nI w).toNatClampNeg = w := nI_clamp (by omega)
          refine lv_iconst (v := nI 0) hx hb dX2_join_36 (by decide) ?_
          refine lv_istore (lv' := [(5, .int (nI 0)), (0, .ref (μ 0)), (1, .int (nI sl)), (2, .int (nI s1)), (3, .int (nI s2)), (4, .int (nI w))]) hx hb dX2_join_37 hl (by decide) rfl (fun ls hl => ?_)
          have loop_39 : ∀ (n : Nat) (i : Nat) (M1 : Nat → Nat → Int32), (i ≤ 2401) → (∀ j, j < i → M1 7 j = bI ((fun j => jn (σ s1 j) (σ s2 j) w) j)) → (M1 5 = M 5) → 2401 - i < n → ∀ (x5 : Int32), x5 = nI i → ∀ (H : Heap) (locs : List Loc), va_S (xA 13 μ) s.heap H locs → MP D cI cZ μ σ M1 V H → ∀ ls : Array Slot, lv_has ls 8 [(0, .ref (μ 0)), (1, .int (nI sl)), (2, .int (nI s1)), (3, .int (nI s2)), (4, .int (nI w)), (5, .int x5)] → W p l e (headSpec wsX2_join ({ frames := 3, cells := 0, slots := 0, locals := 67 })).room s m [.ref (μ 0), .int (nI sl), .int (nI s1), .int (nI s2), .int (nI w)].toArray below meth c H locs 0 0 (MQ below (qW (some (.int (joinR σ (nI sl) (nI s1) (nI s2) (nI w)))) (MS D cI cZ μ (joinS σ (nI sl) (nI s1) (nI s2) (nI w)) (M 5)) (xA 13 μ)) [.ref (μ 0), .int (nI sl), .int (nI s1), .int (nI s2), .int (nI w)].toArray s 0 0 (xA 13 μ)) (F0 m 39 ls []) := by
            intro n
            induction n with
            | zero => intro i M1 hi hm1 h5 hm; exact absurd hm (Nat.not_lt_zero _)
            | succ n ih_39 =>
              intro i M1 hi hm1 h5 hm_39 x5 e5 H locs hS hPP ls hl
              subst e5
              obtain ⟨hRel, hPt, hKg, hP⟩ := hPP
              refine lv_iload hx hb dX2_join_39 (lv_at hl 5 rfl) ?_
              refine lv_sipush (v := nI 2401) hx hb dX2_join_41 (by decide) ?_
              refine nv_icmp_ge (tgt := 161) hx hb dX2_join_44 (by decide) (by omega) (by omega) (fun c_44 => ?_) (fun c_44 => ?_)
              ·
                refine lv_aload_n hx hb dX2_join_161 rfl (lv_at hl 0 rfl) ?_
                refine lv_iload_n hx hb dX2_join_162 rfl (lv_at hl 1 rfl) ?_
                refine wr_V S hl (c_X2_keep l D cI cZ μ σ M1 V sl (fun j => jn (σ s1 j) (σ s2 j) w) (by omega) (by exact fun j hj => hm1 j (by omega))) MB.hb gX2_join_X2_keep rfl rfl nf_X2_keep rfl rfl dX2_join_163 (MP.rc0 hMK hP) (MB.at hMK ⟨hRel, hPt, hKg, hP⟩) hS (fun _ h => h) (fun H locs hPP hS _ hkp => ?_)
                obtain ⟨M_163, V_163, h5_163, hRel, hPt, hKg, hP⟩ := hPP
                refine W.eq (g2 := F0 m 166 ls [.int (nI (fb_ct (mdS σ sl 0 2401 (fun j => jn (σ s1 j) (σ s2 j) w) sl) 2401))]) rfl ?_
                have e : joinS σ (nI sl) (nI s1) (nI s2) (nI w) = mdS σ sl 0 2401 (fun j => jn (σ s1 j) (σ s2 j) w) := by simp [joinS, c_4, c_11, c_18, c_30, hcsl, hcs1, hcs2, hcw]
                exact ret_wi hx hb hr hlocks dX2_join_166 hS (⟨_, _, h5_163.trans h5, hRel.eq e, hPt, hKg, hP⟩) (by unfold joinR; rw [e]; simp [gs, c_4, c_11, c_18, c_30, hcsl])
              ·
                refine lv_aload_n hx hb dX2_join_47 rfl (lv_at hl 0 rfl) ?_
                refine lv_iload_n hx hb dX2_join_48 rfl (lv_at hl 2 rfl) ?_
                refine lv_iload hx hb dX2_join_49 (lv_at hl 5 rfl) ?_
                refine rd_V S hl (c_X2_isIn l D cI cZ μ σ M1 V s1 i (by omega) (by omega)) MB.hb gX2_join_X2_isIn rfl rfl nf_X2_isIn rfl rfl dX2_join_51 (MP.rc0 hMK hP) (MB.at hMK ⟨hRel, hPt, hKg, hP⟩) ?_
                refine lv_istore (lv' := [(6, .int (bI (σ s1 i))), (0, .ref (μ 0)), (1, .int (nI sl)), (2, .int (nI s1)), (3, .int (nI s2)), (4, .int (nI w)), (5, .int (nI i))]) hx hb dX2_join_54 hl (by decide) rfl (fun ls hl => ?_)
                refine lv_aload_n hx hb dX2_join_56 rfl (lv_at hl 1 rfl) ?_
                refine lv_iload_n hx hb dX2_join_57 rfl (lv_at hl 4 rfl) ?_
                refine lv_iload hx hb dX2_join_58 (lv_at hl 6 rfl) ?_
                refine rd_V S hl (c_X2_isIn l D cI cZ μ σ M1 V s2 i (by omega) (by omega)) MB.hb gX2_join_X2_isIn rfl rfl nf_X2_isIn rfl rfl dX2_join_60 (MP.rc0 hMK hP) (MB.at hMK ⟨hRel, hPt, hKg, hP⟩) ?_
                refine lv_istore (lv' := [(7, .int (bI (σ s2 i))), (6, .int (bI (σ s1 i))), (0, .ref (μ 0)), (1, .int (nI sl)), (2, .int (nI s1)), (3, .int (nI s2)), (4, .int (nI w)), (5, .int (nI i))]) hx hb dX2_join_63 hl (by decide) rfl (fun ls hl => ?_)
                rcases (show w = 0 ∨ w = 1 ∨ w = 2 ∨ w = 3 by omega) with rfl | rfl | rfl | rfl
                ·
                  refine lv_aload_n hx hb dX2_join_65 rfl (lv_at hl 2 rfl) ?_
                  refine va_get (D := D) (ci := 2) (v := .ref (μ 7)) (C := RX2) (T := TX2) (N := 15) hx hb hts (by decide +kernel) hown hK hP 0 rfl rfl 6 (by decide) (hts (.fieldLink RX2 29 "SevenKeysModel" "made" "[Z") (by decide +kernel)) (fun _ h9 => h9) rfl dX2_join_66 ?_
                  refine lv_iload hx hb dX2_join_69 (lv_at hl 7 rfl) ?_
                  refine lv_iload hx hb dX2_join_71 (lv_at hl 6 rfl) ?_
                  refine lv_if_ne (tgt := 94) hx hb dX2_join_73 (by decide) (fun c_73 => ?_) (fun c_73 => ?_)
                  ·
                    exact absurd c_73 (by decide)
                  ·
                    refine lv_iload hx hb dX2_join_76 (lv_at hl 1 rfl) ?_
                    refine nv_ifz_ne (tgt := 86) hx hb dX2_join_78 (by decide) (fun c_78 => ?_) (fun c_78 => ?_)
                    ·
                      refine lv_iconst (v := nI 1) hx hb dX2_join_86 (by decide) ?_
                      refine lv_goto (tgt := 154) hx hb dX2_join_87 (by decide) ?_
                      refine nv_zast (x := true) hx hb hK hP hMK.D hS 7 1 rfl rfl (by omega) (by decide) dX2_join_154 (fun H locs hP hS => ?_)
                      have hP : va_P D vwCl (mW cI cZ μ (va_up M1 7 (upd (M1 7) i (bI true))) V) H := hP
                      refine lv_iinc (v := nI (i + 1)) (lv' := [(5, .int (nI (i + 1))), (7, .int (bI (σ s2 i))), (6, .int (bI (σ s1 i))), (0, .ref (μ 0)), (1, .int (nI sl)), (2, .int (nI s1)), (3, .int (nI s2)), (4, .int (nI 0))]) hx hb dX2_join_155 hl (k := 7) rfl (inc_nI _) (by decide) rfl (fun ls hl => ?_)
                      refine lv_goto (tgt := 39) hx hb dX2_join_158 (by decide) ?_
                      exact ih_39 (i + 1) (va_up M1 7 (upd (M1 7) i (bI true))) (by omega) (by exact mk_step hm1 (congrArg bI (by first | (simp [jn, cc]; done) | (simp [jn, c_4, c_11, c_18, c_30, c_78]; done)))) (by exact h5) (by omega) _ (by first | rfl | exact congrArg nI (by omega)) _ _ hS ⟨hRel, hPt, hKg, hP⟩ _ (lv_sub hl [3, 4, 5, 6, 7, 0] rfl)
                    ·
                      refine lv_iload hx hb dX2_join_81 (lv_at hl 0 rfl) ?_
                      refine nv_ifz_eq (tgt := 90) hx hb dX2_join_83 (by decide) (fun c_83 => ?_) (fun c_83 => ?_)
                      ·
                        refine lv_iconst (v := nI 0) hx hb dX2_join_90 (by decide) ?_
                        refine lv_goto (tgt := 154) hx hb dX2_join_91 (by decide) ?_
                        refine nv_zast (x := false) hx hb hK hP hMK.D hS 7 1 rfl rfl (by omega) (by decide) dX2_join_154 (fun H locs hP hS => ?_)
                        have hP : va_P D vwCl (mW cI cZ μ (va_up M1 7 (upd (M1 7) i (bI false))) V) H := hP
                        refine lv_iinc (v := nI (i + 1)) (lv' := [(5, .int (nI (i + 1))), (7, .int (bI (σ s2 i))), (6, .int (bI (σ s1 i))), (0, .ref (μ 0)), (1, .int (nI sl)), (2, .int (nI s1)), (3, .int (nI s2)), (4, .int (nI 0))]) hx hb dX2_join_155 hl (k := 7) rfl (inc_nI _) (by decide) rfl (fun ls hl => ?_)
                        refine lv_goto (tgt := 39) hx hb dX2_join_158 (by decide) ?_
                        exact ih_39 (i + 1) (va_up M1 7 (upd (M1 7) i (bI false))) (by omega) (by exact mk_step hm1 (congrArg bI (by first | (simp [jn, cc]; done) | (simp [jn, c_4, c_11, c_18, c_30, c_78, c_83]; done)))) (by exact h5) (by omega) _ (by first | rfl | exact congrArg nI (by omega)) _ _ hS ⟨hRel, hPt, hKg, hP⟩ _ (lv_sub hl [3, 4, 5, 6, 7, 0] rfl)
                      ·
                        refine lv_iconst (v := nI 1) hx hb dX2_join_86 (by decide) ?_
                        refine lv_goto (tgt := 154) hx hb dX2_join_87 (by decide) ?_
                        refine nv_zast (x := true) hx hb hK hP hMK.D hS 7 1 rfl rfl (by omega) (by decide) dX2_join_154 (fun H locs hP hS => ?_)
                        have hP : va_P D vwCl (mW cI cZ μ (va_up M1 7 (upd (M1 7) i (bI true))) V) H := hP
                        refine lv_iinc (v := nI (i + 1)) (lv' := [(5, .int (nI (i + 1))), (7, .int (bI (σ s2 i))), (6, .int (bI (σ s1 i))), (0, .ref (μ 0)), (1, .int (nI sl)), (2, .int (nI s1)), (3, .int (nI s2)), (4, .int (nI 0))]) hx hb dX2_join_155 hl (k := 7) rfl (inc_nI _) (by decide) rfl (fun ls hl => ?_)
                        refine lv_goto (tgt := 39) hx hb dX2_join_158 (by decide) ?_
                        exact ih_39 (i + 1) (va_up M1 7 (upd (M1 7) i (bI true))) (by omega) (by exact mk_step hm1 (congrArg bI (by first | (simp [jn, cc]; done) | (simp [jn, c_4, c_11, c_18, c_30, c_78, c_83]; done)))) (by exact h5) (by omega) _ (by first | rfl | exact congrArg nI (by omega)) _ _ hS ⟨hRel, hPt, hKg, hP⟩ _ (lv_sub hl [3, 4, 5, 6, 7, 0] rfl)
                ·
                  refine lv_aload_n hx hb dX2_join_65 rfl (lv_at hl 2 rfl) ?_
                  refine va_get (D := D) (ci := 2) (v := .ref (μ 7)) (C := RX2) (T := TX2) (N := 15) hx hb hts (by decide +kernel) hown hK hP 0 rfl rfl 6 (by decide) (hts (.fieldLink RX2 29 "SevenKeysModel" "made" "[Z") (by decide +kernel)) (fun _ h9 => h9) rfl dX2_join_66 ?_
                  refine lv_iload hx hb dX2_join_69 (lv_at hl 7 rfl) ?_
                  refine lv_iload hx hb dX2_join_71 (lv_at hl 6 rfl) ?_
                  refine lv_if_ne (tgt := 94) hx hb dX2_join_73 (by decide) (fun c_73 => ?_) (fun c_73 => ?_)
                  ·
                    refine lv_iload hx hb dX2_join_94 (lv_at hl 6 rfl) ?_
                    refine lv_iconst (v := nI 1) hx hb dX2_join_96 (by decide) ?_
                    refine nv_icmp_ne (tgt := 118) hx hb dX2_join_97 (by decide) (by omega) (by omega) (fun c_97 => ?_) (fun c_97 => ?_)
                    ·
                      omega
                    ·
                      refine lv_iload hx hb dX2_join_100 (lv_at hl 1 rfl) ?_
                      refine nv_ifz_eq (tgt := 114) hx hb dX2_join_102 (by decide) (fun c_102 => ?_) (fun c_102 => ?_)
                      ·
                        refine lv_iconst (v := nI 0) hx hb dX2_join_114 (by decide) ?_
                        refine lv_goto (tgt := 154) hx hb dX2_join_115 (by decide) ?_
                        refine nv_zast (x := false) hx hb hK hP hMK.D hS 7 1 rfl rfl (by omega) (by decide) dX2_join_154 (fun H locs hP hS => ?_)
                        have hP : va_P D vwCl (mW cI cZ μ (va_up M1 7 (upd (M1 7) i (bI false))) V) H := hP
                        refine lv_iinc (v := nI (i + 1)) (lv' := [(5, .int (nI (i + 1))), (7, .int (bI (σ s2 i))), (6, .int (bI (σ s1 i))), (0, .ref (μ 0)), (1, .int (nI sl)), (2, .int (nI s1)), (3, .int (nI s2)), (4, .int (nI 1))]) hx hb dX2_join_155 hl (k := 7) rfl (inc_nI _) (by decide) rfl (fun ls hl => ?_)
                        refine lv_goto (tgt := 39) hx hb dX2_join_158 (by decide) ?_
                        exact ih_39 (i + 1) (va_up M1 7 (upd (M1 7) i (bI false))) (by omega) (by exact mk_step hm1 (congrArg bI (by first | (simp [jn, cc]; done) | (simp [jn, c_4, c_11, c_18, c_30, c_102]; done)))) (by exact h5) (by omega) _ (by first | rfl | exact congrArg nI (by omega)) _ _ hS ⟨hRel, hPt, hKg, hP⟩ _ (lv_sub hl [3, 4, 5, 6, 7, 0] rfl)
                      ·
                        refine lv_iload hx hb dX2_join_105 (lv_at hl 0 rfl) ?_
                        refine nv_ifz_eq (tgt := 114) hx hb dX2_join_107 (by decide) (fun c_107 => ?_) (fun c_107 => ?_)
                        ·
                          refine lv_iconst (v := nI 0) hx hb dX2_join_114 (by decide) ?_
                          refine lv_goto (tgt := 154) hx hb dX2_join_115 (by decide) ?_
                          refine nv_zast (x := false) hx hb hK hP hMK.D hS 7 1 rfl rfl (by omega) (by decide) dX2_join_154 (fun H locs hP hS => ?_)
                          have hP : va_P D vwCl (mW cI cZ μ (va_up M1 7 (upd (M1 7) i (bI false))) V) H := hP
                          refine lv_iinc (v := nI (i + 1)) (lv' := [(5, .int (nI (i + 1))), (7, .int (bI (σ s2 i))), (6, .int (bI (σ s1 i))), (0, .ref (μ 0)), (1, .int (nI sl)), (2, .int (nI s1)), (3, .int (nI s2)), (4, .int (nI 1))]) hx hb dX2_join_155 hl (k := 7) rfl (inc_nI _) (by decide) rfl (fun ls hl => ?_)
                          refine lv_goto (tgt := 39) hx hb dX2_join_158 (by decide) ?_
                          exact ih_39 (i + 1) (va_up M1 7 (upd (M1 7) i (bI false))) (by omega) (by exact mk_step hm1 (congrArg bI (by first | (simp [jn, cc]; done) | (simp [jn, c_4, c_11, c_18, c_30, c_102, c_107]; done)))) (by exact h5) (by omega) _ (by first | rfl | exact congrArg nI (by omega)) _ _ hS ⟨hRel, hPt, hKg, hP⟩ _ (lv_sub hl [3, 4, 5, 6, 7, 0] rfl)
                        ·
                          refine lv_iconst (v := nI 1) hx hb dX2_join_110 (by decide) ?_
                          refine lv_goto (tgt := 154) hx hb dX2_join_111 (by decide) ?_
                          refine nv_zast (x := true) hx hb hK hP hMK.D hS 7 1 rfl rfl (by omega) (by decide) dX2_join_154 (fun H locs hP hS => ?_)
                          have hP : va_P D vwCl (mW cI cZ μ (va_up M1 7 (upd (M1 7) i (bI true))) V) H := hP
                          refine lv_iinc (v := nI (i + 1)) (lv' := [(5, .int (nI (i + 1))), (7, .int (bI (σ s2 i))), (6, .int (bI (σ s1 i))), (0, .ref (μ 0)), (1, .int (nI sl)), (2, .int (nI s1)), (3, .int (nI s2)), (4, .int (nI 1))]) hx hb dX2_join_155 hl (k := 7) rfl (inc_nI _) (by decide) rfl (fun ls hl => ?_)
                          refine lv_goto (tgt := 39) hx hb dX2_join_158 (by decide) ?_
                          exact ih_39 (i + 1) (va_up M1 7 (upd (M1 7) i (bI true))) (by omega) (by exact mk_step hm1 (congrArg bI (by first | (simp [jn, cc]; done) | (simp [jn, c_4, c_11, c_18, c_30, c_102, c_107]; done)))) (by exact h5) (by omega) _ (by first | rfl | exact congrArg nI (by omega)) _ _ hS ⟨hRel, hPt, hKg, hP⟩ _ (lv_sub hl [3, 4, 5, 6, 7, 0] rfl)
                  ·
                    exact absurd c_73 (by decide)
                ·
                  refine lv_aload_n hx hb dX2_join_65 rfl (lv_at hl 2 rfl) ?_
                  refine va_get (D := D) (ci := 2) (v := .ref (μ 7)) (C := RX2) (T := TX2) (N := 15) hx hb hts (by decide +kernel) hown hK hP 0 rfl rfl 6 (by decide) (hts (.fieldLink RX2 29 "SevenKeysModel" "made" "[Z") (by decide +kernel)) (fun _ h9 => h9) rfl dX2_join_66 ?_
                  refine lv_iload hx hb dX2_join_69 (lv_at hl 7 rfl) ?_
                  refine lv_iload hx hb dX2_join_71 (lv_at hl 6 rfl) ?_
                  refine lv_if_ne (tgt := 94) hx hb dX2_join_73 (by decide) (fun c_73 => ?_) (fun c_73 => ?_)
                  ·
                    refine lv_iload hx hb dX2_join_94 (lv_at hl 6 rfl) ?_
                    refine lv_iconst (v := nI 1) hx hb dX2_join_96 (by decide) ?_
                    refine nv_icmp_ne (tgt := 118) hx hb dX2_join_97 (by decide) (by omega) (by omega) (fun c_97 => ?_) (fun c_97 => ?_)
                    ·
                      refine lv_iload hx hb dX2_join_118 (lv_at hl 6 rfl) ?_
                      refine lv_iconst (v := nI 2) hx hb dX2_join_120 (by decide) ?_
                      refine nv_icmp_ne (tgt := 142) hx hb dX2_join_121 (by decide) (by omega) (by omega) (fun c_121 => ?_) (fun c_121 => ?_)
                      ·
                        omega
                      ·
                        refine lv_iload hx hb dX2_join_124 (lv_at hl 1 rfl) ?_
                        refine nv_ifz_eq (tgt := 138) hx hb dX2_join_126 (by decide) (fun c_126 => ?_) (fun c_126 => ?_)
                        ·
                          refine lv_iconst (v := nI 0) hx hb dX2_join_138 (by decide) ?_
                          refine lv_goto (tgt := 154) hx hb dX2_join_139 (by decide) ?_
                          refine nv_zast (x := false) hx hb hK hP hMK.D hS 7 1 rfl rfl (by omega) (by decide) dX2_join_154 (fun H locs hP hS => ?_)
                          have hP : va_P D vwCl (mW cI cZ μ (va_up M1 7 (upd (M1 7) i (bI false))) V) H := hP
                          refine lv_iinc (v := nI (i + 1)) (lv' := [(5, .int (nI (i + 1))), (7, .int (bI (σ s2 i))), (6, .int (bI (σ s1 i))), (0, .ref (μ 0)), (1, .int (nI sl)), (2, .int (nI s1)), (3, .int (nI s2)), (4, .int (nI 2))]) hx hb dX2_join_155 hl (k := 7) rfl (inc_nI _) (by decide) rfl (fun ls hl => ?_)
                          refine lv_goto (tgt := 39) hx hb dX2_join_158 (by decide) ?_
                          exact ih_39 (i + 1) (va_up M1 7 (upd (M1 7) i (bI false))) (by omega) (by exact mk_step hm1 (congrArg bI (by first | (simp [jn, cc]; done) | (simp [jn, c_4, c_11, c_18, c_30, c_126]; done)))) (by exact h5) (by omega) _ (by first | rfl | exact congrArg nI (by omega)) _ _ hS ⟨hRel, hPt, hKg, hP⟩ _ (lv_sub hl [3, 4, 5, 6, 7, 0] rfl)
                        ·
                          refine lv_iload hx hb dX2_join_129 (lv_at hl 0 rfl) ?_
                          refine nv_ifz_ne (tgt := 138) hx hb dX2_join_131 (by decide) (fun c_131 => ?_) (fun c_131 => ?_)
                          ·
                            refine lv_iconst (v := nI 0) hx hb dX2_join_138 (by decide) ?_
                            refine lv_goto (tgt := 154) hx hb dX2_join_139 (by decide) ?_
                            refine nv_zast (x := false) hx hb hK hP hMK.D hS 7 1 rfl rfl (by omega) (by decide) dX2_join_154 (fun H locs hP hS => ?_)
                            have hP : va_P D vwCl (mW cI cZ μ (va_up M1 7 (upd (M1 7) i (bI false))) V) H := hP
                            refine lv_iinc (v := nI (i + 1)) (lv' := [(5, .int (nI (i + 1))), (7, .int (bI (σ s2 i))), (6, .int (bI (σ s1 i))), (0, .ref (μ 0)), (1, .int (nI sl)), (2, .int (nI s1)), (3, .int (nI s2)), (4, .int (nI 2))]) hx hb dX2_join_155 hl (k := 7) rfl (inc_nI _) (by decide) rfl (fun ls hl => ?_)
                            refine lv_goto (tgt := 39) hx hb dX2_join_158 (by decide) ?_
                            exact ih_39 (i + 1) (va_up M1 7 (upd (M1 7) i (bI false))) (by omega) (by exact mk_step hm1 (congrArg bI (by first | (simp [jn, cc]; done) | (simp [jn, c_4, c_11, c_18, c_30, c_126, c_131]; done)))) (by exact h5) (by omega) _ (by first | rfl | exact congrArg nI (by omega)) _ _ hS ⟨hRel, hPt, hKg, hP⟩ _ (lv_sub hl [3, 4, 5, 6, 7, 0] rfl)
                          ·
                            refine lv_iconst (v := nI 1) hx hb dX2_join_134 (by decide) ?_
                            refine lv_goto (tgt := 154) hx hb dX2_join_135 (by decide) ?_
                            refine nv_zast (x := true) hx hb hK hP hMK.D hS 7 1 rfl rfl (by omega) (by decide) dX2_join_154 (fun H locs hP hS => ?_)
                            have hP : va_P D vwCl (mW cI cZ μ (va_up M1 7 (upd (M1 7) i (bI true))) V) H := hP
                            refine lv_iinc (v := nI (i + 1)) (lv' := [(5, .int (nI (i + 1))), (7, .int (bI (σ s2 i))), (6, .int (bI (σ s1 i))), (0, .ref (μ 0)), (1, .int (nI sl)), (2, .int (nI s1)), (3, .int (nI s2)), (4, .int (nI 2))]) hx hb dX2_join_155 hl (k := 7) rfl (inc_nI _) (by decide) rfl (fun ls hl => ?_)
                            refine lv_goto (tgt := 39) hx hb dX2_join_158 (by decide) ?_
                            exact ih_39 (i + 1) (va_up M1 7 (upd (M1 7) i (bI true))) (by omega) (by exact mk_step hm1 (congrArg bI (by first | (simp [jn, cc]; done) | (simp [jn, c_4, c_11, c_18, c_30, c_126, c_131]; done)))) (by exact h5) (by omega) _ (by first | rfl | exact congrArg nI (by omega)) _ _ hS ⟨hRel, hPt, hKg, hP⟩ _ (lv_sub hl [3, 4, 5, 6, 7, 0] rfl)
                    ·
                      omega
                  ·
                    exact absurd c_73 (by decide)
                ·
                  refine lv_aload_n hx hb dX2_join_65 rfl (lv_at hl 2 rfl) ?_
                  refine va_get (D := D) (ci := 2) (v := .ref (μ 7)) (C := RX2) (T := TX2) (N := 15) hx hb hts (by decide +kernel) hown hK hP 0 rfl rfl 6 (by decide) (hts (.fieldLink RX2 29 "SevenKeysModel" "made" "[Z") (by decide +kernel)) (fun _ h9 => h9) rfl dX2_join_66 ?_
                  refine lv_iload hx hb dX2_join_69 (lv_at hl 7 rfl) ?_
                  refine lv_iload hx hb dX2_join_71 (lv_at hl 6 rfl) ?_
                  refine lv_if_ne (tgt := 94) hx hb dX2_join_73 (by decide) (fun c_73 => ?_) (fun c_73 => ?_)
                  ·
                    refine lv_iload hx hb dX2_join_94 (lv_at hl 6 rfl) ?_
                    refine lv_iconst (v := nI 1) hx hb dX2_join_96 (by decide) ?_
                    refine nv_icmp_ne (tgt := 118) hx hb dX2_join_97 (by decide) (by omega) (by omega) (fun c_97 => ?_) (fun c_97 => ?_)
                    ·
                      refine lv_iload hx hb dX2_join_118 (lv_at hl 6 rfl) ?_
                      refine lv_iconst (v := nI 2) hx hb dX2_join_120 (by decide) ?_
                      refine nv_icmp_ne (tgt := 142) hx hb dX2_join_121 (by decide) (by omega) (by omega) (fun c_121 => ?_) (fun c_121 => ?_)
                      ·
                        refine lv_iload hx hb dX2_join_142 (lv_at hl 1 rfl) ?_
                        refine lv_iload hx hb dX2_join_144 (lv_at hl 0 rfl) ?_
                        refine lv_icmp_eq (tgt := 153) hx hb dX2_join_146 (by decide) (fun c_146 => ?_) (fun c_146 => ?_)
                        ·
                          have cc : σ s1 i = σ s2 i := bI_inj.mp c_146
                          refine lv_iconst (v := nI 0) hx hb dX2_join_153 (by decide) ?_
                          refine nv_zast (x := false) hx hb hK hP hMK.D hS 7 1 rfl rfl (by omega) (by decide) dX2_join_154 (fun H locs hP hS => ?_)
                          have hP : va_P D vwCl (mW cI cZ μ (va_up M1 7 (upd (M1 7) i (bI false))) V) H := hP
                          refine lv_iinc (v := nI (i + 1)) (lv' := [(5, .int (nI (i + 1))), (7, .int (bI (σ s2 i))), (6, .int (bI (σ s1 i))), (0, .ref (μ 0)), (1, .int (nI sl)), (2, .int (nI s1)), (3, .int (nI s2)), (4, .int (nI 3))]) hx hb dX2_join_155 hl (k := 7) rfl (inc_nI _) (by decide) rfl (fun ls hl => ?_)
                          refine lv_goto (tgt := 39) hx hb dX2_join_158 (by decide) ?_
                          exact ih_39 (i + 1) (va_up M1 7 (upd (M1 7) i (bI false))) (by omega) (by exact mk_step hm1 (congrArg bI (by first | (simp [jn, cc]; done) | (simp [jn, c_4, c_11, c_18, c_30]; done)))) (by exact h5) (by omega) _ (by first | rfl | exact congrArg nI (by omega)) _ _ hS ⟨hRel, hPt, hKg, hP⟩ _ (lv_sub hl [3, 4, 5, 6, 7, 0] rfl)
                        ·
                          have cc : ¬ σ s1 i = σ s2 i := fun q => c_146 (by rw [q])
                          refine lv_iconst (v := nI 1) hx hb dX2_join_149 (by decide) ?_
                          refine lv_goto (tgt := 154) hx hb dX2_join_150 (by decide) ?_
                          refine nv_zast (x := true) hx hb hK hP hMK.D hS 7 1 rfl rfl (by omega) (by decide) dX2_join_154 (fun H locs hP hS => ?_)
                          have hP : va_P D vwCl (mW cI cZ μ (va_up M1 7 (upd (M1 7) i (bI true))) V) H := hP
                          refine lv_iinc (v := nI (i + 1)) (lv' := [(5, .int (nI (i + 1))), (7, .int (bI (σ s2 i))), (6, .int (bI (σ s1 i))), (0, .ref (μ 0)), (1, .int (nI sl)), (2, .int (nI s1)), (3, .int (nI s2)), (4, .int (nI 3))]) hx hb dX2_join_155 hl (k := 7) rfl (inc_nI _) (by decide) rfl (fun ls hl => ?_)
                          refine lv_goto (tgt := 39) hx hb dX2_join_158 (by decide) ?_
                          exact ih_39 (i + 1) (va_up M1 7 (upd (M1 7) i (bI true))) (by omega) (by exact mk_step hm1 (congrArg bI (by first | (simp [jn, cc]; done) | (simp [jn, c_4, c_11, c_18, c_30]; done)))) (by exact h5) (by omega) _ (by first | rfl | exact congrArg nI (by omega)) _ _ hS ⟨hRel, hPt, hKg, hP⟩ _ (lv_sub hl [3, 4, 5, 6, 7, 0] rfl)
                      ·
                        omega
                    ·
                      omega
                  ·
                    exact absurd c_73 (by decide)
          exact loop_39 (2401 - 0 + 1) 0 M (by omega) (by exact lt_0) (by rfl) (Nat.lt_succ_self _) _ rfl _ _ hS ⟨hRel, hPt, hKg, hP⟩ _ (lv_sub hl [1, 2, 3, 4, 5, 0] rfl)
        ·
          refine lv_bipush (v := (-2)) hx hb dX2_join_33 (by decide) ?_
          exact ret_wi hx hb hr hlocks dX2_join_35 hS (⟨_, _, rfl, hRel.eq (by first | (simp [joinS, gd, gs, c_4, c_11, c_18, c_30]; done) | (simp [joinS, gd, gs, c_4, c_11, c_18]; done) | (simp [joinS, gd, gs, c_4, c_11]; done) | (simp [joinS, gd, gs, c_4]; done)), hPt, hKg, hP⟩) (by first | (simp [joinR, gd, gs, c_4, c_11, c_18, c_30]; done) | (simp [joinR, gd, gs, c_4, c_11, c_18]; done) | (simp [joinR, gd, gs, c_4, c_11]; done) | (simp [joinR, gd, gs, c_4]; done))
      ·
        refine lv_iconst (v := (-1)) hx hb dX2_join_21 (by decide) ?_
        exact ret_wi hx hb hr hlocks dX2_join_22 hS (⟨_, _, rfl, hRel.eq (by first | (simp [joinS, gd, gs, c_4, c_11, c_18, c_30]; done) | (simp [joinS, gd, gs, c_4, c_11, c_18]; done) | (simp [joinS, gd, gs, c_4, c_11]; done) | (simp [joinS, gd, gs, c_4]; done)), hPt, hKg, hP⟩) (by first | (simp [joinR, gd, gs, c_4, c_11, c_18, c_30]; done) | (simp [joinR, gd, gs, c_4, c_11, c_18]; done) | (simp [joinR, gd, gs, c_4, c_11]; done) | (simp [joinR, gd, gs, c_4]; done))
theorem nf_X2_nextIn : nfOk yX2_nextIn 2 := by unfold nfOk; decide +kernel
set_option maxHeartbeats 4000000 in
set_option maxRecDepth 100000 in
theorem c_X2_nextIn (l : Launch) (D : va_G) (cI cZ : ClassId) (μ : Nat → Nat) (σ : Nat → Nat → Bool) (M : Nat → Nat → Int32) (V : Nat → Int32) (sl : Nat) (k : Nat) (hsl : sl < 4) (hk : k < 2401) : Rd l yX2_nextIn wsX2_nextIn ({ frames := 3, cells := 0, slots := 0, locals := 67 }) [.ref (μ 0), .int (nI sl), .int (nI k)] (MB D cI cZ μ σ M V) (nI (nbc (σ sl) k)) := by
  refine met_in RX2 (by decide) rfl rfl (Nat.le_of_ble_eq_true rfl) ?_
  intro p e s m below meth c ls S hr hlocks hl hB
  have hx := S.1
  have hb := S.2.1
  have hml := S.2.2.1
  have hown := S.2.2.2.1
  have hts := S.2.2.2.2
  have hl : lv_has ls 6 [(0, .ref (μ 0)), (1, .int (nI sl)), (2, .int (nI k))] := hl
  obtain ⟨⟨hRel, hPt, hKg, hP⟩, hMK⟩ := hB
  have hK := hMK.1
  have hS : va_S (xA 13 μ) s.heap s.heap [] := va_S.rf
  refine lv_iconst (v := nI 0) hx hb dX2_nextIn_0 (by decide) ?_
  refine lv_istore_n (lv' := [(3, .int (nI 0)), (0, .ref (μ 0)), (1, .int (nI sl)), (2, .int (nI k))]) hx hb dX2_nextIn_1 rfl hl (by decide) rfl (fun ls hl => ?_)
  refine lv_iconst (v := nI 1) hx hb dX2_nextIn_2 (by decide) ?_
  refine lv_istore (lv' := [(4, .int (nI 1)), (3, .int (nI 0)), (0, .ref (μ 0)), (1, .int (nI sl)), (2, .int (nI k))]) hx hb dX2_nextIn_3 hl (by decide) rfl (fun ls hl => ?_)
  have loop_5 : ∀ (n : Nat) (d : Nat), (d ≤ 6) → 6 - d < n → ∀ (x3 x4 : Int32), x3 = nI (fb_ct (fun d => inS (σ sl) (nbo k (d + 1))) d) → x4 = nI (d + 1) → ∀ ls : Array Slot, lv_has ls 6 [(0, .ref (μ 0)), (1, .int (nI sl)), (2, .int (nI k)), (3, .int x3), (4, .int x4)] → W p l e (headSpec wsX2_nextIn ({ frames := 3, cells := 0, slots := 0, locals := 67 })).room s m [.ref (μ 0), .int (nI sl), .int (nI k)].toArray below meth c s.heap [] 0 0 (MQ below (vp_Si (fun r => r = nI (nbc (σ sl) k))) [.ref (μ 0), .int (nI sl), .int (nI k)].toArray s 0 0 (fun _ => False)) (F0 m 5 ls []) := by
    intro n
    induction n with
    | zero => intro d hd hm; exact absurd hm (Nat.not_lt_zero _)
    | succ n ih_5 =>
      intro d hd hm_5 x3 x4 e3 e4 ls hl
      subst e3
      subst e4
      refine lv_iload hx hb dX2_nextIn_5 (lv_at hl 4 rfl) ?_
      refine lv_bipush (v := nI 6) hx hb dX2_nextIn_7 (by decide) ?_
      refine nv_icmp_gt (tgt := 50) hx hb dX2_nextIn_9 (by decide) (by omega) (by omega) (fun c_9 => ?_) (fun c_9 => ?_)
      ·
        refine lv_iload_n hx hb dX2_nextIn_50 rfl (lv_at hl 3 rfl) ?_
        exact ret_i hx hb hr hlocks dX2_nextIn_51 (by rw [show d = 6 by omega]; rfl)
      ·
        refine lv_aload_n hx hb dX2_nextIn_12 rfl (lv_at hl 0 rfl) ?_
        refine lv_iload_n hx hb dX2_nextIn_13 rfl (lv_at hl 2 rfl) ?_
        refine lv_iload hx hb dX2_nextIn_14 (lv_at hl 4 rfl) ?_
        refine rd_V S hl (c_X2_nextOf l D cI cZ μ σ M V k (d + 1) (by omega) (by omega)) MB.hb gX2_nextIn_X2_nextOf rfl rfl nf_X2_nextOf rfl rfl dX2_nextIn_16 (MP.rc0 hMK hP) (MB.at hMK ⟨hRel, hPt, hKg, hP⟩) ?_
        refine lv_istore (lv' := [(5, .int (oI (nbo k (d + 1)))), (0, .ref (μ 0)), (1, .int (nI sl)), (2, .int (nI k)), (3, .int (nI (fb_ct (fun d => inS (σ sl) (nbo k (d + 1))) d))), (4, .int (nI (d + 1)))]) hx hb dX2_nextIn_19 hl (by decide) rfl (fun ls hl => ?_)
        rcases hnb : nbo k (d + 1) with _ | j
        ·
          rw [hnb] at hl
          have hl : lv_has ls 6 [(5, .int (oI none)), (0, .ref (μ 0)), (1, .int (nI sl)), (2, .int (nI k)), (3, .int (nI (fb_ct (fun d => inS (σ sl) (nbo k (d + 1))) d))), (4, .int (nI (d + 1)))] := hl
          have hin : inS (σ sl) (nbo k (d + 1)) = false := by rw [hnb]; rfl
          refine lv_iload_n hx hb dX2_nextIn_21 rfl (lv_at hl 4 rfl) ?_
          refine lv_iload hx hb dX2_nextIn_22 (lv_at hl 0 rfl) ?_
          refine lv_if_lt (tgt := 41) hx hb dX2_nextIn_24 (by decide) (fun c_24 => ?_) (fun c_24 => ?_)
          ·
            refine lv_iconst (v := nI 0) hx hb dX2_nextIn_41 (by decide) ?_
            refine lv_iadd hx hb dX2_nextIn_42 ?_
            refine nv_as (nI (fb_ct (fun d => inS (σ sl) (nbo k (d + 1))) d + 0)) (nI_add _ _) ?_
            refine lv_istore_n (lv' := [(3, .int (nI (fb_ct (fun d => inS (σ sl) (nbo k (d + 1))) d + 0))), (5, .int (oI none)), (0, .ref (μ 0)), (1, .int (nI sl)), (2, .int (nI k)), (4, .int (nI (d + 1)))]) hx hb dX2_nextIn_43 rfl hl (by decide) rfl (fun ls hl => ?_)
            refine lv_iinc (v := nI (d + 1 + 1)) (lv' := [(4, .int (nI (d + 1 + 1))), (3, .int (nI (fb_ct (fun d => inS (σ sl) (nbo k (d + 1))) d + 0))), (5, .int (oI none)), (0, .ref (μ 0)), (1, .int (nI sl)), (2, .int (nI k))]) hx hb dX2_nextIn_44 hl (k := 5) rfl (inc_nI _) (by decide) rfl (fun ls hl => ?_)
            refine lv_goto (tgt := 5) hx hb dX2_nextIn_47 (by decide) ?_
            exact ih_5 (d + 1) (by omega) (by omega) _ _ (by rw [fb_ct_succ, hin]; rfl) (by first | rfl | exact congrArg nI (by omega)) _ (lv_sub hl [3, 4, 5, 1, 0] rfl)
          ·
            exact absurd (by decide) c_24
        ·
          have hj := nbo_lt hnb
          rw [hnb] at hl
          have hl : lv_has ls 6 [(5, .int (nI j)), (0, .ref (μ 0)), (1, .int (nI sl)), (2, .int (nI k)), (3, .int (nI (fb_ct (fun d => inS (σ sl) (nbo k (d + 1))) d))), (4, .int (nI (d + 1)))] := hl
          refine lv_iload_n hx hb dX2_nextIn_21 rfl (lv_at hl 4 rfl) ?_
          refine lv_iload hx hb dX2_nextIn_22 (lv_at hl 0 rfl) ?_
          refine lv_if_lt (tgt := 41) hx hb dX2_nextIn_24 (by decide) (fun c_24 => ?_) (fun c_24 => ?_)
          ·
            exact absurd c_24 (nI_pos (by omega))
          ·
            refine lv_aload_n hx hb dX2_nextIn_27 rfl (lv_at hl 1 rfl) ?_
            refine lv_iload_n hx hb dX2_nextIn_28 rfl (lv_at hl 2 rfl) ?_
            refine lv_iload hx hb dX2_nextIn_29 (lv_at hl 0 rfl) ?_
            refine rd_V S hl (c_X2_isIn l D cI cZ μ σ M V sl j (by omega) (by omega)) MB.hb gX2_nextIn_X2_isIn rfl rfl nf_X2_isIn rfl rfl dX2_nextIn_31 (MP.rc0 hMK hP) (MB.at hMK ⟨hRel, hPt, hKg, hP⟩) ?_
            refine nv_ifz_eq (tgt := 41) hx hb dX2_nextIn_34 (by decide) (fun c_34 => ?_) (fun c_34 => ?_)
            ·
              have hin : inS (σ sl) (nbo k (d + 1)) = false := by rw [hnb]; exact c_34
              refine lv_iconst (v := nI 0) hx hb dX2_nextIn_41 (by decide) ?_
              refine lv_iadd hx hb dX2_nextIn_42 ?_
              refine nv_as (nI (fb_ct (fun d => inS (σ sl) (nbo k (d + 1))) d + 0)) (nI_add _ _) ?_
              refine lv_istore_n (lv' := [(3, .int (nI (fb_ct (fun d => inS (σ sl) (nbo k (d + 1))) d + 0))), (5, .int (nI j)), (0, .ref (μ 0)), (1, .int (nI sl)), (2, .int (nI k)), (4, .int (nI (d + 1)))]) hx hb dX2_nextIn_43 rfl hl (by decide) rfl (fun ls hl => ?_)
              refine lv_iinc (v := nI (d + 1 + 1)) (lv' := [(4, .int (nI (d + 1 + 1))), (3, .int (nI (fb_ct (fun d => inS (σ sl) (nbo k (d + 1))) d + 0))), (5, .int (nI j)), (0, .ref (μ 0)), (1, .int (nI sl)), (2, .int (nI k))]) hx hb dX2_nextIn_44 hl (k := 5) rfl (inc_nI _) (by decide) rfl (fun ls hl => ?_)
              refine lv_goto (tgt := 5) hx hb dX2_nextIn_47 (by decide) ?_
              exact ih_5 (d + 1) (by omega) (by omega) _ _ (by rw [fb_ct_succ, hin]; rfl) (by first | rfl | exact congrArg nI (by omega)) _ (lv_sub hl [3, 4, 5, 1, 0] rfl)
            ·
              have hin : inS (σ sl) (nbo k (d + 1)) = true := by rw [hnb]; exact c_34
              refine lv_iconst (v := nI 1) hx hb dX2_nextIn_37 (by decide) ?_
              refine lv_goto (tgt := 42) hx hb dX2_nextIn_38 (by decide) ?_
              refine lv_iadd hx hb dX2_nextIn_42 ?_
              refine nv_as (nI (fb_ct (fun d => inS (σ sl) (nbo k (d + 1))) d + 1)) (nI_add _ _) ?_
              refine lv_istore_n (lv' := [(3, .int (nI (fb_ct (fun d => inS (σ sl) (nbo k (d + 1))) d + 1))), (5, .int (nI j)), (0, .ref (μ 0)), (1, .int (nI sl)), (2, .int (nI k)), (4, .int (nI (d + 1)))]) hx hb dX2_nextIn_43 rfl hl (by decide) rfl (fun ls hl => ?_)
              refine lv_iinc (v := nI (d + 1 + 1)) (lv' := [(4, .int (nI (d + 1 + 1))), (3, .int (nI (fb_ct (fun d => inS (σ sl) (nbo k (d + 1))) d + 1))), (5, .int (nI j)), (0, .ref (μ 0)), (1, .int (nI sl)), (2, .int (nI k))]) hx hb dX2_nextIn_44 hl (k := 5) rfl (inc_nI _) (by decide) rfl (fun ls hl => ?_)
              refine lv_goto (tgt := 5) hx hb dX2_nextIn_47 (by decide) ?_
              exact ih_5 (d + 1) (by omega) (by omega) _ _ (by rw [fb_ct_succ, hin]; rfl) (by first | rfl | exact congrArg nI (by omega)) _ (lv_sub hl [3, 4, 5, 1, 0] rfl)
  exact loop_5 (6 - 0 + 1) 0 (by omega) (Nat.lt_succ_self _) _ _ (by first | rfl | exact congrArg nI (by omega)) (by first | rfl | exact congrArg nI (by omega)) _ (lv_sub hl [2, 3, 4, 1, 0] rfl)
theorem nf_X2_grow : nfOk yX2_grow 3 := by unfold nfOk; decide +kernel
set_option maxHeartbeats 4000000 in
set_option maxRecDepth 100000 in
theorem c_X2_grow (l : Launch) (D : va_G) (cI cZ : ClassId) (μ : Nat → Nat) (σ : Nat → Nat → Bool) (M : Nat → Nat → Int32) (V : Nat → Int32) (a : Int32) (b : Int32) (y : Int32) : Wr l yX2_grow wsX2_grow ({ frames := 4, cells := 0, slots := 0, locals := 92 }) [.ref (μ 0), .int a, .int b, .int y] (MB D cI cZ μ σ M V) (some (.int (growR σ a b y))) (MS D cI cZ μ (growS σ a b y) (M 5)) (xA 13 μ) := by
  refine met_in RX2 (by decide) rfl rfl (Nat.le_of_ble_eq_true rfl) ?_
  intro p e s m below meth c ls S hr hlocks hl hB
  have hx := S.1
  have hb := S.2.1
  have hml := S.2.2.1
  have hown := S.2.2.2.1
  have hts := S.2.2.2.2
  have hl : lv_has ls 5 [(0, .ref (μ 0)), (1, .int a), (2, .int b), (3, .int y)] := hl
  obtain ⟨⟨hRel, hPt, hKg, hP⟩, hMK⟩ := hB
  have hK := hMK.1
  have hS : va_S (xA 13 μ) s.heap s.heap [] := va_S.rf
  refine lv_iload_n hx hb dX2_grow_0 rfl (lv_at hl 1 rfl) ?_
  refine rd_S S hl (c_X2_isSlot l a) HB.tt gX2_grow_X2_isSlot rfl nf_X2_isSlot rfl rfl dX2_grow_1  (fun _ _ _ => trivial) ?_
  refine nv_ifz_eq (tgt := 14) hx hb dX2_grow_4 (by decide) (fun c_4 => ?_) (fun c_4 => ?_)
  ·
    refine lv_iconst (v := (-1)) hx hb dX2_grow_14 (by decide) ?_
    exact ret_wi hx hb hr hlocks dX2_grow_15 hS (⟨_, _, rfl, hRel.eq (by first | (simp [growS, gd, gs, c_4, c_11]; done) | (simp [growS, gd, gs, c_4]; done)), hPt, hKg, hP⟩) (by first | (simp [growR, gd, gs, c_4, c_11]; done) | (simp [growR, gd, gs, c_4]; done))
  ·
    obtain ⟨sl, hsl, hxsl⟩ := wI_nat c_4 (by decide)
    subst hxsl
    have hcsl : (nI sl).toNatClampNeg = sl := nI_clamp (by omega)
    refine lv_iload_n hx hb dX2_grow_7 rfl (lv_at hl 2 rfl) ?_
    refine rd_S S hl (c_X2_isSlot l b) HB.tt gX2_grow_X2_isSlot rfl nf_X2_isSlot rfl rfl dX2_grow_8  (fun _ _ _ => trivial) ?_
    refine nv_ifz_ne (tgt := 16) hx hb dX2_grow_11 (by decide) (fun c_11 => ?_) (fun c_11 => ?_)
    ·
      obtain ⟨fr, hfr, hxfr⟩ := wI_nat c_11 (by decide)
      subst hxfr
      have hcfr : (nI fr).toNatClampNeg = fr := nI_clamp (by omega)
      refine lv_iload_n hx hb dX2_grow_16 rfl (lv_at hl 3 rfl) ?_
      refine lv_iconst (v := nI 1) hx hb dX2_grow_17 (by decide) ?_
      refine lv_icmp_eq (tgt := 29) hx hb dX2_grow_18 (by decide) (fun c_18 => ?_) (fun c_18 => ?_)
      ·
        have hok : growO y = true := by simp [growO, c_18]
        refine lv_iconst (v := nI 0) hx hb dX2_grow_29 (by decide) ?_
        refine lv_istore (lv' := [(4, .int (nI 0)), (0, .ref (μ 0)), (1, .int (nI sl)), (2, .int (nI fr)), (3, .int y)]) hx hb dX2_grow_30 hl (by decide) rfl (fun ls hl => ?_)
        have loop_32 : ∀ (n : Nat) (i : Nat) (M1 : Nat → Nat → Int32), (i ≤ 2401) → (∀ j, j < i → M1 7 j = bI ((growP (σ fr) (decide (y = nI 1))) j)) → (M1 5 = M 5) → 2401 - i < n → ∀ (x4 : Int32), x4 = nI i → ∀ (H : Heap) (locs : List Loc), va_S (xA 13 μ) s.heap H locs → MP D cI cZ μ σ M1 V H → ∀ ls : Array Slot, lv_has ls 5 [(0, .ref (μ 0)), (1, .int (nI sl)), (2, .int (nI fr)), (3, .int y), (4, .int x4)] → W p l e (headSpec wsX2_grow ({ frames := 4, cells := 0, slots := 0, locals := 92 })).room s m [.ref (μ 0), .int (nI sl), .int (nI fr), .int y].toArray below meth c H locs 0 0 (MQ below (qW (some (.int (growR σ (nI sl) (nI fr) y))) (MS D cI cZ μ (growS σ (nI sl) (nI fr) y) (M 5)) (xA 13 μ)) [.ref (μ 0), .int (nI sl), .int (nI fr), .int y].toArray s 0 0 (xA 13 μ)) (F0 m 32 ls []) := by
          intro n
          induction n with
          | zero => intro i M1 hi hm1 h5 hm; exact absurd hm (Nat.not_lt_zero _)
          | succ n ih_32 =>
            intro i M1 hi hm1 h5 hm_32 x4 e4 H locs hS hPP ls hl
            subst e4
            obtain ⟨hRel, hPt, hKg, hP⟩ := hPP
            refine lv_iload hx hb dX2_grow_32 (lv_at hl 4 rfl) ?_
            refine lv_sipush (v := nI 2401) hx hb dX2_grow_34 (by decide) ?_
            refine nv_icmp_ge (tgt := 113) hx hb dX2_grow_37 (by decide) (by omega) (by omega) (fun c_37 => ?_) (fun c_37 => ?_)
            ·
              refine lv_aload_n hx hb dX2_grow_113 rfl (lv_at hl 0 rfl) ?_
              refine lv_iload_n hx hb dX2_grow_114 rfl (lv_at hl 1 rfl) ?_
              refine wr_V S hl (c_X2_keep l D cI cZ μ σ M1 V sl (growP (σ fr) (decide (y = nI 1))) (by omega) (by exact fun j hj => hm1 j (by omega))) MB.hb gX2_grow_X2_keep rfl rfl nf_X2_keep rfl rfl dX2_grow_115 (MP.rc0 hMK hP) (MB.at hMK ⟨hRel, hPt, hKg, hP⟩) hS (fun _ h => h) (fun H locs hPP hS _ hkp => ?_)
              obtain ⟨M_115, V_115, h5_115, hRel, hPt, hKg, hP⟩ := hPP
              refine W.eq (g2 := F0 m 118 ls [.int (nI (fb_ct (mdS σ sl 0 2401 (growP (σ fr) (decide (y = nI 1))) sl) 2401))]) rfl ?_
              have e : growS σ (nI sl) (nI fr) y = mdS σ sl 0 2401 (growP (σ fr) (decide (y = nI 1))) := by simp [growS, c_4, c_11, hok, hcsl, hcfr]
              exact ret_wi hx hb hr hlocks dX2_grow_118 hS (⟨_, _, h5_115.trans h5, hRel.eq e, hPt, hKg, hP⟩) (by unfold growR; rw [e]; simp [gs, c_4, c_11, hok, hcsl])
            ·
              refine lv_aload_n hx hb dX2_grow_40 rfl (lv_at hl 0 rfl) ?_
              refine va_get (D := D) (ci := 2) (v := .ref (μ 7)) (C := RX2) (T := TX2) (N := 15) hx hb hts (by decide +kernel) hown hK hP 0 rfl rfl 6 (by decide) (hts (.fieldLink RX2 29 "SevenKeysModel" "made" "[Z") (by decide +kernel)) (fun _ h9 => h9) rfl dX2_grow_41 ?_
              refine lv_iload hx hb dX2_grow_44 (lv_at hl 4 rfl) ?_
              refine lv_iload_n hx hb dX2_grow_46 rfl (lv_at hl 3 rfl) ?_
              refine lv_iconst (v := nI 1) hx hb dX2_grow_47 (by decide) ?_
              refine lv_icmp_ne (tgt := 79) hx hb dX2_grow_48 (by decide) (fun c_48 => ?_) (fun c_48 => ?_)
              ·
                refine lv_aload_n hx hb dX2_grow_79 rfl (lv_at hl 0 rfl) ?_
                refine lv_iload_n hx hb dX2_grow_80 rfl (lv_at hl 2 rfl) ?_
                refine lv_iload hx hb dX2_grow_81 (lv_at hl 4 rfl) ?_
                refine rd_V S hl (c_X2_isIn l D cI cZ μ σ M1 V fr i (by omega) (by omega)) MB.hb gX2_grow_X2_isIn rfl rfl nf_X2_isIn rfl rfl dX2_grow_83 (MP.rc0 hMK hP) (MB.at hMK ⟨hRel, hPt, hKg, hP⟩) ?_
                refine nv_ifz_eq (tgt := 105) hx hb dX2_grow_86 (by decide) (fun c_86 => ?_) (fun c_86 => ?_)
                ·
                  refine lv_iconst (v := nI 0) hx hb dX2_grow_105 (by decide) ?_
                  refine nv_zast (x := false) hx hb hK hP hMK.D hS 7 1 rfl rfl (by omega) (by decide) dX2_grow_106 (fun H locs hP hS => ?_)
                  have hP : va_P D vwCl (mW cI cZ μ (va_up M1 7 (upd (M1 7) i (bI false))) V) H := hP
                  refine lv_iinc (v := nI (i + 1)) (lv' := [(4, .int (nI (i + 1))), (0, .ref (μ 0)), (1, .int (nI sl)), (2, .int (nI fr)), (3, .int y)]) hx hb dX2_grow_107 hl (k := 4) rfl (inc_nI _) (by decide) rfl (fun ls hl => ?_)
                  refine lv_goto (tgt := 32) hx hb dX2_grow_110 (by decide) ?_
                  exact ih_32 (i + 1) (va_up M1 7 (upd (M1 7) i (bI false))) (by omega) (by exact mk_step hm1 (congrArg bI (by unfold growP; first | (rw [decide_eq_true c_48, c_58, cc]; rfl) | (rw [decide_eq_true c_48, c_58]; rfl) | (rw [decide_eq_false c_48, c_86, cc]; rfl) | (rw [decide_eq_false c_48, c_86]; rfl)))) (by exact h5) (by omega) _ (by first | rfl | exact congrArg nI (by omega)) _ _ hS ⟨hRel, hPt, hKg, hP⟩ _ (lv_sub hl [1, 2, 3, 4, 0] rfl)
                ·
                  refine lv_aload_n hx hb dX2_grow_89 rfl (lv_at hl 0 rfl) ?_
                  refine lv_iload_n hx hb dX2_grow_90 rfl (lv_at hl 2 rfl) ?_
                  refine lv_iload hx hb dX2_grow_91 (lv_at hl 4 rfl) ?_
                  refine rd_V S hl (c_X2_nextIn l D cI cZ μ σ M1 V fr i (by omega) (by omega)) MB.hb gX2_grow_X2_nextIn rfl rfl nf_X2_nextIn rfl rfl dX2_grow_93 (MP.rc0 hMK hP) (MB.at hMK ⟨hRel, hPt, hKg, hP⟩) ?_
                  refine lv_bipush (v := nI 6) hx hb dX2_grow_96 (by decide) ?_
                  refine nv_icmp_ne (tgt := 105) hx hb dX2_grow_98 (by decide) (by exact Nat.lt_of_le_of_lt (nbc_le _ _) (by decide)) (by omega) (fun c_98 => ?_) (fun c_98 => ?_)
                  ·
                    have cc : decide (nbc (σ fr) i = 6) = false := decide_eq_false c_98
                    refine lv_iconst (v := nI 0) hx hb dX2_grow_105 (by decide) ?_
                    refine nv_zast (x := false) hx hb hK hP hMK.D hS 7 1 rfl rfl (by omega) (by decide) dX2_grow_106 (fun H locs hP hS => ?_)
                    have hP : va_P D vwCl (mW cI cZ μ (va_up M1 7 (upd (M1 7) i (bI false))) V) H := hP
                    refine lv_iinc (v := nI (i + 1)) (lv' := [(4, .int (nI (i + 1))), (0, .ref (μ 0)), (1, .int (nI sl)), (2, .int (nI fr)), (3, .int y)]) hx hb dX2_grow_107 hl (k := 4) rfl (inc_nI _) (by decide) rfl (fun ls hl => ?_)
                    refine lv_goto (tgt := 32) hx hb dX2_grow_110 (by decide) ?_
                    exact ih_32 (i + 1) (va_up M1 7 (upd (M1 7) i (bI false))) (by omega) (by exact mk_step hm1 (congrArg bI (by unfold growP; first | (rw [decide_eq_true c_48, c_58, cc]; rfl) | (rw [decide_eq_true c_48, c_58]; rfl) | (rw [decide_eq_false c_48, c_86, cc]; rfl) | (rw [decide_eq_false c_48, c_86]; rfl)))) (by exact h5) (by omega) _ (by first | rfl | exact congrArg nI (by omega)) _ _ hS ⟨hRel, hPt, hKg, hP⟩ _ (lv_sub hl [1, 2, 3, 4, 0] rfl)
                  ·
                    have cc : decide (nbc (σ fr) i = 6) = true := decide_eq_true c_98
                    refine lv_iconst (v := nI 1) hx hb dX2_grow_101 (by decide) ?_
                    refine lv_goto (tgt := 106) hx hb dX2_grow_102 (by decide) ?_
                    refine nv_zast (x := true) hx hb hK hP hMK.D hS 7 1 rfl rfl (by omega) (by decide) dX2_grow_106 (fun H locs hP hS => ?_)
                    have hP : va_P D vwCl (mW cI cZ μ (va_up M1 7 (upd (M1 7) i (bI true))) V) H := hP
                    refine lv_iinc (v := nI (i + 1)) (lv' := [(4, .int (nI (i + 1))), (0, .ref (μ 0)), (1, .int (nI sl)), (2, .int (nI fr)), (3, .int y)]) hx hb dX2_grow_107 hl (k := 4) rfl (inc_nI _) (by decide) rfl (fun ls hl => ?_)
                    refine lv_goto (tgt := 32) hx hb dX2_grow_110 (by decide) ?_
                    exact ih_32 (i + 1) (va_up M1 7 (upd (M1 7) i (bI true))) (by omega) (by exact mk_step hm1 (congrArg bI (by unfold growP; first | (rw [decide_eq_true c_48, c_58, cc]; rfl) | (rw [decide_eq_true c_48, c_58]; rfl) | (rw [decide_eq_false c_48, c_86, cc]; rfl) | (rw [decide_eq_false c_48, c_86]; rfl)))) (by exact h5) (by omega) _ (by first | rfl | exact congrArg nI (by omega)) _ _ hS ⟨hRel, hPt, hKg, hP⟩ _ (lv_sub hl [1, 2, 3, 4, 0] rfl)
              ·
                refine lv_aload_n hx hb dX2_grow_51 rfl (lv_at hl 0 rfl) ?_
                refine lv_iload_n hx hb dX2_grow_52 rfl (lv_at hl 2 rfl) ?_
                refine lv_iload hx hb dX2_grow_53 (lv_at hl 4 rfl) ?_
                refine rd_V S hl (c_X2_isIn l D cI cZ μ σ M1 V fr i (by omega) (by omega)) MB.hb gX2_grow_X2_isIn rfl rfl nf_X2_isIn rfl rfl dX2_grow_55 (MP.rc0 hMK hP) (MB.at hMK ⟨hRel, hPt, hKg, hP⟩) ?_
                refine nv_ifz_ne (tgt := 71) hx hb dX2_grow_58 (by decide) (fun c_58 => ?_) (fun c_58 => ?_)
                ·
                  refine lv_iconst (v := nI 1) hx hb dX2_grow_71 (by decide) ?_
                  refine lv_goto (tgt := 106) hx hb dX2_grow_72 (by decide) ?_
                  refine nv_zast (x := true) hx hb hK hP hMK.D hS 7 1 rfl rfl (by omega) (by decide) dX2_grow_106 (fun H locs hP hS => ?_)
                  have hP : va_P D vwCl (mW cI cZ μ (va_up M1 7 (upd (M1 7) i (bI true))) V) H := hP
                  refine lv_iinc (v := nI (i + 1)) (lv' := [(4, .int (nI (i + 1))), (0, .ref (μ 0)), (1, .int (nI sl)), (2, .int (nI fr)), (3, .int y)]) hx hb dX2_grow_107 hl (k := 4) rfl (inc_nI _) (by decide) rfl (fun ls hl => ?_)
                  refine lv_goto (tgt := 32) hx hb dX2_grow_110 (by decide) ?_
                  exact ih_32 (i + 1) (va_up M1 7 (upd (M1 7) i (bI true))) (by omega) (by exact mk_step hm1 (congrArg bI (by unfold growP; first | (rw [decide_eq_true c_48, c_58, cc]; rfl) | (rw [decide_eq_true c_48, c_58]; rfl) | (rw [decide_eq_false c_48, c_86, cc]; rfl) | (rw [decide_eq_false c_48, c_86]; rfl)))) (by exact h5) (by omega) _ (by first | rfl | exact congrArg nI (by omega)) _ _ hS ⟨hRel, hPt, hKg, hP⟩ _ (lv_sub hl [1, 2, 3, 4, 0] rfl)
                ·
                  refine lv_aload_n hx hb dX2_grow_61 rfl (lv_at hl 0 rfl) ?_
                  refine lv_iload_n hx hb dX2_grow_62 rfl (lv_at hl 2 rfl) ?_
                  refine lv_iload hx hb dX2_grow_63 (lv_at hl 4 rfl) ?_
                  refine rd_V S hl (c_X2_nextIn l D cI cZ μ σ M1 V fr i (by omega) (by omega)) MB.hb gX2_grow_X2_nextIn rfl rfl nf_X2_nextIn rfl rfl dX2_grow_65 (MP.rc0 hMK hP) (MB.at hMK ⟨hRel, hPt, hKg, hP⟩) ?_
                  refine lv_if_le (tgt := 75) hx hb dX2_grow_68 (by decide) (fun c_68 => ?_) (fun c_68 => ?_)
                  ·
                    have cc : decide (0 < nbc (σ fr) i) = false := decide_eq_false (fun q => absurd c_68 (nI_nle q (Nat.lt_of_le_of_lt (nbc_le _ _) (by decide))))
                    refine lv_iconst (v := nI 0) hx hb dX2_grow_75 (by decide) ?_
                    refine lv_goto (tgt := 106) hx hb dX2_grow_76 (by decide) ?_
                    refine nv_zast (x := false) hx hb hK hP hMK.D hS 7 1 rfl rfl (by omega) (by decide) dX2_grow_106 (fun H locs hP hS => ?_)
                    have hP : va_P D vwCl (mW cI cZ μ (va_up M1 7 (upd (M1 7) i (bI false))) V) H := hP
                    refine lv_iinc (v := nI (i + 1)) (lv' := [(4, .int (nI (i + 1))), (0, .ref (μ 0)), (1, .int (nI sl)), (2, .int (nI fr)), (3, .int y)]) hx hb dX2_grow_107 hl (k := 4) rfl (inc_nI _) (by decide) rfl (fun ls hl => ?_)
                    refine lv_goto (tgt := 32) hx hb dX2_grow_110 (by decide) ?_
                    exact ih_32 (i + 1) (va_up M1 7 (upd (M1 7) i (bI false))) (by omega) (by exact mk_step hm1 (congrArg bI (by unfold growP; first | (rw [decide_eq_true c_48, c_58, cc]; rfl) | (rw [decide_eq_true c_48, c_58]; rfl) | (rw [decide_eq_false c_48, c_86, cc]; rfl) | (rw [decide_eq_false c_48, c_86]; rfl)))) (by exact h5) (by omega) _ (by first | rfl | exact congrArg nI (by omega)) _ _ hS ⟨hRel, hPt, hKg, hP⟩ _ (lv_sub hl [1, 2, 3, 4, 0] rfl)
                  ·
                    have cc : decide (0 < nbc (σ fr) i) = true := decide_eq_true (Nat.pos_of_ne_zero (fun q => c_68 (by rw [q]; decide)))
                    refine lv_iconst (v := nI 1) hx hb dX2_grow_71 (by decide) ?_
                    refine lv_goto (tgt := 106) hx hb dX2_grow_72 (by decide) ?_
                    refine nv_zast (x := true) hx hb hK hP hMK.D hS 7 1 rfl rfl (by omega) (by decide) dX2_grow_106 (fun H locs hP hS => ?_)
                    have hP : va_P D vwCl (mW cI cZ μ (va_up M1 7 (upd (M1 7) i (bI true))) V) H := hP
                    refine lv_iinc (v := nI (i + 1)) (lv' := [(4, .int (nI (i + 1))), (0, .ref (μ 0)), (1, .int (nI sl)), (2, .int (nI fr)), (3, .int y)]) hx hb dX2_grow_107 hl (k := 4) rfl (inc_nI _) (by decide) rfl (fun ls hl => ?_)
                    refine lv_goto (tgt := 32) hx hb dX2_grow_110 (by decide) ?_
                    exact ih_32 (i + 1) (va_up M1 7 (upd (M1 7) i (bI true))) (by omega) (by exact mk_step hm1 (congrArg bI (by unfold growP; first | (rw [decide_eq_true c_48, c_58, cc]; rfl) | (rw [decide_eq_true c_48, c_58]; rfl) | (rw [decide_eq_false c_48, c_86, cc]; rfl) | (rw [decide_eq_false c_48, c_86]; rfl)))) (by exact h5) (by omega) _ (by first | rfl | exact congrArg nI (by omega)) _ _ hS ⟨hRel, hPt, hKg, hP⟩ _ (lv_sub hl [1, 2, 3, 4, 0] rfl)
        exact loop_32 (2401 - 0 + 1) 0 M (by omega) (by exact lt_0) (by rfl) (Nat.lt_succ_self _) _ rfl _ _ hS ⟨hRel, hPt, hKg, hP⟩ _ (lv_sub hl [1, 2, 3, 4, 0] rfl)
      ·
        refine lv_iload_n hx hb dX2_grow_21 rfl (lv_at hl 3 rfl) ?_
        refine lv_iconst (v := (-1)) hx hb dX2_grow_22 (by decide) ?_
        refine lv_icmp_eq (tgt := 29) hx hb dX2_grow_23 (by decide) (fun c_23 => ?_) (fun c_23 => ?_)
        ·
          have hok : growO y = true := by simp [growO, c_23]
          refine lv_iconst (v := nI 0) hx hb dX2_grow_29 (by decide) ?_
          refine lv_istore (lv' := [(4, .int (nI 0)), (0, .ref (μ 0)), (1, .int (nI sl)), (2, .int (nI fr)), (3, .int y)]) hx hb dX2_grow_30 hl (by decide) rfl (fun ls hl => ?_)
          have loop_32 : ∀ (n : Nat) (i : Nat) (M1 : Nat → Nat → Int32), (i ≤ 2401) → (∀ j, j < i → M1 7 j = bI ((growP (σ fr) (decide (y = nI 1))) j)) → (M1 5 = M 5) → 2401 - i < n → ∀ (x4 : Int32), x4 = nI i → ∀ (H : Heap) (locs : List Loc), va_S (xA 13 μ) s.heap H locs → MP D cI cZ μ σ M1 V H → ∀ ls : Array Slot, lv_has ls 5 [(0, .ref (μ 0)), (1, .int (nI sl)), (2, .int (nI fr)), (3, .int y), (4, .int x4)] → W p l e (headSpec wsX2_grow ({ frames := 4, cells := 0, slots := 0, locals := 92 })).room s m [.ref (μ 0), .int (nI sl), .int (nI fr), .int y].toArray below meth c H locs 0 0 (MQ below (qW (some (.int (growR σ (nI sl) (nI fr) y))) (MS D cI cZ μ (growS σ (nI sl) (nI fr) y) (M 5)) (xA 13 μ)) [.ref (μ 0), .int (nI sl), .int (nI fr), .int y].toArray s 0 0 (xA 13 μ)) (F0 m 32 ls []) := by
            intro n
            induction n with
            | zero => intro i M1 hi hm1 h5 hm; exact absurd hm (Nat.not_lt_zero _)
            | succ n ih_32 =>
              intro i M1 hi hm1 h5 hm_32 x4 e4 H locs hS hPP ls hl
              subst e4
              obtain ⟨hRel, hPt, hKg, hP⟩ := hPP
              refine lv_iload hx hb dX2_grow_32 (lv_at hl 4 rfl) ?_
              refine lv_sipush (v := nI 2401) hx hb dX2_grow_34 (by decide) ?_
              refine nv_icmp_ge (tgt := 113) hx hb dX2_grow_37 (by decide) (by omega) (by omega) (fun c_37 => ?_) (fun c_37 => ?_)
              ·
                refine lv_aload_n hx hb dX2_grow_113 rfl (lv_at hl 0 rfl) ?_
                refine lv_iload_n hx hb dX2_grow_114 rfl (lv_at hl 1 rfl) ?_
                refine wr_V S hl (c_X2_keep l D cI cZ μ σ M1 V sl (growP (σ fr) (decide (y = nI 1))) (by omega) (by exact fun j hj => hm1 j (by omega))) MB.hb gX2_grow_X2_keep rfl rfl nf_X2_keep rfl rfl dX2_grow_115 (MP.rc0 hMK hP) (MB.at hMK ⟨hRel, hPt, hKg, hP⟩) hS (fun _ h => h) (fun H locs hPP hS _ hkp => ?_)
                obtain ⟨M_115, V_115, h5_115, hRel, hPt, hKg, hP⟩ := hPP
                refine W.eq (g2 := F0 m 118 ls [.int (nI (fb_ct (mdS σ sl 0 2401 (growP (σ fr) (decide (y = nI 1))) sl) 2401))]) rfl ?_
                have e : growS σ (nI sl) (nI fr) y = mdS σ sl 0 2401 (growP (σ fr) (decide (y = nI 1))) := by simp [growS, c_4, c_11, hok, hcsl, hcfr]
                exact ret_wi hx hb hr hlocks dX2_grow_118 hS (⟨_, _, h5_115.trans h5, hRel.eq e, hPt, hKg, hP⟩) (by unfold growR; rw [e]; simp [gs, c_4, c_11, hok, hcsl])
              ·
                refine lv_aload_n hx hb dX2_grow_40 rfl (lv_at hl 0 rfl) ?_
                refine va_get (D := D) (ci := 2) (v := .ref (μ 7)) (C := RX2) (T := TX2) (N := 15) hx hb hts (by decide +kernel) hown hK hP 0 rfl rfl 6 (by decide) (hts (.fieldLink RX2 29 "SevenKeysModel" "made" "[Z") (by decide +kernel)) (fun _ h9 => h9) rfl dX2_grow_41 ?_
                refine lv_iload hx hb dX2_grow_44 (lv_at hl 4 rfl) ?_
                refine lv_iload_n hx hb dX2_grow_46 rfl (lv_at hl 3 rfl) ?_
                refine lv_iconst (v := nI 1) hx hb dX2_grow_47 (by decide) ?_
                refine lv_icmp_ne (tgt := 79) hx hb dX2_grow_48 (by decide) (fun c_48 => ?_) (fun c_48 => ?_)
                ·
                  refine lv_aload_n hx hb dX2_grow_79 rfl (lv_at hl 0 rfl) ?_
                  refine lv_iload_n hx hb dX2_grow_80 rfl (lv_at hl 2 rfl) ?_
                  refine lv_iload hx hb dX2_grow_81 (lv_at hl 4 rfl) ?_
                  refine rd_V S hl (c_X2_isIn l D cI cZ μ σ M1 V fr i (by omega) (by omega)) MB.hb gX2_grow_X2_isIn rfl rfl nf_X2_isIn rfl rfl dX2_grow_83 (MP.rc0 hMK hP) (MB.at hMK ⟨hRel, hPt, hKg, hP⟩) ?_
                  refine nv_ifz_eq (tgt := 105) hx hb dX2_grow_86 (by decide) (fun c_86 => ?_) (fun c_86 => ?_)
                  ·
                    refine lv_iconst (v := nI 0) hx hb dX2_grow_105 (by decide) ?_
                    refine nv_zast (x := false) hx hb hK hP hMK.D hS 7 1 rfl rfl (by omega) (by decide) dX2_grow_106 (fun H locs hP hS => ?_)
                    have hP : va_P D vwCl (mW cI cZ μ (va_up M1 7 (upd (M1 7) i (bI false))) V) H := hP
                    refine lv_iinc (v := nI (i + 1)) (lv' := [(4, .int (nI (i + 1))), (0, .ref (μ 0)), (1, .int (nI sl)), (2, .int (nI fr)), (3, .int y)]) hx hb dX2_grow_107 hl (k := 4) rfl (inc_nI _) (by decide) rfl (fun ls hl => ?_)
                    refine lv_goto (tgt := 32) hx hb dX2_grow_110 (by decide) ?_
                    exact ih_32 (i + 1) (va_up M1 7 (upd (M1 7) i (bI false))) (by omega) (by exact mk_step hm1 (congrArg bI (by unfold growP; first | (rw [decide_eq_true c_48, c_58, cc]; rfl) | (rw [decide_eq_true c_48, c_58]; rfl) | (rw [decide_eq_false c_48, c_86, cc]; rfl) | (rw [decide_eq_false c_48, c_86]; rfl)))) (by exact h5) (by omega) _ (by first | rfl | exact congrArg nI (by omega)) _ _ hS ⟨hRel, hPt, hKg, hP⟩ _ (lv_sub hl [1, 2, 3, 4, 0] rfl)
                  ·
                    refine lv_aload_n hx hb dX2_grow_89 rfl (lv_at hl 0 rfl) ?_
                    refine lv_iload_n hx hb dX2_grow_90 rfl (lv_at hl 2 rfl) ?_
                    refine lv_iload hx hb dX2_grow_91 (lv_at hl 4 rfl) ?_
                    refine rd_V S hl (c_X2_nextIn l D cI cZ μ σ M1 V fr i (by omega) (by omega)) MB.hb gX2_grow_X2_nextIn rfl rfl nf_X2_nextIn rfl rfl dX2_grow_93 (MP.rc0 hMK hP) (MB.at hMK ⟨hRel, hPt, hKg, hP⟩) ?_
                    refine lv_bipush (v := nI 6) hx hb dX2_grow_96 (by decide) ?_
                    refine nv_icmp_ne (tgt := 105) hx hb dX2_grow_98 (by decide) (by exact Nat.lt_of_le_of_lt (nbc_le _ _) (by decide)) (by omega) (fun c_98 => ?_) (fun c_98 => ?_)
                    ·
                      have cc : decide (nbc (σ fr) i = 6) = false := decide_eq_false c_98
                      refine lv_iconst (v := nI 0) hx hb dX2_grow_105 (by decide) ?_
                      refine nv_zast (x := false) hx hb hK hP hMK.D hS 7 1 rfl rfl (by omega) (by decide) dX2_grow_106 (fun H locs hP hS => ?_)
                      have hP : va_P D vwCl (mW cI cZ μ (va_up M1 7 (upd (M1 7) i (bI false))) V) H := hP
                      refine lv_iinc (v := nI (i + 1)) (lv' := [(4, .int (nI (i + 1))), (0, .ref (μ 0)), (1, .int (nI sl)), (2, .int (nI fr)), (3, .int y)]) hx hb dX2_grow_107 hl (k := 4) rfl (inc_nI _) (by decide) rfl (fun ls hl => ?_)
                      refine lv_goto (tgt := 32) hx hb dX2_grow_110 (by decide) ?_
                      exact ih_32 (i + 1) (va_up M1 7 (upd (M1 7) i (bI false))) (by omega) (by exact mk_step hm1 (congrArg bI (by unfold growP; first | (rw [decide_eq_true c_48, c_58, cc]; rfl) | (rw [decide_eq_true c_48, c_58]; rfl) | (rw [decide_eq_false c_48, c_86, cc]; rfl) | (rw [decide_eq_false c_48, c_86]; rfl)))) (by exact h5) (by omega) _ (by first | rfl | exact congrArg nI (by omega)) _ _ hS ⟨hRel, hPt, hKg, hP⟩ _ (lv_sub hl [1, 2, 3, 4, 0] rfl)
                    ·
                      have cc : decide (nbc (σ fr) i = 6) = true := decide_eq_true c_98
                      refine lv_iconst (v := nI 1) hx hb dX2_grow_101 (by decide) ?_
                      refine lv_goto (tgt := 106) hx hb dX2_grow_102 (by decide) ?_
                      refine nv_zast (x := true) hx hb hK hP hMK.D hS 7 1 rfl rfl (by omega) (by decide) dX2_grow_106 (fun H locs hP hS => ?_)
                      have hP : va_P D vwCl (mW cI cZ μ (va_up M1 7 (upd (M1 7) i (bI true))) V) H := hP
                      refine lv_iinc (v := nI (i + 1)) (lv' := [(4, .int (nI (i + 1))), (0, .ref (μ 0)), (1, .int (nI sl)), (2, .int (nI fr)), (3, .int y)]) hx hb dX2_grow_107 hl (k := 4) rfl (inc_nI _) (by decide) rfl (fun ls hl => ?_)
                      refine lv_goto (tgt := 32) hx hb dX2_grow_110 (by decide) ?_
                      exact ih_32 (i + 1) (va_up M1 7 (upd (M1 7) i (bI true))) (by omega) (by exact mk_step hm1 (congrArg bI (by unfold growP; first | (rw [decide_eq_true c_48, c_58, cc]; rfl) | (rw [decide_eq_true c_48, c_58]; rfl) | (rw [decide_eq_false c_48, c_86, cc]; rfl) | (rw [decide_eq_false c_48, c_86]; rfl)))) (by exact h5) (by omega) _ (by first | rfl | exact congrArg nI (by omega)) _ _ hS ⟨hRel, hPt, hKg, hP⟩ _ (lv_sub hl [1, 2, 3, 4, 0] rfl)
                ·
                  refine lv_aload_n hx hb dX2_grow_51 rfl (lv_at hl 0 rfl) ?_
                  refine lv_iload_n hx hb dX2_grow_52 rfl (lv_at hl 2 rfl) ?_
                  refine lv_iload hx hb dX2_grow_53 (lv_at hl 4 rfl) ?_
                  refine rd_V S hl (c_X2_isIn l D cI cZ μ σ M1 V fr i (by omega) (by omega)) MB.hb gX2_grow_X2_isIn rfl rfl nf_X2_isIn rfl rfl dX2_grow_55 (MP.rc0 hMK hP) (MB.at hMK ⟨hRel, hPt, hKg, hP⟩) ?_
                  refine nv_ifz_ne (tgt := 71) hx hb dX2_grow_58 (by decide) (fun c_58 => ?_) (fun c_58 => ?_)
                  ·
                    refine lv_iconst (v := nI 1) hx hb dX2_grow_71 (by decide) ?_
                    refine lv_goto (tgt := 106) hx hb dX2_grow_72 (by decide) ?_
                    refine nv_zast (x := true) hx hb hK hP hMK.D hS 7 1 rfl rfl (by omega) (by decide) dX2_grow_106 (fun H locs hP hS => ?_)
                    have hP : va_P D vwCl (mW cI cZ μ (va_up M1 7 (upd (M1 7) i (bI true))) V) H := hP
                    refine lv_iinc (v := nI (i + 1)) (lv' := [(4, .int (nI (i + 1))), (0, .ref (μ 0)), (1, .int (nI sl)), (2, .int (nI fr)), (3, .int y)]) hx hb dX2_grow_107 hl (k := 4) rfl (inc_nI _) (by decide) rfl (fun ls hl => ?_)
                    refine lv_goto (tgt := 32) hx hb dX2_grow_110 (by decide) ?_
                    exact ih_32 (i + 1) (va_up M1 7 (upd (M1 7) i (bI true))) (by omega) (by exact mk_step hm1 (congrArg bI (by unfold growP; first | (rw [decide_eq_true c_48, c_58, cc]; rfl) | (rw [decide_eq_true c_48, c_58]; rfl) | (rw [decide_eq_false c_48, c_86, cc]; rfl) | (rw [decide_eq_false c_48, c_86]; rfl)))) (by exact h5) (by omega) _ (by first | rfl | exact congrArg nI (by omega)) _ _ hS ⟨hRel, hPt, hKg, hP⟩ _ (lv_sub hl [1, 2, 3, 4, 0] rfl)
                  ·
                    refine lv_aload_n hx hb dX2_grow_61 rfl (lv_at hl 0 rfl) ?_
                    refine lv_iload_n hx hb dX2_grow_62 rfl (lv_at hl 2 rfl) ?_
                    refine lv_iload hx hb dX2_grow_63 (lv_at hl 4 rfl) ?_
                    refine rd_V S hl (c_X2_nextIn l D cI cZ μ σ M1 V fr i (by omega) (by omega)) MB.hb gX2_grow_X2_nextIn rfl rfl nf_X2_nextIn rfl rfl dX2_grow_65 (MP.rc0 hMK hP) (MB.at hMK ⟨hRel, hPt, hKg, hP⟩) ?_
                    refine lv_if_le (tgt := 75) hx hb dX2_grow_68 (by decide) (fun c_68 => ?_) (fun c_68 => ?_)
                    ·
                      have cc : decide (0 < nbc (σ fr) i) = false := decide_eq_false (fun q => absurd c_68 (nI_nle q (Nat.lt_of_le_of_lt (nbc_le _ _) (by decide))))
                      refine lv_iconst (v := nI 0) hx hb dX2_grow_75 (by decide) ?_
                      refine lv_goto (tgt := 106) hx hb dX2_grow_76 (by decide) ?_
                      refine nv_zast (x := false) hx hb hK hP hMK.D hS 7 1 rfl rfl (by omega) (by decide) dX2_grow_106 (fun H locs hP hS => ?_)
                      have hP : va_P D vwCl (mW cI cZ μ (va_up M1 7 (upd (M1 7) i (bI false))) V) H := hP
                      refine lv_iinc (v := nI (i + 1)) (lv' := [(4, .int (nI (i + 1))), (0, .ref (μ 0)), (1, .int (nI sl)), (2, .int (nI fr)), (3, .int y)]) hx hb dX2_grow_107 hl (k := 4) rfl (inc_nI _) (by decide) rfl (fun ls hl => ?_)
                      refine lv_goto (tgt := 32) hx hb dX2_grow_110 (by decide) ?_
                      exact ih_32 (i + 1) (va_up M1 7 (upd (M1 7) i (bI false))) (by omega) (by exact mk_step hm1 (congrArg bI (by unfold growP; first | (rw [decide_eq_true c_48, c_58, cc]; rfl) | (rw [decide_eq_true c_48, c_58]; rfl) | (rw [decide_eq_false c_48, c_86, cc]; rfl) | (rw [decide_eq_false c_48, c_86]; rfl)))) (by exact h5) (by omega) _ (by first | rfl | exact congrArg nI (by omega)) _ _ hS ⟨hRel, hPt, hKg, hP⟩ _ (lv_sub hl [1, 2, 3, 4, 0] rfl)
                    ·
                      have cc : decide (0 < nbc (σ fr) i) = true := decide_eq_true (Nat.pos_of_ne_zero (fun q => c_68 (by rw [q]; decide)))
                      refine lv_iconst (v := nI 1) hx hb dX2_grow_71 (by decide) ?_
                      refine lv_goto (tgt := 106) hx hb dX2_grow_72 (by decide) ?_
                      refine nv_zast (x := true) hx hb hK hP hMK.D hS 7 1 rfl rfl (by omega) (by decide) dX2_grow_106 (fun H locs hP hS => ?_)
                      have hP : va_P D vwCl (mW cI cZ μ (va_up M1 7 (upd (M1 7) i (bI true))) V) H := hP
                      refine lv_iinc (v := nI (i + 1)) (lv' := [(4, .int (nI (i + 1))), (0, .ref (μ 0)), (1, .int (nI sl)), (2, .int (nI fr)), (3, .int y)]) hx hb dX2_grow_107 hl (k := 4) rfl (inc_nI _) (by decide) rfl (fun ls hl => ?_)
                      refine lv_goto (tgt := 32) hx hb dX2_grow_110 (by decide) ?_
                      exact ih_32 (i + 1) (va_up M1 7 (upd (M1 7) i (bI true))) (by omega) (by exact mk_step hm1 (congrArg bI (by unfold growP; first | (rw [decide_eq_true c_48, c_58, cc]; rfl) | (rw [decide_eq_true c_48, c_58]; rfl) | (rw [decide_eq_false c_48, c_86, cc]; rfl) | (rw [decide_eq_false c_48, c_86]; rfl)))) (by exact h5) (by omega) _ (by first | rfl | exact congrArg nI (by omega)) _ _ hS ⟨hRel, hPt, hKg, hP⟩ _ (lv_sub hl [1, 2, 3, 4, 0] rfl)
          exact loop_32 (2401 - 0 + 1) 0 M (by omega) (by exact lt_0) (by rfl) (Nat.lt_succ_self _) _ rfl _ _ hS ⟨hRel, hPt, hKg, hP⟩ _ (lv_sub hl [1, 2, 3, 4, 0] rfl)
        ·
          refine lv_bipush (v := (-2)) hx hb dX2_grow_26 (by decide) ?_
          exact ret_wi hx hb hr hlocks dX2_grow_28 hS (⟨_, _, rfl, hRel.eq (by first | (simp [growS, gd, gs, c_4, c_11, growO, c_18, c_23]; done) | (simp [growS, gd, gs, c_4, c_11, growO, c_18]; done) | (simp [growS, gd, gs, c_4, c_11, growO]; done) | (simp [growS, gd, gs, c_4, c_11]; done) | (simp [growS, gd, gs, c_4]; done)), hPt, hKg, hP⟩) (by first | (simp [growR, gd, gs, c_4, c_11, growO, c_18, c_23]; done) | (simp [growR, gd, gs, c_4, c_11, growO, c_18]; done) | (simp [growR, gd, gs, c_4, c_11, growO]; done) | (simp [growR, gd, gs, c_4, c_11]; done) | (simp [growR, gd, gs, c_4]; done))
    ·
      refine lv_iconst (v := (-1)) hx hb dX2_grow_14 (by decide) ?_
      exact ret_wi hx hb hr hlocks dX2_grow_15 hS (⟨_, _, rfl, hRel.eq (by first | (simp [growS, gd, gs, c_4, c_11]; done) | (simp [growS, gd, gs, c_4]; done)), hPt, hKg, hP⟩) (by first | (simp [growR, gd, gs, c_4, c_11]; done) | (simp [growR, gd, gs, c_4]; done))
