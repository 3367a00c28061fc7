theorem nf_X1_put : nfOk yX1_put 4 := by unfold nfOk; decide +kernel
set_option maxHeartbeats 4000000 in
set_option maxRecDepth 100000 in
theorem c_X1_put (l : Launch) (D : va_G) (cI cZ : ClassId) (ρ : Nat → Nat) (ts : Nat) (σ : Nat → Nat → Bool) (κ : Int32) (mk : Nat → Int32) (qu : Nat → Int32) (a : Int32) (x : Int32) (y : Int32) (z : Int32) : Wr l yX1_put wsX1_put ({ frames := 2, cells := 0, slots := 0, locals := 45 }) [.ref (ρ 0), .int a, .int x, .int y, .int z] (XB D cI cZ ρ ts σ κ mk qu) (some (.int (putR σ a x y z))) (XS D cI ρ (putS σ a x y z) κ) (xA 7 ρ) := by
  refine met_in RX1 (by decide) rfl rfl (Nat.le_of_ble_eq_true rfl) ?_
  intro p e s m below meth c ls S hr hlocks hl hB
  have hx := S.1
  have hb := S.2.1
  have hml := S.2.2.1
  have hown := S.2.2.2.1
  have hts := S.2.2.2.2
  have hl : lv_has ls 8 [(0, .ref (ρ 0)), (1, .int a), (2, .int x), (3, .int y), (4, .int z)] := hl
  obtain ⟨⟨held, hRel, hP⟩, hXK⟩ := hB
  have hK := hXK.1
  have hS : va_S (xA 7 ρ) s.heap s.heap [] := va_S.rf
  refine lv_iload_n hx hb dX1_put_0 rfl (lv_at hl 1 rfl) ?_
  refine rd_S S hl (c_X1_isSlot l a) HB.tt gX1_put_X1_isSlot rfl nf_X1_isSlot rfl rfl dX1_put_1  (fun _ _ _ => trivial) ?_
  refine nv_ifz_ne (tgt := 9) hx hb dX1_put_4 (by decide) (fun c_4 => ?_) (fun c_4 => ?_)
  ·
    obtain ⟨sl, hsl, hxsl⟩ := wI_nat c_4 (by decide)
    subst hxsl
    have hcsl : (nI sl).toNatClampNeg = sl := nI_clamp (by omega)
    refine lv_iload_n hx hb dX1_put_9 rfl (lv_at hl 2 rfl) ?_
    refine rd_S S hl (c_X1_isKey l x) HB.tt gX1_put_X1_isKey rfl nf_X1_isKey rfl rfl dX1_put_10  (fun _ _ _ => trivial) ?_
    refine nv_ifz_eq (tgt := 33) hx hb dX1_put_13 (by decide) (fun c_13 => ?_) (fun c_13 => ?_)
    ·
      refine lv_bipush (v := (-2)) hx hb dX1_put_33 (by decide) ?_
      exact ret_wi hx hb hr hlocks dX1_put_35 hS (⟨_, _, held, hRel.eq (by first | (simp [putS, gd, gs, c_4, c_13, c_20, c_30]; done) | (simp [putS, gd, gs, c_4, c_13, c_20]; done) | (simp [putS, gd, gs, c_4, c_13]; done) | (simp [putS, gd, gs, c_4]; done)), hP⟩) (by first | (simp [putR, gd, gs, c_4, c_13, c_20, c_30]; done) | (simp [putR, gd, gs, c_4, c_13, c_20]; done) | (simp [putR, gd, gs, c_4, c_13]; done) | (simp [putR, gd, gs, c_4]; done))
    ·
      obtain ⟨k, hk, hxk⟩ := wI_nat c_13 (by decide)
      subst hxk
      have hck : (nI k).toNatClampNeg = k := nI_clamp (by omega)
      refine lv_iload_n hx hb dX1_put_16 rfl (lv_at hl 3 rfl) ?_
      refine rd_S S hl (c_X1_isLevel l y) HB.tt gX1_put_X1_isLevel rfl nf_X1_isLevel rfl rfl dX1_put_17  (fun _ _ _ => trivial) ?_
      refine nv_ifz_eq (tgt := 33) hx hb dX1_put_20 (by decide) (fun c_20 => ?_) (fun c_20 => ?_)
      ·
        refine lv_bipush (v := (-2)) hx hb dX1_put_33 (by decide) ?_
        exact ret_wi hx hb hr hlocks dX1_put_35 hS (⟨_, _, held, hRel.eq (by first | (simp [putS, gd, gs, c_4, c_13, c_20, c_30]; done) | (simp [putS, gd, gs, c_4, c_13, c_20]; done) | (simp [putS, gd, gs, c_4, c_13]; done) | (simp [putS, gd, gs, c_4]; done)), hP⟩) (by first | (simp [putR, gd, gs, c_4, c_13, c_20, c_30]; done) | (simp [putR, gd, gs, c_4, c_13, c_20]; done) | (simp [putR, gd, gs, c_4, c_13]; done) | (simp [putR, gd, gs, c_4]; done))
      ·
        obtain ⟨L, hL, hxL⟩ := wI_nat c_20 (by decide)
        subst hxL
        have hcL : (nI L).toNatClampNeg = L := nI_clamp (by omega)
        refine lv_iload hx hb dX1_put_23 (lv_at hl 4 rfl) ?_
        refine lv_iconst (v := nI 0) hx hb dX1_put_25 (by decide) ?_
        refine lv_iconst (v := nI 1) hx hb dX1_put_26 (by decide) ?_
        refine rd_S S hl (c_X1_within l z (nI 0) (nI 1)) HB.tt gX1_put_X1_within rfl nf_X1_within rfl rfl dX1_put_27  (fun _ _ _ => trivial) ?_
        refine nv_ifz_ne (tgt := 36) hx hb dX1_put_30 (by decide) (fun c_30 => ?_) (fun c_30 => ?_)
        ·
          obtain ⟨o, ho, hxo⟩ := wI_nat c_30 (by decide)
          subst hxo
          have hco : (nI o).toNatClampNeg = o := nI_clamp (by omega)
          refine lv_iload_n hx hb dX1_put_36 rfl (lv_at hl 2 rfl) ?_
          refine lv_iload_n hx hb dX1_put_37 rfl (lv_at hl 3 rfl) ?_
          refine rd_S S hl (c_X1_patchOf l k L (by omega) (by omega)) HB.tt gX1_put_X1_patchOf rfl nf_X1_patchOf rfl rfl dX1_put_38  (fun _ _ _ => trivial) ?_
          refine lv_istore (lv' := [(5, .int (nI (k / 7 ^ L * 7 ^ L))), (0, .ref (ρ 0)), (1, .int (nI sl)), (2, .int (nI k)), (3, .int (nI L)), (4, .int (nI o))]) hx hb dX1_put_41 hl (by decide) rfl (fun ls hl => ?_)
          refine lv_iload hx hb dX1_put_43 (lv_at hl 0 rfl) ?_
          refine lv_iload_n hx hb dX1_put_45 rfl (lv_at hl 4 rfl) ?_
          refine rd_S S hl (c_X1_patchSize l L (by omega)) HB.tt gX1_put_X1_patchSize rfl nf_X1_patchSize rfl rfl dX1_put_46  (fun _ _ _ => trivial) ?_
          refine lv_iadd hx hb dX1_put_49 ?_
          refine nv_as (nI (k / 7 ^ L * 7 ^ L + (7 ^ L))) (nI_add _ _) ?_
          refine lv_istore (lv' := [(6, .int (nI (k / 7 ^ L * 7 ^ L + (7 ^ L)))), (5, .int (nI (k / 7 ^ L * 7 ^ L))), (0, .ref (ρ 0)), (1, .int (nI sl)), (2, .int (nI k)), (3, .int (nI L)), (4, .int (nI o))]) hx hb dX1_put_50 hl (by decide) rfl (fun ls hl => ?_)
          refine lv_iload hx hb dX1_put_52 (lv_at hl 1 rfl) ?_
          refine lv_istore (lv' := [(7, .int (nI (k / 7 ^ L * 7 ^ L))), (6, .int (nI (k / 7 ^ L * 7 ^ L + (7 ^ L)))), (5, .int (nI (k / 7 ^ L * 7 ^ L))), (0, .ref (ρ 0)), (1, .int (nI sl)), (2, .int (nI k)), (3, .int (nI L)), (4, .int (nI o))]) hx hb dX1_put_54 hl (by decide) rfl (fun ls hl => ?_)
          have hp := pO_le (k := k) (L := L) (by omega) (by omega)
          have loop_56 : ∀ (n : Nat) (i : Nat), (i ≤ k / 7 ^ L * 7 ^ L + 7 ^ L) → (k / 7 ^ L * 7 ^ L ≤ i) → k / 7 ^ L * 7 ^ L + 7 ^ L - i < n → ∀ (x7 : Int32), x7 = nI i → ∀ (H : Heap) (locs : List Loc), va_S (xA 7 ρ) s.heap H locs → XP D cI ρ (mdS σ sl (k / 7 ^ L * 7 ^ L) i (fun _ => decide (o = 1))) κ mk qu H → ∀ ls : Array Slot, lv_has ls 8 [(0, .ref (ρ 0)), (1, .int (nI sl)), (2, .int (nI k)), (3, .int (nI L)), (4, .int (nI o)), (5, .int (nI (k / 7 ^ L * 7 ^ L))), (6, .int (nI (k / 7 ^ L * 7 ^ L + (7 ^ L)))), (7, .int x7)] → W p l e (headSpec wsX1_put ({ frames := 2, cells := 0, slots := 0, locals := 45 })).room s m [.ref (ρ 0), .int (nI sl), .int (nI k), .int (nI L), .int (nI o)].toArray below meth c H locs 0 0 (MQ below (qW (some (.int (putR σ (nI sl) (nI k) (nI L) (nI o)))) (XS D cI ρ (putS σ (nI sl) (nI k) (nI L) (nI o)) κ) (xA 7 ρ)) [.ref (ρ 0), .int (nI sl), .int (nI k), .int (nI L), .int (nI o)].toArray s 0 0 (xA 7 ρ)) (F0 m 56 ls []) := by
            intro n
            induction n with
            | zero => intro i hi hlo hm; exact absurd hm (Nat.not_lt_zero _)
            | succ n ih_56 =>
              intro i hi hlo hm_56 x7 e7 H locs hS hPP ls hl
              subst e7
              obtain ⟨held, hRel, hP⟩ := hPP
              refine lv_iload hx hb dX1_put_56 (lv_at hl 7 rfl) ?_
              refine lv_iload hx hb dX1_put_58 (lv_at hl 6 rfl) ?_
              refine nv_icmp_ge (tgt := 87) hx hb dX1_put_60 (by decide) (by omega) (by omega) (fun c_60 => ?_) (fun c_60 => ?_)
              ·
                refine lv_aload_n hx hb dX1_put_87 rfl (lv_at hl 0 rfl) ?_
                refine lv_iload_n hx hb dX1_put_88 rfl (lv_at hl 1 rfl) ?_
                refine rd_V S hl (c_X1_sizeOf l D cI cZ ρ ts (mdS σ sl (k / 7 ^ L * 7 ^ L) i (fun _ => decide (o = 1))) κ mk qu sl (by omega)) XB.hb gX1_put_X1_sizeOf rfl rfl nf_X1_sizeOf rfl rfl dX1_put_89 (XP.rc0 hXK hP) (XB.at hXK hS ⟨held, hRel, hP⟩) ?_
                have hi2 : i = k / 7 ^ L * 7 ^ L + 7 ^ L := by omega
                have e : putS σ (nI sl) (nI k) (nI L) (nI o) = mdS σ sl (k / 7 ^ L * 7 ^ L) i (fun _ => decide (o = 1)) := by rw [hi2]; simp [putS, pO, c_4, c_13, c_20, c_30, hcsl, hck, hcL, hco]
                exact ret_wi hx hb hr hlocks dX1_put_92 hS (⟨_, _, held, hRel.eq e, hP⟩) (by unfold putR; rw [e]; simp [gs, c_4, c_13, c_20, c_30, hcsl])
              ·
                refine lv_aload_n hx hb dX1_put_63 rfl (lv_at hl 0 rfl) ?_
                refine lv_iload_n hx hb dX1_put_64 rfl (lv_at hl 1 rfl) ?_
                refine lv_iload hx hb dX1_put_65 (lv_at hl 7 rfl) ?_
                refine lv_iload hx hb dX1_put_67 (lv_at hl 4 rfl) ?_
                refine lv_iconst (v := nI 1) hx hb dX1_put_69 (by decide) ?_
                refine nv_icmp_ne (tgt := 77) hx hb dX1_put_70 (by decide) (by omega) (by omega) (fun c_70 => ?_) (fun c_70 => ?_)
                ·
                  refine lv_iconst (v := nI 0) hx hb dX1_put_77 (by decide) ?_
                  refine wr_V S hl (c_X1_place l D cI cZ ρ ts (mdS σ sl (k / 7 ^ L * 7 ^ L) i (fun _ => decide (o = 1))) κ mk qu sl i false (by omega) (by omega)) XB.hb gX1_put_X1_place rfl rfl nf_X1_place rfl rfl dX1_put_78 (XP.rc0 hXK hP) (XB.at hXK hS ⟨held, hRel, hP⟩) hS (fun _ h => h) (fun H locs hPP hS _ hkp => ?_)
                  obtain ⟨held, hRel, hP⟩ := hPP
                  refine W.eq (g2 := F0 m 81 ls []) rfl ?_
                  refine lv_iinc (v := nI (i + 1)) (lv' := [(7, .int (nI (i + 1))), (0, .ref (ρ 0)), (1, .int (nI sl)), (2, .int (nI k)), (3, .int (nI L)), (4, .int (nI o)), (5, .int (nI (k / 7 ^ L * 7 ^ L))), (6, .int (nI (k / 7 ^ L * 7 ^ L + (7 ^ L))))]) hx hb dX1_put_81 hl (k := 7) rfl (inc_nI _) (by decide) rfl (fun ls hl => ?_)
                  refine lv_goto (tgt := 56) hx hb dX1_put_84 (by decide) ?_
                  exact ih_56 (i + 1) (by omega) (by omega) (by omega) _ (by first | rfl | exact congrArg nI (by omega)) _ _ hS ⟨held, hRel.eq (md_step (by simp [c_70]) (by omega)).symm, hP⟩ _ (lv_sub hl [1, 2, 3, 4, 5, 6, 7, 0] rfl)
                ·
                  refine lv_iconst (v := nI 1) hx hb dX1_put_73 (by decide) ?_
                  refine lv_goto (tgt := 78) hx hb dX1_put_74 (by decide) ?_
                  refine wr_V S hl (c_X1_place l D cI cZ ρ ts (mdS σ sl (k / 7 ^ L * 7 ^ L) i (fun _ => decide (o = 1))) κ mk qu sl i true (by omega) (by omega)) XB.hb gX1_put_X1_place rfl rfl nf_X1_place rfl rfl dX1_put_78 (XP.rc0 hXK hP) (XB.at hXK hS ⟨held, hRel, hP⟩) hS (fun _ h => h) (fun H locs hPP hS _ hkp => ?_)
                  obtain ⟨held, hRel, hP⟩ := hPP
                  refine W.eq (g2 := F0 m 81 ls []) rfl ?_
                  refine lv_iinc (v := nI (i + 1)) (lv' := [(7, .int (nI (i + 1))), (0, .ref (ρ 0)), (1, .int (nI sl)), (2, .int (nI k)), (3, .int (nI L)), (4, .int (nI o)), (5, .int (nI (k / 7 ^ L * 7 ^ L))), (6, .int (nI (k / 7 ^ L * 7 ^ L + (7 ^ L))))]) hx hb dX1_put_81 hl (k := 7) rfl (inc_nI _) (by decide) rfl (fun ls hl => ?_)
                  refine lv_goto (tgt := 56) hx hb dX1_put_84 (by decide) ?_
                  exact ih_56 (i + 1) (by omega) (by omega) (by omega) _ (by first | rfl | exact congrArg nI (by omega)) _ _ hS ⟨held, hRel.eq (md_step (by simp [c_70]) (by omega)).symm, hP⟩ _ (lv_sub hl [1, 2, 3, 4, 5, 6, 7, 0] rfl)
          exact loop_56 (k / 7 ^ L * 7 ^ L + 7 ^ L - (k / 7 ^ L * 7 ^ L) + 1) (k / 7 ^ L * 7 ^ L) (by exact Nat.le_add_right _ _) (by exact Nat.le_refl _) (Nat.lt_succ_self _) _ (by first | rfl | exact congrArg nI (by omega)) _ _ hS ⟨held, hRel.eq md_0, hP⟩ _ (lv_sub hl [3, 4, 5, 6, 7, 2, 1, 0] rfl)
        ·
          refine lv_bipush (v := (-2)) hx hb dX1_put_33 (by decide) ?_
          exact ret_wi hx hb hr hlocks dX1_put_35 hS (⟨_, _, held, hRel.eq (by first | (simp [putS, gd, gs, c_4, c_13, c_20, c_30]; done) | (simp [putS, gd, gs, c_4, c_13, c_20]; done) | (simp [putS, gd, gs, c_4, c_13]; done) | (simp [putS, gd, gs, c_4]; done)), hP⟩) (by first | (simp [putR, gd, gs, c_4, c_13, c_20, c_30]; done) | (simp [putR, gd, gs, c_4, c_13, c_20]; done) | (simp [putR, gd, gs, c_4, c_13]; done) | (simp [putR, gd, gs, c_4]; done))
  ·
    refine lv_iconst (v := (-1)) hx hb dX1_put_7 (by decide) ?_
    exact ret_wi hx hb hr hlocks dX1_put_8 hS (⟨_, _, held, hRel.eq (by first | (simp [putS, gd, gs, c_4, c_13, c_20, c_30]; done) | (simp [putS, gd, gs, c_4, c_13, c_20]; done) | (simp [putS, gd, gs, c_4, c_13]; done) | (simp [putS, gd, gs, c_4]; done)), hP⟩) (by first | (simp [putR, gd, gs, c_4, c_13, c_20, c_30]; done) | (simp [putR, gd, gs, c_4, c_13, c_20]; done) | (simp [putR, gd, gs, c_4, c_13]; done) | (simp [putR, gd, gs, c_4]; done))
theorem nf_X1_disk : nfOk yX1_disk 3 := by unfold nfOk; decide +kernel
set_option maxHeartbeats 4000000 in
set_option maxRecDepth 100000 in
theorem c_X1_disk (l : Launch) (D : va_G) (cI cZ : ClassId) (ρ : Nat → Nat) (ts : Nat) (σ : Nat → Nat → Bool) (κ : Int32) (mk : Nat → Int32) (qu : Nat → Int32) (a : Int32) (x : Int32) (y : Int32) : Wr l yX1_disk wsX1_disk ({ frames := 3, cells := 0, slots := 0, locals := 66 }) [.ref (ρ 0), .int a, .int x, .int y] (XB D cI cZ ρ ts σ κ mk qu) (some (.int (diskR σ a x y))) (XS D cI ρ (diskS σ a x y) κ) (xA 7 ρ) := by
  refine met_in RX1 (by decide) rfl rfl (Nat.le_of_ble_eq_true rfl) ?_
  intro p e s m below meth c ls S hr hlocks hl hB
  have hx := S.1
  have hb := S.2.1
  have hml := S.2.2.1
  have hown := S.2.2.2.1
  have hts := S.2.2.2.2
  have hl : lv_has ls 5 [(0, .ref (ρ 0)), (1, .int a), (2, .int x), (3, .int y)] := hl
  obtain ⟨⟨held, hRel, hP⟩, hXK⟩ := hB
  have hK := hXK.1
  have hS : va_S (xA 7 ρ) s.heap s.heap [] := va_S.rf
  refine lv_iload_n hx hb dX1_disk_0 rfl (lv_at hl 1 rfl) ?_
  refine rd_S S hl (c_X1_isSlot l a) HB.tt gX1_disk_X1_isSlot rfl nf_X1_isSlot rfl rfl dX1_disk_1  (fun _ _ _ => trivial) ?_
  refine nv_ifz_ne (tgt := 9) hx hb dX1_disk_4 (by decide) (fun c_4 => ?_) (fun c_4 => ?_)
  ·
    obtain ⟨sl, hsl, hxsl⟩ := wI_nat c_4 (by decide)
    subst hxsl
    have hcsl : (nI sl).toNatClampNeg = sl := nI_clamp (by omega)
    refine lv_iload_n hx hb dX1_disk_9 rfl (lv_at hl 2 rfl) ?_
    refine rd_S S hl (c_X1_isKey l x) HB.tt gX1_disk_X1_isKey rfl nf_X1_isKey rfl rfl dX1_disk_10  (fun _ _ _ => trivial) ?_
    refine nv_ifz_eq (tgt := 26) hx hb dX1_disk_13 (by decide) (fun c_13 => ?_) (fun c_13 => ?_)
    ·
      refine lv_bipush (v := (-2)) hx hb dX1_disk_26 (by decide) ?_
      exact ret_wi hx hb hr hlocks dX1_disk_28 hS (⟨_, _, held, hRel.eq (by first | (simp [diskS, gd, gs, c_4, c_13, c_23]; done) | (simp [diskS, gd, gs, c_4, c_13]; done) | (simp [diskS, gd, gs, c_4]; done)), hP⟩) (by first | (simp [diskR, gd, gs, c_4, c_13, c_23]; done) | (simp [diskR, gd, gs, c_4, c_13]; done) | (simp [diskR, gd, gs, c_4]; done))
    ·
      obtain ⟨k, hk, hxk⟩ := wI_nat c_13 (by decide)
      subst hxk
      have hck : (nI k).toNatClampNeg = k := nI_clamp (by omega)
      refine lv_iload_n hx hb dX1_disk_16 rfl (lv_at hl 3 rfl) ?_
      refine lv_iconst (v := nI 0) hx hb dX1_disk_17 (by decide) ?_
      refine lv_bipush (v := nI 70) hx hb dX1_disk_18 (by decide) ?_
      refine rd_S S hl (c_X1_within l y (nI 0) (nI 70)) HB.tt gX1_disk_X1_within rfl nf_X1_within rfl rfl dX1_disk_20  (fun _ _ _ => trivial) ?_
      refine nv_ifz_ne (tgt := 29) hx hb dX1_disk_23 (by decide) (fun c_23 => ?_) (fun c_23 => ?_)
      ·
        refine lv_iconst (v := nI 0) hx hb dX1_disk_29 (by decide) ?_
        refine lv_istore (lv' := [(4, .int (nI 0)), (0, .ref (ρ 0)), (1, .int (nI sl)), (2, .int (nI k)), (3, .int y)]) hx hb dX1_disk_30 hl (by decide) rfl (fun ls hl => ?_)
        have loop_32 : ∀ (n : Nat) (i : Nat), (i ≤ 2401) → 2401 - i < n → ∀ (x4 : Int32), x4 = nI i → ∀ (H : Heap) (locs : List Loc), va_S (xA 7 ρ) s.heap H locs → XP D cI ρ (mdS σ sl 0 i (fun j => decide (farI k j ≤ y))) κ mk qu H → ∀ ls : Array Slot, lv_has ls 5 [(0, .ref (ρ 0)), (1, .int (nI sl)), (2, .int (nI k)), (3, .int y), (4, .int x4)] → W p l e (headSpec wsX1_disk ({ frames := 3, cells := 0, slots := 0, locals := 66 })).room s m [.ref (ρ 0), .int (nI sl), .int (nI k), .int y].toArray below meth c H locs 0 0 (MQ below (qW (some (.int (diskR σ (nI sl) (nI k) y))) (XS D cI ρ (diskS σ (nI sl) (nI k) y) κ) (xA 7 ρ)) [.ref (ρ 0), .int (nI sl), .int (nI k), .int y].toArray s 0 0 (xA 7 ρ)) (F0 m 32 ls []) := by
          intro n
          induction n with
          | zero => intro i hi hm; exact absurd hm (Nat.not_lt_zero _)
          | succ n ih_32 =>
            intro i hi hm_32 x4 e4 H locs hS hPP ls hl
            subst e4
            obtain ⟨held, hRel, hP⟩ := hPP
            refine lv_iload hx hb dX1_disk_32 (lv_at hl 4 rfl) ?_
            refine lv_sipush (v := nI 2401) hx hb dX1_disk_34 (by decide) ?_
            refine nv_icmp_ge (tgt := 72) hx hb dX1_disk_37 (by decide) (by omega) (by omega) (fun c_37 => ?_) (fun c_37 => ?_)
            ·
              refine lv_aload_n hx hb dX1_disk_72 rfl (lv_at hl 0 rfl) ?_
              refine lv_iload_n hx hb dX1_disk_73 rfl (lv_at hl 1 rfl) ?_
              refine rd_V S hl (c_X1_sizeOf l D cI cZ ρ ts (mdS σ sl 0 i (fun j => decide (farI k j ≤ y))) κ mk qu sl (by omega)) XB.hb gX1_disk_X1_sizeOf rfl rfl nf_X1_sizeOf rfl rfl dX1_disk_74 (XP.rc0 hXK hP) (XB.at hXK hS ⟨held, hRel, hP⟩) ?_
              have hi2 : i = 2401 := by omega
              have e : diskS σ (nI sl) (nI k) y = mdS σ sl 0 i (fun j => decide (farI k j ≤ y)) := by rw [hi2]; simp [diskS, c_4, c_13, c_23, hcsl, hck]
              exact ret_wi hx hb hr hlocks dX1_disk_77 hS (⟨_, _, held, hRel.eq e, hP⟩) (by unfold diskR; rw [e]; simp [gs, c_4, c_13, c_23, hcsl])
            ·
              refine lv_aload_n hx hb dX1_disk_40 rfl (lv_at hl 0 rfl) ?_
              refine lv_iload_n hx hb dX1_disk_41 rfl (lv_at hl 1 rfl) ?_
              refine lv_iload hx hb dX1_disk_42 (lv_at hl 4 rfl) ?_
              refine lv_aload_n hx hb dX1_disk_44 rfl (lv_at hl 0 rfl) ?_
              refine va_get (D := D) (ci := 1) (v := .ref (ρ 1)) (C := RX1) (T := TX1) (N := 5) hx hb hts (by decide +kernel) hown hK hP 0 rfl rfl 0 (by decide) (hts (.fieldLink RX1 10 "SevenKeys" "sheet" "LSevenKeys$Sheet;") (by decide +kernel)) (fun _ h9 => h9) rfl dX1_disk_45 ?_
              refine lv_iload_n hx hb dX1_disk_48 rfl (lv_at hl 2 rfl) ?_
              refine lv_iload hx hb dX1_disk_49 (lv_at hl 4 rfl) ?_
              refine rd_V S hl (c_X0_stepsApart l D cI cZ ρ ts (mdS σ sl 0 i (fun j => decide (farI k j ≤ y))) κ mk qu k i (by omega) (by omega)) XB.hb gX1_disk_X0_stepsApart rfl rfl nf_X0_stepsApart rfl rfl dX1_disk_51 (XP.rc1 hXK hP) (XB.at hXK hS ⟨held, hRel, hP⟩) ?_
              refine lv_iload_n hx hb dX1_disk_54 rfl (lv_at hl 3 rfl) ?_
              refine lv_icmp_gt (tgt := 62) hx hb dX1_disk_55 (by decide) (fun c_55 => ?_) (fun c_55 => ?_)
              ·
                have cc : false = decide (farI k i ≤ y) := (decide_eq_false (Int32.not_le.mpr c_55)).symm
                refine lv_iconst (v := nI 0) hx hb dX1_disk_62 (by decide) ?_
                refine wr_V S hl (c_X1_place l D cI cZ ρ ts (mdS σ sl 0 i (fun j => decide (farI k j ≤ y))) κ mk qu sl i false (by omega) (by omega)) XB.hb gX1_disk_X1_place rfl rfl nf_X1_place rfl rfl dX1_disk_63 (XP.rc0 hXK hP) (XB.at hXK hS ⟨held, hRel, hP⟩) hS (fun _ h => h) (fun H locs hPP hS _ hkp => ?_)
                obtain ⟨held, hRel, hP⟩ := hPP
                refine W.eq (g2 := F0 m 66 ls []) rfl ?_
                refine lv_iinc (v := nI (i + 1)) (lv' := [(4, .int (nI (i + 1))), (0, .ref (ρ 0)), (1, .int (nI sl)), (2, .int (nI k)), (3, .int y)]) hx hb dX1_disk_66 hl (k := 4) rfl (inc_nI _) (by decide) rfl (fun ls hl => ?_)
                refine lv_goto (tgt := 32) hx hb dX1_disk_69 (by decide) ?_
                exact ih_32 (i + 1) (by omega) (by omega) _ (by first | rfl | exact congrArg nI (by omega)) _ _ hS ⟨held, hRel.eq (md_step cc (by omega)).symm, hP⟩ _ (lv_sub hl [1, 2, 3, 4, 0] rfl)
              ·
                have cc : true = decide (farI k i ≤ y) := (decide_eq_true (Int32.not_lt.mp c_55)).symm
                refine lv_iconst (v := nI 1) hx hb dX1_disk_58 (by decide) ?_
                refine lv_goto (tgt := 63) hx hb dX1_disk_59 (by decide) ?_
                refine wr_V S hl (c_X1_place l D cI cZ ρ ts (mdS σ sl 0 i (fun j => decide (farI k j ≤ y))) κ mk qu sl i true (by omega) (by omega)) XB.hb gX1_disk_X1_place rfl rfl nf_X1_place rfl rfl dX1_disk_63 (XP.rc0 hXK hP) (XB.at hXK hS ⟨held, hRel, hP⟩) hS (fun _ h => h) (fun H locs hPP hS _ hkp => ?_)
                obtain ⟨held, hRel, hP⟩ := hPP
                refine W.eq (g2 := F0 m 66 ls []) rfl ?_
                refine lv_iinc (v := nI (i + 1)) (lv' := [(4, .int (nI (i + 1))), (0, .ref (ρ 0)), (1, .int (nI sl)), (2, .int (nI k)), (3, .int y)]) hx hb dX1_disk_66 hl (k := 4) rfl (inc_nI _) (by decide) rfl (fun ls hl => ?_)
                refine lv_goto (tgt := 32) hx hb dX1_disk_69 (by decide) ?_
                exact ih_32 (i + 1) (by omega) (by omega) _ (by first | rfl | exact congrArg nI (by omega)) _ _ hS ⟨held, hRel.eq (md_step cc (by omega)).symm, hP⟩ _ (lv_sub hl [1, 2, 3, 4, 0] rfl)
        exact loop_32 (2401 - 0 + 1) 0 (by omega) (Nat.lt_succ_self _) _ rfl _ _ hS ⟨held, hRel.eq md_0, hP⟩ _ (lv_sub hl [1, 2, 3, 4, 0] rfl)
      ·
        refine lv_bipush (v := (-2)) hx hb dX1_disk_26 (by decide) ?_
        exact ret_wi hx hb hr hlocks dX1_disk_28 hS (⟨_, _, held, hRel.eq (by first | (simp [diskS, gd, gs, c_4, c_13, c_23]; done) | (simp [diskS, gd, gs, c_4, c_13]; done) | (simp [diskS, gd, gs, c_4]; done)), hP⟩) (by first | (simp [diskR, gd, gs, c_4, c_13, c_23]; done) | (simp [diskR, gd, gs, c_4, c_13]; done) | (simp [diskR, gd, gs, c_4]; done))
  ·
    refine lv_iconst (v := (-1)) hx hb dX1_disk_7 (by decide) ?_
    exact ret_wi hx hb hr hlocks dX1_disk_8 hS (⟨_, _, held, hRel.eq (by first | (simp [diskS, gd, gs, c_4, c_13, c_23]; done) | (simp [diskS, gd, gs, c_4, c_13]; done) | (simp [diskS, gd, gs, c_4]; done)), hP⟩) (by first | (simp [diskR, gd, gs, c_4, c_13, c_23]; done) | (simp [diskR, gd, gs, c_4, c_13]; done) | (simp [diskR, gd, gs, c_4]; done))
theorem nf_X1_join : nfOk yX1_join 4 := by unfold nfOk; decide +kernel
set_option maxHeartbeats 4000000 in
set_option maxRecDepth 100000 in
theorem c_X1_join (l : Launch) (D : va_G) (cI cZ : ClassId) (ρ : Nat → Nat) (ts : Nat) (σ : Nat → Nat → Bool) (κ : Int32) (mk : Nat → Int32) (qu : Nat → Int32) (a : Int32) (b : Int32) (d : Int32) (y : Int32) : Wr l yX1_join wsX1_join ({ frames := 2, cells := 0, slots := 0, locals := 45 }) [.ref (ρ 0), .int a, .int b, .int d, .int y] (XB D cI cZ ρ ts σ κ mk qu) (some (.int (joinR σ a b d y))) (XS D cI ρ (joinS σ a b d y) κ) (xA 7 ρ) := by
  refine met_in RX1 (by decide) rfl rfl (Nat.le_of_ble_eq_true rfl) ?_
  intro p e s m below meth c ls S hr hlocks hl hB
  have hx := S.1
  have hb := S.2.1
  have hml := S.2.2.1
  have hown := S.2.2.2.1
  have hts := S.2.2.2.2
  have hl : lv_has ls 6 [(0, .ref (ρ 0)), (1, .int a), (2, .int b), (3, .int d), (4, .int y)] := hl
  obtain ⟨⟨held, hRel, hP⟩, hXK⟩ := hB
  have hK := hXK.1
  have hS : va_S (xA 7 ρ) s.heap s.heap [] := va_S.rf
  refine lv_iload_n hx hb dX1_join_0 rfl (lv_at hl 1 rfl) ?_
  refine rd_S S hl (c_X1_isSlot l a) HB.tt gX1_join_X1_isSlot rfl nf_X1_isSlot rfl rfl dX1_join_1  (fun _ _ _ => trivial) ?_
  refine nv_ifz_eq (tgt := 21) hx hb dX1_join_4 (by decide) (fun c_4 => ?_) (fun c_4 => ?_)
  ·
    refine lv_iconst (v := (-1)) hx hb dX1_join_21 (by decide) ?_
    exact ret_wi hx hb hr hlocks dX1_join_22 hS (⟨_, _, held, hRel.eq (by first | (simp [joinS, gd, gs, c_4, c_11, c_18, c_30]; done) | (simp [joinS, gd, gs, c_4, c_11, c_18]; done) | (simp [joinS, gd, gs, c_4, c_11]; done) | (simp [joinS, gd, gs, c_4]; done)), hP⟩) (by first | (simp [joinR, gd, gs, c_4, c_11, c_18, c_30]; done) | (simp [joinR, gd, gs, c_4, c_11, c_18]; done) | (simp [joinR, gd, gs, c_4, c_11]; done) | (simp [joinR, gd, gs, c_4]; done))
  ·
    obtain ⟨sl, hsl, hxsl⟩ := wI_nat c_4 (by decide)
    subst hxsl
    have hcsl : (nI sl).toNatClampNeg = sl := nI_clamp (by omega)
    refine lv_iload_n hx hb dX1_join_7 rfl (lv_at hl 2 rfl) ?_
    refine rd_S S hl (c_X1_isSlot l b) HB.tt gX1_join_X1_isSlot rfl nf_X1_isSlot rfl rfl dX1_join_8  (fun _ _ _ => trivial) ?_
    refine nv_ifz_eq (tgt := 21) hx hb dX1_join_11 (by decide) (fun c_11 => ?_) (fun c_11 => ?_)
    ·
      refine lv_iconst (v := (-1)) hx hb dX1_join_21 (by decide) ?_
      exact ret_wi hx hb hr hlocks dX1_join_22 hS (⟨_, _, held, hRel.eq (by first | (simp [joinS, gd, gs, c_4, c_11, c_18, c_30]; done) | (simp [joinS, gd, gs, c_4, c_11, c_18]; done) | (simp [joinS, gd, gs, c_4, c_11]; done) | (simp [joinS, gd, gs, c_4]; done)), hP⟩) (by first | (simp [joinR, gd, gs, c_4, c_11, c_18, c_30]; done) | (simp [joinR, gd, gs, c_4, c_11, c_18]; done) | (simp [joinR, gd, gs, c_4, c_11]; done) | (simp [joinR, gd, gs, c_4]; done))
    ·
      obtain ⟨s1, hs1, hxs1⟩ := wI_nat c_11 (by decide)
      subst hxs1
      have hcs1 : (nI s1).toNatClampNeg = s1 := nI_clamp (by omega)
      refine lv_iload_n hx hb dX1_join_14 rfl (lv_at hl 3 rfl) ?_
      refine rd_S S hl (c_X1_isSlot l d) HB.tt gX1_join_X1_isSlot rfl nf_X1_isSlot rfl rfl dX1_join_15  (fun _ _ _ => trivial) ?_
      refine nv_ifz_ne (tgt := 23) hx hb dX1_join_18 (by decide) (fun c_18 => ?_) (fun c_18 => ?_)
      ·
        obtain ⟨s2, hs2, hxs2⟩ := wI_nat c_18 (by decide)
        subst hxs2
        have hcs2 : (nI s2).toNatClampNeg = s2 := nI_clamp (by omega)
        refine lv_iload hx hb dX1_join_23 (lv_at hl 4 rfl) ?_
        refine lv_iconst (v := nI 0) hx hb dX1_join_25 (by decide) ?_
        refine lv_iconst (v := nI 3) hx hb dX1_join_26 (by decide) ?_
        refine rd_S S hl (c_X1_within l y (nI 0) (nI 3)) HB.tt gX1_join_X1_within rfl nf_X1_within rfl rfl dX1_join_27  (fun _ _ _ => trivial) ?_
        refine nv_ifz_ne (tgt := 36) hx hb dX1_join_30 (by decide) (fun c_30 => ?_) (fun c_30 => ?_)
        ·
          obtain ⟨w, hw, hxw⟩ := wI_nat c_30 (by decide)
          subst hxw
          have hcw : (nI w).toNatClampNeg = w := nI_clamp (by omega)
          refine lv_iconst (v := nI 0) hx hb dX1_join_36 (by decide) ?_
          refine lv_istore (lv' := [(5, .int (nI 0)), (0, .ref (ρ 0)), (1, .int (nI sl)), (2, .int (nI s1)), (3, .int (nI s2)), (4, .int (nI w))]) hx hb dX1_join_37 hl (by decide) rfl (fun ls hl => ?_)
          have loop_39 : ∀ (n : Nat) (i : Nat), (i ≤ 2401) → 2401 - i < n → ∀ (x5 : Int32), x5 = nI i → ∀ (H : Heap) (locs : List Loc), va_S (xA 7 ρ) s.heap H locs → XP D cI ρ (mdS σ sl 0 i (fun j => jn (σ s1 j) (σ s2 j) w)) κ mk qu H → ∀ ls : Array Slot, lv_has ls 6 [(0, .ref (ρ 0)), (1, .int (nI sl)), (2, .int (nI s1)), (3, .int (nI s2)), (4, .int (nI w)), (5, .int x5)] → W p l e (headSpec wsX1_join ({ frames := 2, cells := 0, slots := 0, locals := 45 })).room s m [.ref (ρ 0), .int (nI sl), .int (nI s1), .int (nI s2), .int (nI w)].toArray below meth c H locs 0 0 (MQ below (qW (some (.int (joinR σ (nI sl) (nI s1) (nI s2) (nI w)))) (XS D cI ρ (joinS σ (nI sl) (nI s1) (nI s2) (nI w)) κ) (xA 7 ρ)) [.ref (ρ 0), .int (nI sl), .int (nI s1), .int (nI s2), .int (nI w)].toArray s 0 0 (xA 7 ρ)) (F0 m 39 ls []) := by
            intro n
            induction n with
            | zero => intro i hi hm; exact absurd hm (Nat.not_lt_zero _)
            | succ n ih_39 =>
              intro i hi hm_39 x5 e5 H locs hS hPP ls hl
              subst e5
              obtain ⟨held, hRel, hP⟩ := hPP
              refine lv_iload hx hb dX1_join_39 (lv_at hl 5 rfl) ?_
              refine lv_sipush (v := nI 2401) hx hb dX1_join_41 (by decide) ?_
              refine nv_icmp_ge (tgt := 79) hx hb dX1_join_44 (by decide) (by omega) (by omega) (fun c_44 => ?_) (fun c_44 => ?_)
              ·
                refine lv_aload_n hx hb dX1_join_79 rfl (lv_at hl 0 rfl) ?_
                refine lv_iload_n hx hb dX1_join_80 rfl (lv_at hl 1 rfl) ?_
                refine rd_V S hl (c_X1_sizeOf l D cI cZ ρ ts (mdS σ sl 0 i (fun j => jn (σ s1 j) (σ s2 j) w)) κ mk qu sl (by omega)) XB.hb gX1_join_X1_sizeOf rfl rfl nf_X1_sizeOf rfl rfl dX1_join_81 (XP.rc0 hXK hP) (XB.at hXK hS ⟨held, hRel, hP⟩) ?_
                have hi2 : i = 2401 := by omega
                have e : joinS σ (nI sl) (nI s1) (nI s2) (nI w) = mdS σ sl 0 i (fun j => jn (σ s1 j) (σ s2 j) w) := by rw [hi2]; simp [joinS, c_4, c_11, c_18, c_30, hcsl, hcs1, hcs2, hcw]
                exact ret_wi hx hb hr hlocks dX1_join_84 hS (⟨_, _, held, hRel.eq e, hP⟩) (by unfold joinR; rw [e]; simp [gs, c_4, c_11, c_18, c_30, hcsl])
              ·
                refine lv_aload_n hx hb dX1_join_47 rfl (lv_at hl 0 rfl) ?_
                refine lv_iload_n hx hb dX1_join_48 rfl (lv_at hl 1 rfl) ?_
                refine lv_iload hx hb dX1_join_49 (lv_at hl 5 rfl) ?_
                refine lv_aload_n hx hb dX1_join_51 rfl (lv_at hl 0 rfl) ?_
                refine lv_iload_n hx hb dX1_join_52 rfl (lv_at hl 2 rfl) ?_
                refine lv_iload hx hb dX1_join_53 (lv_at hl 5 rfl) ?_
                refine rd_V S hl (c_X1_holds l D cI cZ ρ ts (mdS σ sl 0 i (fun j => jn (σ s1 j) (σ s2 j) w)) κ mk qu s1 (some i) (by omega) (by exact fun j h => by first | exact nbo_lt h | (cases h; omega))) XB.hb gX1_join_X1_holds rfl rfl nf_X1_holds rfl rfl dX1_join_55 (XP.rc0 hXK hP) (XB.at hXK hS ⟨held, hRel, hP⟩) ?_
                refine nv_as (bI ((mdS σ sl 0 i (fun j => jn (σ s1 j) (σ s2 j) w)) s1 i)) rfl ?_
                refine lv_aload_n hx hb dX1_join_58 rfl (lv_at hl 0 rfl) ?_
                refine lv_iload_n hx hb dX1_join_59 rfl (lv_at hl 3 rfl) ?_
                refine lv_iload hx hb dX1_join_60 (lv_at hl 5 rfl) ?_
                refine rd_V S hl (c_X1_holds l D cI cZ ρ ts (mdS σ sl 0 i (fun j => jn (σ s1 j) (σ s2 j) w)) κ mk qu s2 (some i) (by omega) (by exact fun j h => by first | exact nbo_lt h | (cases h; omega))) XB.hb gX1_join_X1_holds rfl rfl nf_X1_holds rfl rfl dX1_join_62 (XP.rc0 hXK hP) (XB.at hXK hS ⟨held, hRel, hP⟩) ?_
                refine nv_as (bI ((mdS σ sl 0 i (fun j => jn (σ s1 j) (σ s2 j) w)) s2 i)) rfl ?_
                refine lv_iload hx hb dX1_join_65 (lv_at hl 4 rfl) ?_
                refine rd_S S hl (c_X1_joined l ((mdS σ sl 0 i (fun j => jn (σ s1 j) (σ s2 j) w)) s1 i) ((mdS σ sl 0 i (fun j => jn (σ s1 j) (σ s2 j) w)) s2 i) w (by omega)) HB.tt gX1_join_X1_joined rfl nf_X1_joined rfl rfl dX1_join_67  (fun _ _ _ => trivial) ?_
                refine wr_V S hl (c_X1_place l D cI cZ ρ ts (mdS σ sl 0 i (fun j => jn (σ s1 j) (σ s2 j) w)) κ mk qu sl i (jn ((mdS σ sl 0 i (fun j => jn (σ s1 j) (σ s2 j) w)) s1 i) ((mdS σ sl 0 i (fun j => jn (σ s1 j) (σ s2 j) w)) s2 i) w) (by omega) (by omega)) XB.hb gX1_join_X1_place rfl rfl nf_X1_place rfl rfl dX1_join_70 (XP.rc0 hXK hP) (XB.at hXK hS ⟨held, hRel, hP⟩) hS (fun _ h => h) (fun H locs hPP hS _ hkp => ?_)
                obtain ⟨held, hRel, hP⟩ := hPP
                refine W.eq (g2 := F0 m 73 ls []) rfl ?_
                refine lv_iinc (v := nI (i + 1)) (lv' := [(5, .int (nI (i + 1))), (0, .ref (ρ 0)), (1, .int (nI sl)), (2, .int (nI s1)), (3, .int (nI s2)), (4, .int (nI w))]) hx hb dX1_join_73 hl (k := 5) rfl (inc_nI _) (by decide) rfl (fun ls hl => ?_)
                refine lv_goto (tgt := 39) hx hb dX1_join_76 (by decide) ?_
                exact ih_39 (i + 1) (by omega) (by omega) _ (by first | rfl | exact congrArg nI (by omega)) _ _ hS ⟨held, hRel.eq (md_step (by rw [md_ge _ (Nat.le_refl i), md_ge _ (Nat.le_refl i)]) (by omega)).symm, hP⟩ _ (lv_sub hl [1, 2, 3, 4, 5, 0] rfl)
          exact loop_39 (2401 - 0 + 1) 0 (by omega) (Nat.lt_succ_self _) _ rfl _ _ hS ⟨held, hRel.eq md_0, hP⟩ _ (lv_sub hl [1, 2, 3, 4, 5, 0] rfl)
        ·
          refine lv_bipush (v := (-2)) hx hb dX1_join_33 (by decide) ?_
          exact ret_wi hx hb hr hlocks dX1_join_35 hS (⟨_, _, held, hRel.eq (by first | (simp [joinS, gd, gs, c_4, c_11, c_18, c_30]; done) | (simp [joinS, gd, gs, c_4, c_11, c_18]; done) | (simp [joinS, gd, gs, c_4, c_11]; done) | (simp [joinS, gd, gs, c_4]; done)), hP⟩) (by first | (simp [joinR, gd, gs, c_4, c_11, c_18, c_30]; done) | (simp [joinR, gd, gs, c_4, c_11, c_18]; done) | (simp [joinR, gd, gs, c_4, c_11]; done) | (simp [joinR, gd, gs, c_4]; done))
      ·
        refine lv_iconst (v := (-1)) hx hb dX1_join_21 (by decide) ?_
        exact ret_wi hx hb hr hlocks dX1_join_22 hS (⟨_, _, held, hRel.eq (by first | (simp [joinS, gd, gs, c_4, c_11, c_18, c_30]; done) | (simp [joinS, gd, gs, c_4, c_11, c_18]; done) | (simp [joinS, gd, gs, c_4, c_11]; done) | (simp [joinS, gd, gs, c_4]; done)), hP⟩) (by first | (simp [joinR, gd, gs, c_4, c_11, c_18, c_30]; done) | (simp [joinR, gd, gs, c_4, c_11, c_18]; done) | (simp [joinR, gd, gs, c_4, c_11]; done) | (simp [joinR, gd, gs, c_4]; done))
theorem nf_X1_grow : nfOk yX1_grow 3 := by unfold nfOk; decide +kernel
set_option maxHeartbeats 4000000 in
set_option maxRecDepth 100000 in
theorem c_X1_grow (l : Launch) (D : va_G) (cI cZ : ClassId) (ρ : Nat → Nat) (ts : Nat) (σ : Nat → Nat → Bool) (κ : Int32) (mk : Nat → Int32) (qu : Nat → Int32) (a : Int32) (b : Int32) (y : Int32) : Wr l yX1_grow wsX1_grow ({ frames := 4, cells := 0, slots := 0, locals := 89 }) [.ref (ρ 0), .int a, .int b, .int y] (XB D cI cZ ρ ts σ κ mk qu) (some (.int (growR σ a b y))) (XS D cI ρ (growS σ a b y) κ) (xA 7 ρ) := by
  refine met_in RX1 (by decide) rfl rfl (Nat.le_of_ble_eq_true rfl) ?_
  intro p e s m below meth c ls S hr hlocks hl hB
  have hx := S.1
  have hb := S.2.1
  have hml := S.2.2.1
  have hown := S.2.2.2.1
  have hts := S.2.2.2.2
  have hl : lv_has ls 6 [(0, .ref (ρ 0)), (1, .int a), (2, .int b), (3, .int y)] := hl
  obtain ⟨⟨held, hRel, hP⟩, hXK⟩ := hB
  have hK := hXK.1
  have hS : va_S (xA 7 ρ) s.heap s.heap [] := va_S.rf
  refine lv_iload_n hx hb dX1_grow_0 rfl (lv_at hl 1 rfl) ?_
  refine rd_S S hl (c_X1_isSlot l a) HB.tt gX1_grow_X1_isSlot rfl nf_X1_isSlot rfl rfl dX1_grow_1  (fun _ _ _ => trivial) ?_
  refine nv_ifz_eq (tgt := 14) hx hb dX1_grow_4 (by decide) (fun c_4 => ?_) (fun c_4 => ?_)
  ·
    refine lv_iconst (v := (-1)) hx hb dX1_grow_14 (by decide) ?_
    exact ret_wi hx hb hr hlocks dX1_grow_15 hS (⟨_, _, held, hRel.eq (by first | (simp [growS, gd, gs, c_4, c_11]; done) | (simp [growS, gd, gs, c_4]; done)), hP⟩) (by first | (simp [growR, gd, gs, c_4, c_11]; done) | (simp [growR, gd, gs, c_4]; done))
  ·
    obtain ⟨sl, hsl, hxsl⟩ := wI_nat c_4 (by decide)
    subst hxsl
    have hcsl : (nI sl).toNatClampNeg = sl := nI_clamp (by omega)
    refine lv_iload_n hx hb dX1_grow_7 rfl (lv_at hl 2 rfl) ?_
    refine rd_S S hl (c_X1_isSlot l b) HB.tt gX1_grow_X1_isSlot rfl nf_X1_isSlot rfl rfl dX1_grow_8  (fun _ _ _ => trivial) ?_
    refine nv_ifz_ne (tgt := 16) hx hb dX1_grow_11 (by decide) (fun c_11 => ?_) (fun c_11 => ?_)
    ·
      obtain ⟨fr, hfr, hxfr⟩ := wI_nat c_11 (by decide)
      subst hxfr
      have hcfr : (nI fr).toNatClampNeg = fr := nI_clamp (by omega)
      refine lv_iload_n hx hb dX1_grow_16 rfl (lv_at hl 3 rfl) ?_
      refine lv_iconst (v := nI 1) hx hb dX1_grow_17 (by decide) ?_
      refine lv_icmp_eq (tgt := 29) hx hb dX1_grow_18 (by decide) (fun c_18 => ?_) (fun c_18 => ?_)
      ·
        have hok : growO y = true := by simp [growO, c_18]
        refine lv_iconst (v := nI 0) hx hb dX1_grow_29 (by decide) ?_
        refine lv_istore (lv' := [(4, .int (nI 0)), (0, .ref (ρ 0)), (1, .int (nI sl)), (2, .int (nI fr)), (3, .int y)]) hx hb dX1_grow_30 hl (by decide) rfl (fun ls hl => ?_)
        have loop_32 : ∀ (n : Nat) (i : Nat) (m1 : Nat → Int32), (i ≤ 2401) → (∀ j, j < i → m1 j = bI (growP (σ fr) (decide (y = nI 1)) j)) → 2401 - i < n → ∀ (x4 : Int32), x4 = nI i → ∀ (H : Heap) (locs : List Loc), va_S (xA 7 ρ) s.heap H locs → XP D cI ρ σ κ m1 qu H → ∀ ls : Array Slot, lv_has ls 6 [(0, .ref (ρ 0)), (1, .int (nI sl)), (2, .int (nI fr)), (3, .int y), (4, .int x4)] → W p l e (headSpec wsX1_grow ({ frames := 4, cells := 0, slots := 0, locals := 89 })).room s m [.ref (ρ 0), .int (nI sl), .int (nI fr), .int y].toArray below meth c H locs 0 0 (MQ below (qW (some (.int (growR σ (nI sl) (nI fr) y))) (XS D cI ρ (growS σ (nI sl) (nI fr) y) κ) (xA 7 ρ)) [.ref (ρ 0), .int (nI sl), .int (nI fr), .int y].toArray s 0 0 (xA 7 ρ)) (F0 m 32 ls []) := by
          intro n
          induction n with
          | zero => intro i m1 hi hmk hm; exact absurd hm (Nat.not_lt_zero _)
          | succ n ih_32 =>
            intro i m1 hi hmk hm_32 x4 e4 H locs hS hPP ls hl
            subst e4
            obtain ⟨held, hRel, hP⟩ := hPP
            refine lv_iload hx hb dX1_grow_32 (lv_at hl 4 rfl) ?_
            refine lv_aload_n hx hb dX1_grow_34 rfl (lv_at hl 0 rfl) ?_
            refine va_get (D := D) (ci := 1) (v := .ref (ρ 3)) (C := RX1) (T := TX1) (N := 5) hx hb hts (by decide +kernel) hown hK hP 0 rfl rfl 3 (by decide) (hts (.fieldLink RX1 24 "SevenKeys" "marks" "[I") (by decide +kernel)) (fun _ h9 => h9) rfl dX1_grow_35 ?_
            refine va_alen hx hb hK hP 3 0 rfl rfl (v := nI 2401) rfl dX1_grow_38 ?_
            refine nv_icmp_ge (tgt := 89) hx hb dX1_grow_39 (by decide) (by omega) (by omega) (fun c_39 => ?_) (fun c_39 => ?_)
            ·
              refine lv_iconst (v := nI 0) hx hb dX1_grow_89 (by decide) ?_
              refine lv_istore (lv' := [(4, .int (nI 0)), (0, .ref (ρ 0)), (1, .int (nI sl)), (2, .int (nI fr)), (3, .int y)]) hx hb dX1_grow_90 hl (by decide) rfl (fun ls hl => ?_)
              have hmk : ∀ j, j < 2401 → m1 j = bI (growP (σ fr) (decide (y = nI 1)) j) := fun j hj => hmk j (by omega)
              have loop_92 : ∀ (n : Nat) (i : Nat), (i ≤ 2401) → 2401 - i < n → ∀ (x4 : Int32), x4 = nI i → ∀ (H : Heap) (locs : List Loc), va_S (xA 7 ρ) s.heap H locs → XP D cI ρ (mdS σ sl 0 i (growP (σ fr) (decide (y = nI 1)))) κ m1 qu H → ∀ ls : Array Slot, lv_has ls 6 [(0, .ref (ρ 0)), (1, .int (nI sl)), (2, .int (nI fr)), (3, .int y), (4, .int x4)] → W p l e (headSpec wsX1_grow ({ frames := 4, cells := 0, slots := 0, locals := 89 })).room s m [.ref (ρ 0), .int (nI sl), .int (nI fr), .int y].toArray below meth c H locs 0 0 (MQ below (qW (some (.int (growR σ (nI sl) (nI fr) y))) (XS D cI ρ (growS σ (nI sl) (nI fr) y) κ) (xA 7 ρ)) [.ref (ρ 0), .int (nI sl), .int (nI fr), .int y].toArray s 0 0 (xA 7 ρ)) (F0 m 92 ls []) := by
                intro n
                induction n with
                | zero => intro i hi hm; exact absurd hm (Nat.not_lt_zero _)
                | succ n ih_92 =>
                  intro i hi hm_92 x4 e4 H locs hS hPP ls hl
                  subst e4
                  obtain ⟨held, hRel, hP⟩ := hPP
                  refine lv_iload hx hb dX1_grow_92 (lv_at hl 4 rfl) ?_
                  refine lv_aload_n hx hb dX1_grow_94 rfl (lv_at hl 0 rfl) ?_
                  refine va_get (D := D) (ci := 1) (v := .ref (ρ 3)) (C := RX1) (T := TX1) (N := 5) hx hb hts (by decide +kernel) hown hK hP 0 rfl rfl 3 (by decide) (hts (.fieldLink RX1 24 "SevenKeys" "marks" "[I") (by decide +kernel)) (fun _ h9 => h9) rfl dX1_grow_95 ?_
                  refine va_alen hx hb hK hP 3 0 rfl rfl (v := nI 2401) rfl dX1_grow_98 ?_
                  refine nv_icmp_ge (tgt := 131) hx hb dX1_grow_99 (by decide) (by omega) (by omega) (fun c_99 => ?_) (fun c_99 => ?_)
                  ·
                    refine lv_aload_n hx hb dX1_grow_131 rfl (lv_at hl 0 rfl) ?_
                    refine lv_iload_n hx hb dX1_grow_132 rfl (lv_at hl 1 rfl) ?_
                    refine rd_V S hl (c_X1_sizeOf l D cI cZ ρ ts (mdS σ sl 0 i (growP (σ fr) (decide (y = nI 1)))) κ m1 qu sl (by omega)) XB.hb gX1_grow_X1_sizeOf rfl rfl nf_X1_sizeOf rfl rfl dX1_grow_133 (XP.rc0 hXK hP) (XB.at hXK hS ⟨held, hRel, hP⟩) ?_
                    have hi2 : i = 2401 := by omega
                    have e : growS σ (nI sl) (nI fr) y = mdS σ sl 0 i (growP (σ fr) (decide (y = nI 1))) := by rw [hi2]; simp [growS, c_4, c_11, hok, hcsl, hcfr]
                    exact ret_wi hx hb hr hlocks dX1_grow_136 hS (⟨_, _, held, hRel.eq e, hP⟩) (by unfold growR; rw [e]; simp [gs, c_4, c_11, hok, hcsl])
                  ·
                    refine lv_aload_n hx hb dX1_grow_102 rfl (lv_at hl 0 rfl) ?_
                    refine lv_iload_n hx hb dX1_grow_103 rfl (lv_at hl 1 rfl) ?_
                    refine lv_iload hx hb dX1_grow_104 (lv_at hl 4 rfl) ?_
                    refine lv_aload_n hx hb dX1_grow_106 rfl (lv_at hl 0 rfl) ?_
                    refine va_get (D := D) (ci := 1) (v := .ref (ρ 3)) (C := RX1) (T := TX1) (N := 5) hx hb hts (by decide +kernel) hown hK hP 0 rfl rfl 3 (by decide) (hts (.fieldLink RX1 24 "SevenKeys" "marks" "[I") (by decide +kernel)) (fun _ h9 => h9) rfl dX1_grow_107 ?_
                    refine lv_iload hx hb dX1_grow_110 (lv_at hl 4 rfl) ?_
                    refine nv_iald hx hb hK hP 3 0 rfl rfl (by omega) (by decide) dX1_grow_112 ?_
                    refine nv_as (bI (growP (σ fr) (decide (y = nI 1)) i)) (by exact hmk i (by omega)) ?_
                    refine lv_iconst (v := nI 1) hx hb dX1_grow_113 (by decide) ?_
                    refine lv_icmp_ne (tgt := 121) hx hb dX1_grow_114 (by decide) (fun c_114 => ?_) (fun c_114 => ?_)
                    ·
                      have cc := bI_not1 c_114
                      refine lv_iconst (v := nI 0) hx hb dX1_grow_121 (by decide) ?_
                      refine wr_V S hl (c_X1_place l D cI cZ ρ ts (mdS σ sl 0 i (growP (σ fr) (decide (y = nI 1)))) κ m1 qu sl i false (by omega) (by omega)) XB.hb gX1_grow_X1_place rfl rfl nf_X1_place rfl rfl dX1_grow_122 (XP.rc0 hXK hP) (XB.at hXK hS ⟨held, hRel, hP⟩) hS (fun _ h => h) (fun H locs hPP hS _ hkp => ?_)
                      obtain ⟨held, hRel, hP⟩ := hPP
                      refine W.eq (g2 := F0 m 125 ls []) rfl ?_
                      refine lv_iinc (v := nI (i + 1)) (lv' := [(4, .int (nI (i + 1))), (0, .ref (ρ 0)), (1, .int (nI sl)), (2, .int (nI fr)), (3, .int y)]) hx hb dX1_grow_125 hl (k := 4) rfl (inc_nI _) (by decide) rfl (fun ls hl => ?_)
                      refine lv_goto (tgt := 92) hx hb dX1_grow_128 (by decide) ?_
                      exact ih_92 (i + 1) (by omega) (by omega) _ (by first | rfl | exact congrArg nI (by omega)) _ _ hS ⟨held, hRel.eq (md_step (by rw [cc]) (by omega)).symm, hP⟩ _ (lv_sub hl [1, 2, 3, 4, 0] rfl)
                    ·
                      have cc := bI_is1 c_114
                      refine lv_iconst (v := nI 1) hx hb dX1_grow_117 (by decide) ?_
                      refine lv_goto (tgt := 122) hx hb dX1_grow_118 (by decide) ?_
                      refine wr_V S hl (c_X1_place l D cI cZ ρ ts (mdS σ sl 0 i (growP (σ fr) (decide (y = nI 1)))) κ m1 qu sl i true (by omega) (by omega)) XB.hb gX1_grow_X1_place rfl rfl nf_X1_place rfl rfl dX1_grow_122 (XP.rc0 hXK hP) (XB.at hXK hS ⟨held, hRel, hP⟩) hS (fun _ h => h) (fun H locs hPP hS _ hkp => ?_)
                      obtain ⟨held, hRel, hP⟩ := hPP
                      refine W.eq (g2 := F0 m 125 ls []) rfl ?_
                      refine lv_iinc (v := nI (i + 1)) (lv' := [(4, .int (nI (i + 1))), (0, .ref (ρ 0)), (1, .int (nI sl)), (2, .int (nI fr)), (3, .int y)]) hx hb dX1_grow_125 hl (k := 4) rfl (inc_nI _) (by decide) rfl (fun ls hl => ?_)
                      refine lv_goto (tgt := 92) hx hb dX1_grow_128 (by decide) ?_
                      exact ih_92 (i + 1) (by omega) (by omega) _ (by first | rfl | exact congrArg nI (by omega)) _ _ hS ⟨held, hRel.eq (md_step (by rw [cc]) (by omega)).symm, hP⟩ _ (lv_sub hl [1, 2, 3, 4, 0] rfl)
              exact loop_92 (2401 - 0 + 1) 0 (by omega) (Nat.lt_succ_self _) _ rfl _ _ hS ⟨held, hRel.eq md_0, hP⟩ _ (lv_sub hl [1, 2, 3, 4, 0] rfl)
            ·
              refine lv_iload_n hx hb dX1_grow_42 rfl (lv_at hl 3 rfl) ?_
              refine lv_iconst (v := nI 1) hx hb dX1_grow_43 (by decide) ?_
              refine lv_icmp_ne (tgt := 57) hx hb dX1_grow_44 (by decide) (fun c_44 => ?_) (fun c_44 => ?_)
              ·
                refine lv_aload_n hx hb dX1_grow_57 rfl (lv_at hl 0 rfl) ?_
                refine lv_iload_n hx hb dX1_grow_58 rfl (lv_at hl 2 rfl) ?_
                refine lv_iload hx hb dX1_grow_59 (lv_at hl 4 rfl) ?_
                refine rd_V S hl (c_X1_isDeepIn l D cI cZ ρ ts σ κ m1 qu fr i (by omega) (by omega)) XB.hb gX1_grow_X1_isDeepIn rfl rfl nf_X1_isDeepIn rfl rfl dX1_grow_61 (XP.rc0 hXK hP) (XB.at hXK hS ⟨held, hRel, hP⟩) ?_
                refine lv_istore (lv' := [(5, .int (bI (σ fr i && decide (nbc (σ fr) i = 6)))), (0, .ref (ρ 0)), (1, .int (nI sl)), (2, .int (nI fr)), (3, .int y), (4, .int (nI i))]) hx hb dX1_grow_64 hl (by decide) rfl (fun ls hl => ?_)
                refine lv_aload_n hx hb dX1_grow_66 rfl (lv_at hl 1 rfl) ?_
                refine va_get (D := D) (ci := 1) (v := .ref (ρ 3)) (C := RX1) (T := TX1) (N := 5) hx hb hts (by decide +kernel) hown hK hP 0 rfl rfl 3 (by decide) (hts (.fieldLink RX1 24 "SevenKeys" "marks" "[I") (by decide +kernel)) (fun _ h9 => h9) rfl dX1_grow_67 ?_
                refine lv_iload hx hb dX1_grow_70 (lv_at hl 5 rfl) ?_
                refine lv_iload hx hb dX1_grow_72 (lv_at hl 0 rfl) ?_
                refine nv_ifz_eq (tgt := 81) hx hb dX1_grow_74 (by decide) (fun c_74 => ?_) (fun c_74 => ?_)
                ·
                  refine lv_iconst (v := nI 0) hx hb dX1_grow_81 (by decide) ?_
                  refine nv_iast hx hb hK hP hXK.D hS 3 0 rfl rfl (by omega) (by decide) dX1_grow_82 (fun H locs hP hS => ?_)
                  have hP : va_P D vwCl (xW cI ρ held κ (upd m1 i (nI 0)) qu) H := hP
                  refine lv_iinc (v := nI (i + 1)) (lv' := [(4, .int (nI (i + 1))), (5, .int (bI (σ fr i && decide (nbc (σ fr) i = 6)))), (0, .ref (ρ 0)), (1, .int (nI sl)), (2, .int (nI fr)), (3, .int y)]) hx hb dX1_grow_83 hl (k := 5) rfl (inc_nI _) (by decide) rfl (fun ls hl => ?_)
                  refine lv_goto (tgt := 32) hx hb dX1_grow_86 (by decide) ?_
                  exact ih_32 (i + 1) (upd m1 i (nI 0)) (by omega) (by exact mk_step hmk (by unfold growP; first | (rw [decide_eq_true c_44]; exact congrArg bI c_74.symm) | (rw [decide_eq_false c_44]; exact congrArg bI c_74.symm))) (by omega) _ (by first | rfl | exact congrArg nI (by omega)) _ _ hS ⟨held, hRel, hP⟩ _ (lv_sub hl [2, 3, 4, 5, 0] rfl)
                ·
                  refine lv_iconst (v := nI 1) hx hb dX1_grow_77 (by decide) ?_
                  refine lv_goto (tgt := 82) hx hb dX1_grow_78 (by decide) ?_
                  refine nv_iast hx hb hK hP hXK.D hS 3 0 rfl rfl (by omega) (by decide) dX1_grow_82 (fun H locs hP hS => ?_)
                  have hP : va_P D vwCl (xW cI ρ held κ (upd m1 i (nI 1)) qu) H := hP
                  refine lv_iinc (v := nI (i + 1)) (lv' := [(4, .int (nI (i + 1))), (5, .int (bI (σ fr i && decide (nbc (σ fr) i = 6)))), (0, .ref (ρ 0)), (1, .int (nI sl)), (2, .int (nI fr)), (3, .int y)]) hx hb dX1_grow_83 hl (k := 5) rfl (inc_nI _) (by decide) rfl (fun ls hl => ?_)
                  refine lv_goto (tgt := 32) hx hb dX1_grow_86 (by decide) ?_
                  exact ih_32 (i + 1) (upd m1 i (nI 1)) (by omega) (by exact mk_step hmk (by unfold growP; first | (rw [decide_eq_true c_44]; exact congrArg bI c_74.symm) | (rw [decide_eq_false c_44]; exact congrArg bI c_74.symm))) (by omega) _ (by first | rfl | exact congrArg nI (by omega)) _ _ hS ⟨held, hRel, hP⟩ _ (lv_sub hl [2, 3, 4, 5, 0] rfl)
              ·
                refine lv_aload_n hx hb dX1_grow_47 rfl (lv_at hl 0 rfl) ?_
                refine lv_iload_n hx hb dX1_grow_48 rfl (lv_at hl 2 rfl) ?_
                refine lv_iload hx hb dX1_grow_49 (lv_at hl 4 rfl) ?_
                refine rd_V S hl (c_X1_isOfOrNextTo l D cI cZ ρ ts σ κ m1 qu fr i (by omega) (by omega)) XB.hb gX1_grow_X1_isOfOrNextTo rfl rfl nf_X1_isOfOrNextTo rfl rfl dX1_grow_51 (XP.rc0 hXK hP) (XB.at hXK hS ⟨held, hRel, hP⟩) ?_
                refine lv_goto (tgt := 64) hx hb dX1_grow_54 (by decide) ?_
                refine lv_istore (lv' := [(5, .int (bI (σ fr i || decide (0 < nbc (σ fr) i)))), (0, .ref (ρ 0)), (1, .int (nI sl)), (2, .int (nI fr)), (3, .int y), (4, .int (nI i))]) hx hb dX1_grow_64 hl (by decide) rfl (fun ls hl => ?_)
                refine lv_aload_n hx hb dX1_grow_66 rfl (lv_at hl 1 rfl) ?_
                refine va_get (D := D) (ci := 1) (v := .ref (ρ 3)) (C := RX1) (T := TX1) (N := 5) hx hb hts (by decide +kernel) hown hK hP 0 rfl rfl 3 (by decide) (hts (.fieldLink RX1 24 "SevenKeys" "marks" "[I") (by decide +kernel)) (fun _ h9 => h9) rfl dX1_grow_67 ?_
                refine lv_iload hx hb dX1_grow_70 (lv_at hl 5 rfl) ?_
                refine lv_iload hx hb dX1_grow_72 (lv_at hl 0 rfl) ?_
                refine nv_ifz_eq (tgt := 81) hx hb dX1_grow_74 (by decide) (fun c_74 => ?_) (fun c_74 => ?_)
                ·
                  refine lv_iconst (v := nI 0) hx hb dX1_grow_81 (by decide) ?_
                  refine nv_iast hx hb hK hP hXK.D hS 3 0 rfl rfl (by omega) (by decide) dX1_grow_82 (fun H locs hP hS => ?_)
                  have hP : va_P D vwCl (xW cI ρ held κ (upd m1 i (nI 0)) qu) H := hP
                  refine lv_iinc (v := nI (i + 1)) (lv' := [(4, .int (nI (i + 1))), (5, .int (bI (σ fr i || decide (0 < nbc (σ fr) i)))), (0, .ref (ρ 0)), (1, .int (nI sl)), (2, .int (nI fr)), (3, .int y)]) hx hb dX1_grow_83 hl (k := 5) rfl (inc_nI _) (by decide) rfl (fun ls hl => ?_)
                  refine lv_goto (tgt := 32) hx hb dX1_grow_86 (by decide) ?_
                  exact ih_32 (i + 1) (upd m1 i (nI 0)) (by omega) (by exact mk_step hmk (by unfold growP; first | (rw [decide_eq_true c_44]; exact congrArg bI c_74.symm) | (rw [decide_eq_false c_44]; exact congrArg bI c_74.symm))) (by omega) _ (by first | rfl | exact congrArg nI (by omega)) _ _ hS ⟨held, hRel, hP⟩ _ (lv_sub hl [2, 3, 4, 5, 0] rfl)
                ·
                  refine lv_iconst (v := nI 1) hx hb dX1_grow_77 (by decide) ?_
                  refine lv_goto (tgt := 82) hx hb dX1_grow_78 (by decide) ?_
                  refine nv_iast hx hb hK hP hXK.D hS 3 0 rfl rfl (by omega) (by decide) dX1_grow_82 (fun H locs hP hS => ?_)
                  have hP : va_P D vwCl (xW cI ρ held κ (upd m1 i (nI 1)) qu) H := hP
                  refine lv_iinc (v := nI (i + 1)) (lv' := [(4, .int (nI (i + 1))), (5, .int (bI (σ fr i || decide (0 < nbc (σ fr) i)))), (0, .ref (ρ 0)), (1, .int (nI sl)), (2, .int (nI fr)), (3, .int y)]) hx hb dX1_grow_83 hl (k := 5) rfl (inc_nI _) (by decide) rfl (fun ls hl => ?_)
                  refine lv_goto (tgt := 32) hx hb dX1_grow_86 (by decide) ?_
                  exact ih_32 (i + 1) (upd m1 i (nI 1)) (by omega) (by exact mk_step hmk (by unfold growP; first | (rw [decide_eq_true c_44]; exact congrArg bI c_74.symm) | (rw [decide_eq_false c_44]; exact congrArg bI c_74.symm))) (by omega) _ (by first | rfl | exact congrArg nI (by omega)) _ _ hS ⟨held, hRel, hP⟩ _ (lv_sub hl [2, 3, 4, 5, 0] rfl)
        exact loop_32 (2401 - 0 + 1) 0 mk (by omega) (by exact lt_0) (Nat.lt_succ_self _) _ rfl _ _ hS ⟨held, hRel, hP⟩ _ (lv_sub hl [1, 2, 3, 4, 0] rfl)
      ·
        refine lv_iload_n hx hb dX1_grow_21 rfl (lv_at hl 3 rfl) ?_
        refine lv_iconst (v := (-1)) hx hb dX1_grow_22 (by decide) ?_
        refine lv_icmp_eq (tgt := 29) hx hb dX1_grow_23 (by decide) (fun c_23 => ?_) (fun c_23 => ?_)
        ·
          have hok : growO y = true := by simp [growO, c_23]
          refine lv_iconst (v := nI 0) hx hb dX1_grow_29 (by decide) ?_
          refine lv_istore (lv' := [(4, .int (nI 0)), (0, .ref (ρ 0)), (1, .int (nI sl)), (2, .int (nI fr)), (3, .int y)]) hx hb dX1_grow_30 hl (by decide) rfl (fun ls hl => ?_)
          have loop_32 : ∀ (n : Nat) (i : Nat) (m1 : Nat → Int32), (i ≤ 2401) → (∀ j, j < i → m1 j = bI (growP (σ fr) (decide (y = nI 1)) j)) → 2401 - i < n → ∀ (x4 : Int32), x4 = nI i → ∀ (H : Heap) (locs : List Loc), va_S (xA 7 ρ) s.heap H locs → XP D cI ρ σ κ m1 qu H → ∀ ls : Array Slot, lv_has ls 6 [(0, .ref (ρ 0)), (1, .int (nI sl)), (2, .int (nI fr)), (3, .int y), (4, .int x4)] → W p l e (headSpec wsX1_grow ({ frames := 4, cells := 0, slots := 0, locals := 89 })).room s m [.ref (ρ 0), .int (nI sl), .int (nI fr), .int y].toArray below meth c H locs 0 0 (MQ below (qW (some (.int (growR σ (nI sl) (nI fr) y))) (XS D cI ρ (growS σ (nI sl) (nI fr) y) κ) (xA 7 ρ)) [.ref (ρ 0), .int (nI sl), .int (nI fr), .int y].toArray s 0 0 (xA 7 ρ)) (F0 m 32 ls []) := by
            intro n
            induction n with
            | zero => intro i m1 hi hmk hm; exact absurd hm (Nat.not_lt_zero _)
            | succ n ih_32 =>
              intro i m1 hi hmk hm_32 x4 e4 H locs hS hPP ls hl
              subst e4
              obtain ⟨held, hRel, hP⟩ := hPP
              refine lv_iload hx hb dX1_grow_32 (lv_at hl 4 rfl) ?_
              refine lv_aload_n hx hb dX1_grow_34 rfl (lv_at hl 0 rfl) ?_
              refine va_get (D := D) (ci := 1) (v := .ref (ρ 3)) (C := RX1) (T := TX1) (N := 5) hx hb hts (by decide +kernel) hown hK hP 0 rfl rfl 3 (by decide) (hts (.fieldLink RX1 24 "SevenKeys" "marks" "[I") (by decide +kernel)) (fun _ h9 => h9) rfl dX1_grow_35 ?_
              refine va_alen hx hb hK hP 3 0 rfl rfl (v := nI 2401) rfl dX1_grow_38 ?_
              refine nv_icmp_ge (tgt := 89) hx hb dX1_grow_39 (by decide) (by omega) (by omega) (fun c_39 => ?_) (fun c_39 => ?_)
              ·
                refine lv_iconst (v := nI 0) hx hb dX1_grow_89 (by decide) ?_
                refine lv_istore (lv' := [(4, .int (nI 0)), (0, .ref (ρ 0)), (1, .int (nI sl)), (2, .int (nI fr)), (3, .int y)]) hx hb dX1_grow_90 hl (by decide) rfl (fun ls hl => ?_)
                have hmk : ∀ j, j < 2401 → m1 j = bI (growP (σ fr) (decide (y = nI 1)) j) := fun j hj => hmk j (by omega)
                have loop_92 : ∀ (n : Nat) (i : Nat), (i ≤ 2401) → 2401 - i < n → ∀ (x4 : Int32), x4 = nI i → ∀ (H : Heap) (locs : List Loc), va_S (xA 7 ρ) s.heap H locs → XP D cI ρ (mdS σ sl 0 i (growP (σ fr) (decide (y = nI 1)))) κ m1 qu H → ∀ ls : Array Slot, lv_has ls 6 [(0, .ref (ρ 0)), (1, .int (nI sl)), (2, .int (nI fr)), (3, .int y), (4, .int x4)] → W p l e (headSpec wsX1_grow ({ frames := 4, cells := 0, slots := 0, locals := 89 })).room s m [.ref (ρ 0), .int (nI sl), .int (nI fr), .int y].toArray below meth c H locs 0 0 (MQ below (qW (some (.int (growR σ (nI sl) (nI fr) y))) (XS D cI ρ (growS σ (nI sl) (nI fr) y) κ) (xA 7 ρ)) [.ref (ρ 0), .int (nI sl), .int (nI fr), .int y].toArray s 0 0 (xA 7 ρ)) (F0 m 92 ls []) := by
                  intro n
                  induction n with
                  | zero => intro i hi hm; exact absurd hm (Nat.not_lt_zero _)
                  | succ n ih_92 =>
                    intro i hi hm_92 x4 e4 H locs hS hPP ls hl
                    subst e4
                    obtain ⟨held, hRel, hP⟩ := hPP
                    refine lv_iload hx hb dX1_grow_92 (lv_at hl 4 rfl) ?_
                    refine lv_aload_n hx hb dX1_grow_94 rfl (lv_at hl 0 rfl) ?_
                    refine va_get (D := D) (ci := 1) (v := .ref (ρ 3)) (C := RX1) (T := TX1) (N := 5) hx hb hts (by decide +kernel) hown hK hP 0 rfl rfl 3 (by decide) (hts (.fieldLink RX1 24 "SevenKeys" "marks" "[I") (by decide +kernel)) (fun _ h9 => h9) rfl dX1_grow_95 ?_
                    refine va_alen hx hb hK hP 3 0 rfl rfl (v := nI 2401) rfl dX1_grow_98 ?_
                    refine nv_icmp_ge (tgt := 131) hx hb dX1_grow_99 (by decide) (by omega) (by omega) (fun c_99 => ?_) (fun c_99 => ?_)
                    ·
                      refine lv_aload_n hx hb dX1_grow_131 rfl (lv_at hl 0 rfl) ?_
                      refine lv_iload_n hx hb dX1_grow_132 rfl (lv_at hl 1 rfl) ?_
                      refine rd_V S hl (c_X1_sizeOf l D cI cZ ρ ts (mdS σ sl 0 i (growP (σ fr) (decide (y = nI 1)))) κ m1 qu sl (by omega)) XB.hb gX1_grow_X1_sizeOf rfl rfl nf_X1_sizeOf rfl rfl dX1_grow_133 (XP.rc0 hXK hP) (XB.at hXK hS ⟨held, hRel, hP⟩) ?_
                      have hi2 : i = 2401 := by omega
                      have e : growS σ (nI sl) (nI fr) y = mdS σ sl 0 i (growP (σ fr) (decide (y = nI 1))) := by rw [hi2]; simp [growS, c_4, c_11, hok, hcsl, hcfr]
                      exact ret_wi hx hb hr hlocks dX1_grow_136 hS (⟨_, _, held, hRel.eq e, hP⟩) (by unfold growR; rw [e]; simp [gs, c_4, c_11, hok, hcsl])
                    ·
                      refine lv_aload_n hx hb dX1_grow_102 rfl (lv_at hl 0 rfl) ?_
                      refine lv_iload_n hx hb dX1_grow_103 rfl (lv_at hl 1 rfl) ?_
                      refine lv_iload hx hb dX1_grow_104 (lv_at hl 4 rfl) ?_
                      refine lv_aload_n hx hb dX1_grow_106 rfl (lv_at hl 0 rfl) ?_
                      refine va_get (D := D) (ci := 1) (v := .ref (ρ 3)) (C := RX1) (T := TX1) (N := 5) hx hb hts (by decide +kernel) hown hK hP 0 rfl rfl 3 (by decide) (hts (.fieldLink RX1 24 "SevenKeys" "marks" "[I") (by decide +kernel)) (fun _ h9 => h9) rfl dX1_grow_107 ?_
                      refine lv_iload hx hb dX1_grow_110 (lv_at hl 4 rfl) ?_
                      refine nv_iald hx hb hK hP 3 0 rfl rfl (by omega) (by decide) dX1_grow_112 ?_
                      refine nv_as (bI (growP (σ fr) (decide (y = nI 1)) i)) (by exact hmk i (by omega)) ?_
                      refine lv_iconst (v := nI 1) hx hb dX1_grow_113 (by decide) ?_
                      refine lv_icmp_ne (tgt := 121) hx hb dX1_grow_114 (by decide) (fun c_114 => ?_) (fun c_114 => ?_)
                      ·
                        have cc := bI_not1 c_114
                        refine lv_iconst (v := nI 0) hx hb dX1_grow_121 (by decide) ?_
                        refine wr_V S hl (c_X1_place l D cI cZ ρ ts (mdS σ sl 0 i (growP (σ fr) (decide (y = nI 1)))) κ m1 qu sl i false (by omega) (by omega)) XB.hb gX1_grow_X1_place rfl rfl nf_X1_place rfl rfl dX1_grow_122 (XP.rc0 hXK hP) (XB.at hXK hS ⟨held, hRel, hP⟩) hS (fun _ h => h) (fun H locs hPP hS _ hkp => ?_)
                        obtain ⟨held, hRel, hP⟩ := hPP
                        refine W.eq (g2 := F0 m 125 ls []) rfl ?_
                        refine lv_iinc (v := nI (i + 1)) (lv' := [(4, .int (nI (i + 1))), (0, .ref (ρ 0)), (1, .int (nI sl)), (2, .int (nI fr)), (3, .int y)]) hx hb dX1_grow_125 hl (k := 4) rfl (inc_nI _) (by decide) rfl (fun ls hl => ?_)
                        refine lv_goto (tgt := 92) hx hb dX1_grow_128 (by decide) ?_
                        exact ih_92 (i + 1) (by omega) (by omega) _ (by first | rfl | exact congrArg nI (by omega)) _ _ hS ⟨held, hRel.eq (md_step (by rw [cc]) (by omega)).symm, hP⟩ _ (lv_sub hl [1, 2, 3, 4, 0] rfl)
                      ·
                        have cc := bI_is1 c_114
                        refine lv_iconst (v := nI 1) hx hb dX1_grow_117 (by decide) ?_
                        refine lv_goto (tgt := 122) hx hb dX1_grow_118 (by decide) ?_
                        refine wr_V S hl (c_X1_place l D cI cZ ρ ts (mdS σ sl 0 i (growP (σ fr) (decide (y = nI 1)))) κ m1 qu sl i true (by omega) (by omega)) XB.hb gX1_grow_X1_place rfl rfl nf_X1_place rfl rfl dX1_grow_122 (XP.rc0 hXK hP) (XB.at hXK hS ⟨held, hRel, hP⟩) hS (fun _ h => h) (fun H locs hPP hS _ hkp => ?_)
                        obtain ⟨held, hRel, hP⟩ := hPP
                        refine W.eq (g2 := F0 m 125 ls []) rfl ?_
                        refine lv_iinc (v := nI (i + 1)) (lv' := [(4, .int (nI (i + 1))), (0, .ref (ρ 0)), (1, .int (nI sl)), (2, .int (nI fr)), (3, .int y)]) hx hb dX1_grow_125 hl (k := 4) rfl (inc_nI _) (by decide) rfl (fun ls hl => ?_)
                        refine lv_goto (tgt := 92) hx hb dX1_grow_128 (by decide) ?_
                        exact ih_92 (i + 1) (by omega) (by omega) _ (by first | rfl | exact congrArg nI (by omega)) _ _ hS ⟨held, hRel.eq (md_step (by rw [cc]) (by omega)).symm, hP⟩ _ (lv_sub hl [1, 2, 3, 4, 0] rfl)
                exact loop_92 (2401 - 0 + 1) 0 (by omega) (Nat.lt_succ_self _) _ rfl _ _ hS ⟨held, hRel.eq md_0, hP⟩ _ (lv_sub hl [1, 2, 3, 4, 0] rfl)
              ·
                refine lv_iload_n hx hb dX1_grow_42 rfl (lv_at hl 3 rfl) ?_
                refine lv_iconst (v := nI 1) hx hb dX1_grow_43 (by decide) ?_
                refine lv_icmp_ne (tgt := 57) hx hb dX1_grow_44 (by decide) (fun c_44 => ?_) (fun c_44 => ?_)
                ·
                  refine lv_aload_n hx hb dX1_grow_57 rfl (lv_at hl 0 rfl) ?_
                  refine lv_iload_n hx hb dX1_grow_58 rfl (lv_at hl 2 rfl) ?_
                  refine lv_iload hx hb dX1_grow_59 (lv_at hl 4 rfl) ?_
                  refine rd_V S hl (c_X1_isDeepIn l D cI cZ ρ ts σ κ m1 qu fr i (by omega) (by omega)) XB.hb gX1_grow_X1_isDeepIn rfl rfl nf_X1_isDeepIn rfl rfl dX1_grow_61 (XP.rc0 hXK hP) (XB.at hXK hS ⟨held, hRel, hP⟩) ?_
                  refine lv_istore (lv' := [(5, .int (bI (σ fr i && decide (nbc (σ fr) i = 6)))), (0, .ref (ρ 0)), (1, .int (nI sl)), (2, .int (nI fr)), (3, .int y), (4, .int (nI i))]) hx hb dX1_grow_64 hl (by decide) rfl (fun ls hl => ?_)
                  refine lv_aload_n hx hb dX1_grow_66 rfl (lv_at hl 1 rfl) ?_
                  refine va_get (D := D) (ci := 1) (v := .ref (ρ 3)) (C := RX1) (T := TX1) (N := 5) hx hb hts (by decide +kernel) hown hK hP 0 rfl rfl 3 (by decide) (hts (.fieldLink RX1 24 "SevenKeys" "marks" "[I") (by decide +kernel)) (fun _ h9 => h9) rfl dX1_grow_67 ?_
                  refine lv_iload hx hb dX1_grow_70 (lv_at hl 5 rfl) ?_
                  refine lv_iload hx hb dX1_grow_72 (lv_at hl 0 rfl) ?_
                  refine nv_ifz_eq (tgt := 81) hx hb dX1_grow_74 (by decide) (fun c_74 => ?_) (fun c_74 => ?_)
                  ·
                    refine lv_iconst (v := nI 0) hx hb dX1_grow_81 (by decide) ?_
                    refine nv_iast hx hb hK hP hXK.D hS 3 0 rfl rfl (by omega) (by decide) dX1_grow_82 (fun H locs hP hS => ?_)
                    have hP : va_P D vwCl (xW cI ρ held κ (upd m1 i (nI 0)) qu) H := hP
                    refine lv_iinc (v := nI (i + 1)) (lv' := [(4, .int (nI (i + 1))), (5, .int (bI (σ fr i && decide (nbc (σ fr) i = 6)))), (0, .ref (ρ 0)), (1, .int (nI sl)), (2, .int (nI fr)), (3, .int y)]) hx hb dX1_grow_83 hl (k := 5) rfl (inc_nI _) (by decide) rfl (fun ls hl => ?_)
                    refine lv_goto (tgt := 32) hx hb dX1_grow_86 (by decide) ?_
                    exact ih_32 (i + 1) (upd m1 i (nI 0)) (by omega) (by exact mk_step hmk (by unfold growP; first | (rw [decide_eq_true c_44]; exact congrArg bI c_74.symm) | (rw [decide_eq_false c_44]; exact congrArg bI c_74.symm))) (by omega) _ (by first | rfl | exact congrArg nI (by omega)) _ _ hS ⟨held, hRel, hP⟩ _ (lv_sub hl [2, 3, 4, 5, 0] rfl)
                  ·
                    refine lv_iconst (v := nI 1) hx hb dX1_grow_77 (by decide) ?_
                    refine lv_goto (tgt := 82) hx hb dX1_grow_78 (by decide) ?_
                    refine nv_iast hx hb hK hP hXK.D hS 3 0 rfl rfl (by omega) (by decide) dX1_grow_82 (fun H locs hP hS => ?_)
                    have hP : va_P D vwCl (xW cI ρ held κ (upd m1 i (nI 1)) qu) H := hP
                    refine lv_iinc (v := nI (i + 1)) (lv' := [(4, .int (nI (i + 1))), (5, .int (bI (σ fr i && decide (nbc (σ fr) i = 6)))), (0, .ref (ρ 0)), (1, .int (nI sl)), (2, .int (nI fr)), (3, .int y)]) hx hb dX1_grow_83 hl (k := 5) rfl (inc_nI _) (by decide) rfl (fun ls hl => ?_)
                    refine lv_goto (tgt := 32) hx hb dX1_grow_86 (by decide) ?_
                    exact ih_32 (i + 1) (upd m1 i (nI 1)) (by omega) (by exact mk_step hmk (by unfold growP; first | (rw [decide_eq_true c_44]; exact congrArg bI c_74.symm) | (rw [decide_eq_false c_44]; exact congrArg bI c_74.symm))) (by omega) _ (by first | rfl | exact congrArg nI (by omega)) _ _ hS ⟨held, hRel, hP⟩ _ (lv_sub hl [2, 3, 4, 5, 0] rfl)
                ·
                  refine lv_aload_n hx hb dX1_grow_47 rfl (lv_at hl 0 rfl) ?_
                  refine lv_iload_n hx hb dX1_grow_48 rfl (lv_at hl 2 rfl) ?_
                  refine lv_iload hx hb dX1_grow_49 (lv_at hl 4 rfl) ?_
                  refine rd_V S hl (c_X1_isOfOrNextTo l D cI cZ ρ ts σ κ m1 qu fr i (by omega) (by omega)) XB.hb gX1_grow_X1_isOfOrNextTo rfl rfl nf_X1_isOfOrNextTo rfl rfl dX1_grow_51 (XP.rc0 hXK hP) (XB.at hXK hS ⟨held, hRel, hP⟩) ?_
                  refine lv_goto (tgt := 64) hx hb dX1_grow_54 (by decide) ?_
                  refine lv_istore (lv' := [(5, .int (bI (σ fr i || decide (0 < nbc (σ fr) i)))), (0, .ref (ρ 0)), (1, .int (nI sl)), (2, .int (nI fr)), (3, .int y), (4, .int (nI i))]) hx hb dX1_grow_64 hl (by decide) rfl (fun ls hl => ?_)
                  refine lv_aload_n hx hb dX1_grow_66 rfl (lv_at hl 1 rfl) ?_
                  refine va_get (D := D) (ci := 1) (v := .ref (ρ 3)) (C := RX1) (T := TX1) (N := 5) hx hb hts (by decide +kernel) hown hK hP 0 rfl rfl 3 (by decide) (hts (.fieldLink RX1 24 "SevenKeys" "marks" "[I") (by decide +kernel)) (fun _ h9 => h9) rfl dX1_grow_67 ?_
                  refine lv_iload hx hb dX1_grow_70 (lv_at hl 5 rfl) ?_
                  refine lv_iload hx hb dX1_grow_72 (lv_at hl 0 rfl) ?_
                  refine nv_ifz_eq (tgt := 81) hx hb dX1_grow_74 (by decide) (fun c_74 => ?_) (fun c_74 => ?_)
                  ·
                    refine lv_iconst (v := nI 0) hx hb dX1_grow_81 (by decide) ?_
                    refine nv_iast hx hb hK hP hXK.D hS 3 0 rfl rfl (by omega) (by decide) dX1_grow_82 (fun H locs hP hS => ?_)
                    have hP : va_P D vwCl (xW cI ρ held κ (upd m1 i (nI 0)) qu) H := hP
                    refine lv_iinc (v := nI (i + 1)) (lv' := [(4, .int (nI (i + 1))), (5, .int (bI (σ fr i || decide (0 < nbc (σ fr) i)))), (0, .ref (ρ 0)), (1, .int (nI sl)), (2, .int (nI fr)), (3, .int y)]) hx hb dX1_grow_83 hl (k := 5) rfl (inc_nI _) (by decide) rfl (fun ls hl => ?_)
                    refine lv_goto (tgt := 32) hx hb dX1_grow_86 (by decide) ?_
                    exact ih_32 (i + 1) (upd m1 i (nI 0)) (by omega) (by exact mk_step hmk (by unfold growP; first | (rw [decide_eq_true c_44]; exact congrArg bI c_74.symm) | (rw [decide_eq_false c_44]; exact congrArg bI c_74.symm))) (by omega) _ (by first | rfl | exact congrArg nI (by omega)) _ _ hS ⟨held, hRel, hP⟩ _ (lv_sub hl [2, 3, 4, 5, 0] rfl)
                  ·
                    refine lv_iconst (v := nI 1) hx hb dX1_grow_77 (by decide) ?_
                    refine lv_goto (tgt := 82) hx hb dX1_grow_78 (by decide) ?_
                    refine nv_iast hx hb hK hP hXK.D hS 3 0 rfl rfl (by omega) (by decide) dX1_grow_82 (fun H locs hP hS => ?_)
                    have hP : va_P D vwCl (xW cI ρ held κ (upd m1 i (nI 1)) qu) H := hP
                    refine lv_iinc (v := nI (i + 1)) (lv' := [(4, .int (nI (i + 1))), (5, .int (bI (σ fr i || decide (0 < nbc (σ fr) i)))), (0, .ref (ρ 0)), (1, .int (nI sl)), (2, .int (nI fr)), (3, .int y)]) hx hb dX1_grow_83 hl (k := 5) rfl (inc_nI _) (by decide) rfl (fun ls hl => ?_)
                    refine lv_goto (tgt := 32) hx hb dX1_grow_86 (by decide) ?_
                    exact ih_32 (i + 1) (upd m1 i (nI 1)) (by omega) (by exact mk_step hmk (by unfold growP; first | (rw [decide_eq_true c_44]; exact congrArg bI c_74.symm) | (rw [decide_eq_false c_44]; exact congrArg bI c_74.symm))) (by omega) _ (by first | rfl | exact congrArg nI (by omega)) _ _ hS ⟨held, hRel, hP⟩ _ (lv_sub hl [2, 3, 4, 5, 0] rfl)
          exact loop_32 (2401 - 0 + 1) 0 mk (by omega) (by exact lt_0) (Nat.lt_succ_self _) _ rfl _ _ hS ⟨held, hRel, hP⟩ _ (lv_sub hl [1, 2, 3, 4, 0] rfl)
        ·
          refine lv_bipush (v := (-2)) hx hb dX1_grow_26 (by decide) ?_
          exact ret_wi hx hb hr hlocks dX1_grow_28 hS (⟨_, _, held, hRel.eq (by first | (simp [growS, gd, gs, c_4, c_11, growO, c_18, c_23]; done) | (simp [growS, gd, gs, c_4, c_11, growO, c_18]; done) | (simp [growS, gd, gs, c_4, c_11, growO]; done) | (simp [growS, gd, gs, c_4, c_11]; done) | (simp [growS, gd, gs, c_4]; done)), hP⟩) (by first | (simp [growR, gd, gs, c_4, c_11, growO, c_18, c_23]; done) | (simp [growR, gd, gs, c_4, c_11, growO, c_18]; done) | (simp [growR, gd, gs, c_4, c_11, growO]; done) | (simp [growR, gd, gs, c_4, c_11]; done) | (simp [growR, gd, gs, c_4]; done))
    ·
      refine lv_iconst (v := (-1)) hx hb dX1_grow_14 (by decide) ?_
      exact ret_wi hx hb hr hlocks dX1_grow_15 hS (⟨_, _, held, hRel.eq (by first | (simp [growS, gd, gs, c_4, c_11]; done) | (simp [growS, gd, gs, c_4]; done)), hP⟩) (by first | (simp [growR, gd, gs, c_4, c_11]; done) | (simp [growR, gd, gs, c_4]; done))
