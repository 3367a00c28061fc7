theorem nf_X2_around : nfOk yX2_around 2 := by unfold nfOk; decide +kernel
set_option maxHeartbeats 4000000 in
set_option maxRecDepth 100000 in
theorem c_X2_around (l : Launch) (D : va_G) (cI cZ : ClassId) (μ : Nat → Nat) (σ : Nat → Nat → Bool) (M : Nat → Nat → Int32) (V : Nat → Int32) (x : Int32) (y : Int32) : Wr l yX2_around wsX2_around ({ frames := 3, cells := 0, slots := 0, locals := 67 }) [.ref (μ 0), .int x, .int y] (MB D cI cZ μ σ M V) (some (.int (aroundR x y))) (MS D cI cZ μ σ (M 5)) (xA 13 μ) := by
  refine met_in RX2 (by decide) rfl rfl (Nat.le_of_ble_eq_true rfl) ?_
  intro p e s m below meth c ls S hr hlocks hl hB
  have hx := S.1
  have hb := S.2.1
  have hml := S.2.2.1
  have hown := S.2.2.2.1
  have hts := S.2.2.2.2
  have hl : lv_has ls 9 [(0, .ref (μ 0)), (1, .int x), (2, .int y)] := hl
  obtain ⟨⟨hRel, hPt, hKg, hP⟩, hMK⟩ := hB
  have hK := hMK.1
  have hS : va_S (xA 13 μ) s.heap s.heap [] := va_S.rf
  refine lv_iload_n hx hb dX2_around_0 rfl (lv_at hl 1 rfl) ?_
  refine rd_S S hl (c_X2_isKey l x) HB.tt gX2_around_X2_isKey rfl nf_X2_isKey rfl rfl dX2_around_1  (fun _ _ _ => trivial) ?_
  refine nv_ifz_eq (tgt := 14) hx hb dX2_around_4 (by decide) (fun c_4 => ?_) (fun c_4 => ?_)
  ·
    refine lv_bipush (v := (-2)) hx hb dX2_around_14 (by decide) ?_
    exact ret_wi hx hb hr hlocks dX2_around_16 hS (⟨_, _, rfl, hRel, hPt, hKg, hP⟩) (by first | (simp [aroundR, gd, gs, c_4, c_11]; done) | (simp [aroundR, gd, gs, c_4]; done))
  ·
    obtain ⟨k, hk, hxk⟩ := wI_nat c_4 (by decide)
    subst hxk
    have hck : (nI k).toNatClampNeg = k := nI_clamp (by omega)
    refine lv_iload_n hx hb dX2_around_7 rfl (lv_at hl 2 rfl) ?_
    refine rd_S S hl (c_X2_isLevel l y) HB.tt gX2_around_X2_isLevel rfl nf_X2_isLevel rfl rfl dX2_around_8  (fun _ _ _ => trivial) ?_
    refine nv_ifz_ne (tgt := 17) hx hb dX2_around_11 (by decide) (fun c_11 => ?_) (fun c_11 => ?_)
    ·
      obtain ⟨L, hL, hxL⟩ := wI_nat c_11 (by decide)
      subst hxL
      have hcL : (nI L).toNatClampNeg = L := nI_clamp (by omega)
      have hp := pO_le (k := k) (L := L) (by omega) (by omega)
      refine lv_iload_n hx hb dX2_around_17 rfl (lv_at hl 1 rfl) ?_
      refine lv_iload_n hx hb dX2_around_18 rfl (lv_at hl 2 rfl) ?_
      refine rd_S S hl (c_X2_patchOf l k L (by omega) (by omega)) HB.tt gX2_around_X2_patchOf rfl nf_X2_patchOf rfl rfl dX2_around_19  (fun _ _ _ => trivial) ?_
      refine lv_istore_n (lv' := [(3, .int (nI (k / 7 ^ L * 7 ^ L))), (0, .ref (μ 0)), (1, .int (nI k)), (2, .int (nI L))]) hx hb dX2_around_22 rfl hl (by decide) rfl (fun ls hl => ?_)
      refine lv_iconst (v := nI 0) hx hb dX2_around_23 (by decide) ?_
      refine lv_istore (lv' := [(4, .int (nI 0)), (3, .int (nI (k / 7 ^ L * 7 ^ L))), (0, .ref (μ 0)), (1, .int (nI k)), (2, .int (nI L))]) hx hb dX2_around_24 hl (by decide) rfl (fun ls hl => ?_)
      refine lv_iconst (v := nI 0) hx hb dX2_around_26 (by decide) ?_
      refine lv_istore (lv' := [(5, .int (nI 0)), (4, .int (nI 0)), (3, .int (nI (k / 7 ^ L * 7 ^ L))), (0, .ref (μ 0)), (1, .int (nI k)), (2, .int (nI L))]) hx hb dX2_around_27 hl (by decide) rfl (fun ls hl => ?_)
      have loop_29 : ∀ (n : Nat) (i : Nat) (M1 : Nat → Nat → Int32), (i ≤ 2401) → (∀ j, j < i → M1 6 j = bI false) → (M1 5 = M 5) → 2401 - i < n → ∀ (x5 : Int32), x5 = nI i → ∀ (H : Heap) (locs : List Loc), va_S (xA 13 μ) s.heap H locs → MP D cI cZ μ σ M1 V H → ∀ ls : Array Slot, lv_has ls 9 [(0, .ref (μ 0)), (1, .int (nI k)), (2, .int (nI L)), (3, .int (nI (k / 7 ^ L * 7 ^ L))), (4, .int (nI 0)), (5, .int x5)] → W p l e (headSpec wsX2_around ({ frames := 3, cells := 0, slots := 0, locals := 67 })).room s m [.ref (μ 0), .int (nI k), .int (nI L)].toArray below meth c H locs 0 0 (MQ below (qW (some (.int (aroundR (nI k) (nI L)))) (MS D cI cZ μ σ (M 5)) (xA 13 μ)) [.ref (μ 0), .int (nI k), .int (nI L)].toArray s 0 0 (xA 13 μ)) (F0 m 29 ls []) := by
        intro n
        induction n with
        | zero => intro i M1 hi hm h5 hm; exact absurd hm (Nat.not_lt_zero _)
        | succ n ih_29 =>
          intro i M1 hi hm h5 hm_29 x5 e5 H locs hS hPP ls hl
          subst e5
          obtain ⟨hRel, hPt, hKg, hP⟩ := hPP
          refine lv_iload hx hb dX2_around_29 (lv_at hl 5 rfl) ?_
          refine lv_sipush (v := nI 2401) hx hb dX2_around_31 (by decide) ?_
          refine nv_icmp_ge (tgt := 51) hx hb dX2_around_34 (by decide) (by omega) (by omega) (fun c_34 => ?_) (fun c_34 => ?_)
          ·
            refine lv_iload_n hx hb dX2_around_51 rfl (lv_at hl 3 rfl) ?_
            refine lv_istore (lv' := [(5, .int (nI (k / 7 ^ L * 7 ^ L))), (0, .ref (μ 0)), (1, .int (nI k)), (2, .int (nI L)), (3, .int (nI (k / 7 ^ L * 7 ^ L))), (4, .int (nI 0))]) hx hb dX2_around_52 hl (by decide) rfl (fun ls hl => ?_)
            have loop_54 : ∀ (n : Nat) (t : Nat) (M1 : Nat → Nat → Int32), (t ≤ 7 ^ L) → (∀ j, j < 2401 → M1 6 j = bI ((arH (k / 7 ^ L * 7 ^ L) L t).1 j)) → (M1 5 = M 5) → 7 ^ L - t < n → ∀ (x4 x5 : Int32), x4 = nI ((arH (k / 7 ^ L * 7 ^ L) L t).2) → x5 = nI (k / 7 ^ L * 7 ^ L + t) → ∀ (H : Heap) (locs : List Loc), va_S (xA 13 μ) s.heap H locs → MP D cI cZ μ σ M1 V H → ∀ ls : Array Slot, lv_has ls 9 [(0, .ref (μ 0)), (1, .int (nI k)), (2, .int (nI L)), (3, .int (nI (k / 7 ^ L * 7 ^ L))), (4, .int x4), (5, .int x5)] → W p l e (headSpec wsX2_around ({ frames := 3, cells := 0, slots := 0, locals := 67 })).room s m [.ref (μ 0), .int (nI k), .int (nI L)].toArray below meth c H locs 0 0 (MQ below (qW (some (.int (aroundR (nI k) (nI L)))) (MS D cI cZ μ σ (M 5)) (xA 13 μ)) [.ref (μ 0), .int (nI k), .int (nI L)].toArray s 0 0 (xA 13 μ)) (F0 m 54 ls []) := by
              intro n
              induction n with
              | zero => intro t M1 ht hm h5 hm; exact absurd hm (Nat.not_lt_zero _)
              | succ n ih_54 =>
                intro t M1 ht hm h5 hm_54 x4 x5 e4 e5 H locs hS hPP ls hl
                subst e4
                subst e5
                obtain ⟨hRel, hPt, hKg, hP⟩ := hPP
                refine lv_iload hx hb dX2_around_54 (lv_at hl 5 rfl) ?_
                refine lv_iload_n hx hb dX2_around_56 rfl (lv_at hl 3 rfl) ?_
                refine lv_iload_n hx hb dX2_around_57 rfl (lv_at hl 2 rfl) ?_
                refine rd_S S hl (c_X2_hexes l L (by omega)) HB.tt gX2_around_X2_hexes rfl nf_X2_hexes rfl rfl dX2_around_58  (fun _ _ _ => trivial) ?_
                refine lv_iadd hx hb dX2_around_61 ?_
                refine nv_as (nI (k / 7 ^ L * 7 ^ L + (7 ^ L))) (nI_add _ _) ?_
                refine nv_icmp_ge (tgt := 141) hx hb dX2_around_62 (by decide) (by omega) (by omega) (fun c_62 => ?_) (fun c_62 => ?_)
                ·
                  refine lv_iload hx hb dX2_around_141 (lv_at hl 4 rfl) ?_
                  have htt : t = 7 ^ L := by omega
                  exact ret_wi hx hb hr hlocks dX2_around_143 hS (⟨_, _, h5, hRel, hPt, hKg, hP⟩) (by rw [htt]; simp [aroundR, gd, pO, c_4, c_11, hck, hcL])
                ·
                  refine lv_iconst (v := nI 1) hx hb dX2_around_65 (by decide) ?_
                  refine lv_istore (lv' := [(6, .int (nI 1)), (0, .ref (μ 0)), (1, .int (nI k)), (2, .int (nI L)), (3, .int (nI (k / 7 ^ L * 7 ^ L))), (4, .int (nI ((arH (k / 7 ^ L * 7 ^ L) L t).2))), (5, .int (nI (k / 7 ^ L * 7 ^ L + t)))]) hx hb dX2_around_66 hl (by decide) rfl (fun ls hl => ?_)
                  have loop_68 : ∀ (n : Nat) (d : Nat) (M2 : Nat → Nat → Int32), (d ≤ 6) → (∀ j, j < 2401 → M2 6 j = bI ((arD (k / 7 ^ L * 7 ^ L) L (k / 7 ^ L * 7 ^ L + t) d (arH (k / 7 ^ L * 7 ^ L) L t)).1 j)) → (M2 5 = M 5) → 6 - d < n → ∀ (x4 x6 : Int32), x4 = nI ((arD (k / 7 ^ L * 7 ^ L) L (k / 7 ^ L * 7 ^ L + t) d (arH (k / 7 ^ L * 7 ^ L) L t)).2) → x6 = nI (d + 1) → ∀ (H : Heap) (locs : List Loc), va_S (xA 13 μ) s.heap H locs → MP D cI cZ μ σ M2 V H → ∀ ls : Array Slot, lv_has ls 9 [(0, .ref (μ 0)), (1, .int (nI k)), (2, .int (nI L)), (3, .int (nI (k / 7 ^ L * 7 ^ L))), (4, .int x4), (5, .int (nI (k / 7 ^ L * 7 ^ L + t))), (6, .int x6)] → W p l e (headSpec wsX2_around ({ frames := 3, cells := 0, slots := 0, locals := 67 })).room s m [.ref (μ 0), .int (nI k), .int (nI L)].toArray below meth c H locs 0 0 (MQ below (qW (some (.int (aroundR (nI k) (nI L)))) (MS D cI cZ μ σ (M 5)) (xA 13 μ)) [.ref (μ 0), .int (nI k), .int (nI L)].toArray s 0 0 (xA 13 μ)) (F0 m 68 ls []) := by
                    intro n
                    induction n with
                    | zero => intro d M2 hd hm2 h52 hm; exact absurd hm (Nat.not_lt_zero _)
                    | succ n ih_68 =>
                      intro d M2 hd hm2 h52 hm_68 x4 x6 e4 e6 H locs hS hPP ls hl
                      subst e4
                      subst e6
                      obtain ⟨hRel, hPt, hKg, hP⟩ := hPP
                      refine lv_iload hx hb dX2_around_68 (lv_at hl 6 rfl) ?_
                      refine lv_bipush (v := nI 6) hx hb dX2_around_70 (by decide) ?_
                      have hle2 := arD_le (own := k / 7 ^ L * 7 ^ L) (L := L) (h := k / 7 ^ L * 7 ^ L + t) (b := arH (k / 7 ^ L * 7 ^ L) L t) d
                      refine nv_icmp_gt (tgt := 135) hx hb dX2_around_72 (by decide) (by omega) (by omega) (fun c_72 => ?_) (fun c_72 => ?_)
                      ·
                        refine lv_iinc (v := nI (k / 7 ^ L * 7 ^ L + t + 1)) (lv' := [(5, .int (nI (k / 7 ^ L * 7 ^ L + t + 1))), (0, .ref (μ 0)), (1, .int (nI k)), (2, .int (nI L)), (3, .int (nI (k / 7 ^ L * 7 ^ L))), (4, .int (nI ((arD (k / 7 ^ L * 7 ^ L) L (k / 7 ^ L * 7 ^ L + t) d (arH (k / 7 ^ L * 7 ^ L) L t)).2))), (6, .int (nI (d + 1)))]) hx hb dX2_around_135 hl (k := 5) rfl (inc_nI _) (by decide) rfl (fun ls hl => ?_)
                        refine lv_goto (tgt := 54) hx hb dX2_around_138 (by decide) ?_
                        have hd6 : d = 6 := by omega
                        subst hd6
                        exact ih_54 (t + 1) M2 (by omega) (by exact hm2) (by exact h52) (by omega) _ _ (by rfl) (by rfl) _ _ hS ⟨hRel, hPt, hKg, hP⟩ _ (lv_sub hl [1, 2, 3, 4, 5, 0] rfl)
                      ·
                        refine lv_aload_n hx hb dX2_around_75 rfl (lv_at hl 0 rfl) ?_
                        refine lv_iload hx hb dX2_around_76 (lv_at hl 5 rfl) ?_
                        refine lv_iload hx hb dX2_around_78 (lv_at hl 6 rfl) ?_
                        refine rd_V S hl (c_X2_nextOf l D cI cZ μ σ M2 V (k / 7 ^ L * 7 ^ L + t) (d + 1) (by omega) (by omega)) MB.hb gX2_around_X2_nextOf rfl rfl nf_X2_nextOf rfl rfl dX2_around_80 (MP.rc0 hMK hP) (MB.at hMK ⟨hRel, hPt, hKg, hP⟩) ?_
                        refine lv_istore (lv' := [(7, .int (oI (nbo (k / 7 ^ L * 7 ^ L + t) (d + 1)))), (0, .ref (μ 0)), (1, .int (nI k)), (2, .int (nI L)), (3, .int (nI (k / 7 ^ L * 7 ^ L))), (4, .int (nI ((arD (k / 7 ^ L * 7 ^ L) L (k / 7 ^ L * 7 ^ L + t) d (arH (k / 7 ^ L * 7 ^ L) L t)).2))), (5, .int (nI (k / 7 ^ L * 7 ^ L + t))), (6, .int (nI (d + 1)))]) hx hb dX2_around_83 hl (by decide) rfl (fun ls hl => ?_)
                        rcases hnb : nbo (k / 7 ^ L * 7 ^ L + t) (d + 1) with _ | j
                        ·
                          rw [hnb] at hl
                          have hl : lv_has ls 9 [(7, .int (oI none)), (0, .ref (μ 0)), (1, .int (nI k)), (2, .int (nI L)), (3, .int (nI (k / 7 ^ L * 7 ^ L))), (4, .int (nI (arD (k / 7 ^ L * 7 ^ L) L (k / 7 ^ L * 7 ^ L + t) d (arH (k / 7 ^ L * 7 ^ L) L t)).2)), (5, .int (nI (k / 7 ^ L * 7 ^ L + t))), (6, .int (nI (d + 1)))] := hl
                          have hE : arD (k / 7 ^ L * 7 ^ L) L (k / 7 ^ L * 7 ^ L + t) (d + 1) (arH (k / 7 ^ L * 7 ^ L) L t) = arD (k / 7 ^ L * 7 ^ L) L (k / 7 ^ L * 7 ^ L + t) d (arH (k / 7 ^ L * 7 ^ L) L t) := by rw [arD, hnb]; rfl
                          refine lv_iload hx hb dX2_around_85 (lv_at hl 0 rfl) ?_
                          refine lv_if_ge (tgt := 94) hx hb dX2_around_87 (by decide) (fun c_87 => ?_) (fun c_87 => ?_)
                          ·
                            exact absurd c_87 (by decide)
                          ·
                            refine lv_iload_n hx hb dX2_around_90 rfl (lv_at hl 4 rfl) ?_
                            refine lv_goto (tgt := 100) hx hb dX2_around_91 (by decide) ?_
                            refine lv_istore (lv' := [(8, .int (nI (k / 7 ^ L * 7 ^ L))), (7, .int (oI none)), (0, .ref (μ 0)), (1, .int (nI k)), (2, .int (nI L)), (3, .int (nI (k / 7 ^ L * 7 ^ L))), (4, .int (nI ((arD (k / 7 ^ L * 7 ^ L) L (k / 7 ^ L * 7 ^ L + t) d (arH (k / 7 ^ L * 7 ^ L) L t)).2))), (5, .int (nI (k / 7 ^ L * 7 ^ L + t))), (6, .int (nI (d + 1)))]) hx hb dX2_around_100 hl (by decide) rfl (fun ls hl => ?_)
                            refine lv_iload hx hb dX2_around_102 (lv_at hl 0 rfl) ?_
                            refine lv_iload_n hx hb dX2_around_104 rfl (lv_at hl 5 rfl) ?_
                            refine nv_icmp_eq (tgt := 129) hx hb dX2_around_105 (by decide) (by omega) (by omega) (fun c_105 => ?_) (fun c_105 => ?_)
                            ·
                              refine lv_iinc (v := nI (d + 1 + 1)) (lv' := [(6, .int (nI (d + 1 + 1))), (8, .int (nI (k / 7 ^ L * 7 ^ L))), (7, .int (oI none)), (0, .ref (μ 0)), (1, .int (nI k)), (2, .int (nI L)), (3, .int (nI (k / 7 ^ L * 7 ^ L))), (4, .int (nI ((arD (k / 7 ^ L * 7 ^ L) L (k / 7 ^ L * 7 ^ L + t) d (arH (k / 7 ^ L * 7 ^ L) L t)).2))), (5, .int (nI (k / 7 ^ L * 7 ^ L + t)))]) hx hb dX2_around_129 hl (k := 8) rfl (inc_nI _) (by decide) rfl (fun ls hl => ?_)
                              refine lv_goto (tgt := 68) hx hb dX2_around_132 (by decide) ?_
                              exact ih_68 (d + 1) M2 (by omega) (by first | (rw [hE]; exact hm2) | (rw [hE]; exact upd_bI hm2)) (by exact h52) (by omega) _ _ (by rw [hE]) (by first | rfl | exact congrArg nI (by omega)) _ _ hS ⟨hRel, hPt, hKg, hP⟩ _ (lv_sub hl [3, 4, 5, 6, 7, 8, 0] rfl)
                            ·
                              exact absurd rfl c_105
                        ·
                          have hj := nbo_lt hnb
                          have hpj : j / 7 ^ L * 7 ^ L < 2401 := pO_lt hj
                          rw [hnb] at hl
                          have hl : lv_has ls 9 [(7, .int (nI j)), (0, .ref (μ 0)), (1, .int (nI k)), (2, .int (nI L)), (3, .int (nI (k / 7 ^ L * 7 ^ L))), (4, .int (nI (arD (k / 7 ^ L * 7 ^ L) L (k / 7 ^ L * 7 ^ L + t) d (arH (k / 7 ^ L * 7 ^ L) L t)).2)), (5, .int (nI (k / 7 ^ L * 7 ^ L + t))), (6, .int (nI (d + 1)))] := hl
                          refine lv_iload hx hb dX2_around_85 (lv_at hl 0 rfl) ?_
                          refine lv_if_ge (tgt := 94) hx hb dX2_around_87 (by decide) (fun c_87 => ?_) (fun c_87 => ?_)
                          ·
                            refine lv_iload hx hb dX2_around_94 (lv_at hl 0 rfl) ?_
                            refine lv_iload_n hx hb dX2_around_96 rfl (lv_at hl 3 rfl) ?_
                            refine rd_S S hl (c_X2_patchOf l j L (by omega) (by omega)) HB.tt gX2_around_X2_patchOf rfl nf_X2_patchOf rfl rfl dX2_around_97  (fun _ _ _ => trivial) ?_
                            refine lv_istore (lv' := [(8, .int (nI (j / 7 ^ L * 7 ^ L))), (7, .int (nI j)), (0, .ref (μ 0)), (1, .int (nI k)), (2, .int (nI L)), (3, .int (nI (k / 7 ^ L * 7 ^ L))), (4, .int (nI ((arD (k / 7 ^ L * 7 ^ L) L (k / 7 ^ L * 7 ^ L + t) d (arH (k / 7 ^ L * 7 ^ L) L t)).2))), (5, .int (nI (k / 7 ^ L * 7 ^ L + t))), (6, .int (nI (d + 1)))]) hx hb dX2_around_100 hl (by decide) rfl (fun ls hl => ?_)
                            refine lv_iload hx hb dX2_around_102 (lv_at hl 0 rfl) ?_
                            refine lv_iload_n hx hb dX2_around_104 rfl (lv_at hl 5 rfl) ?_
                            refine nv_icmp_eq (tgt := 129) hx hb dX2_around_105 (by decide) (by omega) (by omega) (fun c_105 => ?_) (fun c_105 => ?_)
                            ·
                              have hE : arD (k / 7 ^ L * 7 ^ L) L (k / 7 ^ L * 7 ^ L + t) (d + 1) (arH (k / 7 ^ L * 7 ^ L) L t) = arD (k / 7 ^ L * 7 ^ L) L (k / 7 ^ L * 7 ^ L + t) d (arH (k / 7 ^ L * 7 ^ L) L t) := by rw [arD, hnb]; exact if_neg (fun q => q.1 c_105)
                              refine lv_iinc (v := nI (d + 1 + 1)) (lv' := [(6, .int (nI (d + 1 + 1))), (8, .int (nI (j / 7 ^ L * 7 ^ L))), (7, .int (nI j)), (0, .ref (μ 0)), (1, .int (nI k)), (2, .int (nI L)), (3, .int (nI (k / 7 ^ L * 7 ^ L))), (4, .int (nI ((arD (k / 7 ^ L * 7 ^ L) L (k / 7 ^ L * 7 ^ L + t) d (arH (k / 7 ^ L * 7 ^ L) L t)).2))), (5, .int (nI (k / 7 ^ L * 7 ^ L + t)))]) hx hb dX2_around_129 hl (k := 8) rfl (inc_nI _) (by decide) rfl (fun ls hl => ?_)
                              refine lv_goto (tgt := 68) hx hb dX2_around_132 (by decide) ?_
                              exact ih_68 (d + 1) M2 (by omega) (by first | (rw [hE]; exact hm2) | (rw [hE]; exact upd_bI hm2)) (by exact h52) (by omega) _ _ (by rw [hE]) (by first | rfl | exact congrArg nI (by omega)) _ _ hS ⟨hRel, hPt, hKg, hP⟩ _ (lv_sub hl [3, 4, 5, 6, 7, 8, 0] rfl)
                            ·
                              refine lv_aload_n hx hb dX2_around_108 rfl (lv_at hl 2 rfl) ?_
                              refine va_get (D := D) (ci := 2) (v := .ref (μ 6)) (C := RX2) (T := TX2) (N := 15) hx hb hts (by decide +kernel) hown hK hP 0 rfl rfl 5 (by decide) (hts (.fieldLink RX2 26 "SevenKeysModel" "isMet" "[Z") (by decide +kernel)) (fun _ h9 => h9) rfl dX2_around_109 ?_
                              refine lv_iload hx hb dX2_around_112 (lv_at hl 0 rfl) ?_
                              refine nv_zald hx hb hK hP 6 1 rfl rfl (by omega) (by decide) dX2_around_114 ?_
                              refine nv_as (bI ((arD (k / 7 ^ L * 7 ^ L) L (k / 7 ^ L * 7 ^ L + t) d (arH (k / 7 ^ L * 7 ^ L) L t)).1 (j / 7 ^ L * 7 ^ L))) (by exact hm2 _ hpj) ?_
                              refine nv_ifz_ne (tgt := 129) hx hb dX2_around_115 (by decide) (fun c_115 => ?_) (fun c_115 => ?_)
                              ·
                                have hE : arD (k / 7 ^ L * 7 ^ L) L (k / 7 ^ L * 7 ^ L + t) (d + 1) (arH (k / 7 ^ L * 7 ^ L) L t) = arD (k / 7 ^ L * 7 ^ L) L (k / 7 ^ L * 7 ^ L + t) d (arH (k / 7 ^ L * 7 ^ L) L t) := by rw [arD, hnb]; exact if_neg (fun q => absurd (c_115.symm.trans q.2) (by decide))
                                refine lv_iinc (v := nI (d + 1 + 1)) (lv' := [(6, .int (nI (d + 1 + 1))), (8, .int (nI (j / 7 ^ L * 7 ^ L))), (7, .int (nI j)), (0, .ref (μ 0)), (1, .int (nI k)), (2, .int (nI L)), (3, .int (nI (k / 7 ^ L * 7 ^ L))), (4, .int (nI ((arD (k / 7 ^ L * 7 ^ L) L (k / 7 ^ L * 7 ^ L + t) d (arH (k / 7 ^ L * 7 ^ L) L t)).2))), (5, .int (nI (k / 7 ^ L * 7 ^ L + t)))]) hx hb dX2_around_129 hl (k := 8) rfl (inc_nI _) (by decide) rfl (fun ls hl => ?_)
                                refine lv_goto (tgt := 68) hx hb dX2_around_132 (by decide) ?_
                                exact ih_68 (d + 1) M2 (by omega) (by first | (rw [hE]; exact hm2) | (rw [hE]; exact upd_bI hm2)) (by exact h52) (by omega) _ _ (by rw [hE]) (by first | rfl | exact congrArg nI (by omega)) _ _ hS ⟨hRel, hPt, hKg, hP⟩ _ (lv_sub hl [3, 4, 5, 6, 7, 8, 0] rfl)
                              ·
                                have hE : arD (k / 7 ^ L * 7 ^ L) L (k / 7 ^ L * 7 ^ L + t) (d + 1) (arH (k / 7 ^ L * 7 ^ L) L t) = (va_up (arD (k / 7 ^ L * 7 ^ L) L (k / 7 ^ L * 7 ^ L + t) d (arH (k / 7 ^ L * 7 ^ L) L t)).1 (j / 7 ^ L * 7 ^ L) true, (arD (k / 7 ^ L * 7 ^ L) L (k / 7 ^ L * 7 ^ L + t) d (arH (k / 7 ^ L * 7 ^ L) L t)).2 + 1) := by rw [arD, hnb]; exact if_pos ⟨c_105, c_115⟩
                                refine lv_aload_n hx hb dX2_around_118 rfl (lv_at hl 2 rfl) ?_
                                refine va_get (D := D) (ci := 2) (v := .ref (μ 6)) (C := RX2) (T := TX2) (N := 15) hx hb hts (by decide +kernel) hown hK hP 0 rfl rfl 5 (by decide) (hts (.fieldLink RX2 26 "SevenKeysModel" "isMet" "[Z") (by decide +kernel)) (fun _ h9 => h9) rfl dX2_around_119 ?_
                                refine lv_iload hx hb dX2_around_122 (lv_at hl 0 rfl) ?_
                                refine lv_iconst (v := nI 1) hx hb dX2_around_124 (by decide) ?_
                                refine nv_zast (x := true) hx hb hK hP hMK.D hS 6 1 rfl rfl (by omega) (by decide) dX2_around_125 (fun H locs hP hS => ?_)
                                have hP : va_P D vwCl (mW cI cZ μ (va_up M2 6 (upd (M2 6) (j / 7 ^ L * 7 ^ L) (bI true))) V) H := hP
                                refine lv_iinc (v := nI ((arD (k / 7 ^ L * 7 ^ L) L (k / 7 ^ L * 7 ^ L + t) d (arH (k / 7 ^ L * 7 ^ L) L t)).2 + 1)) (lv' := [(4, .int (nI ((arD (k / 7 ^ L * 7 ^ L) L (k / 7 ^ L * 7 ^ L + t) d (arH (k / 7 ^ L * 7 ^ L) L t)).2 + 1))), (8, .int (nI (j / 7 ^ L * 7 ^ L))), (7, .int (nI j)), (0, .ref (μ 0)), (1, .int (nI k)), (2, .int (nI L)), (3, .int (nI (k / 7 ^ L * 7 ^ L))), (5, .int (nI (k / 7 ^ L * 7 ^ L + t))), (6, .int (nI (d + 1)))]) hx hb dX2_around_126 hl (k := 6) rfl (inc_nI _) (by decide) rfl (fun ls hl => ?_)
                                refine lv_iinc (v := nI (d + 1 + 1)) (lv' := [(6, .int (nI (d + 1 + 1))), (4, .int (nI ((arD (k / 7 ^ L * 7 ^ L) L (k / 7 ^ L * 7 ^ L + t) d (arH (k / 7 ^ L * 7 ^ L) L t)).2 + 1))), (8, .int (nI (j / 7 ^ L * 7 ^ L))), (7, .int (nI j)), (0, .ref (μ 0)), (1, .int (nI k)), (2, .int (nI L)), (3, .int (nI (k / 7 ^ L * 7 ^ L))), (5, .int (nI (k / 7 ^ L * 7 ^ L + t)))]) hx hb dX2_around_129 hl (k := 8) rfl (inc_nI _) (by decide) rfl (fun ls hl => ?_)
                                refine lv_goto (tgt := 68) hx hb dX2_around_132 (by decide) ?_
                                exact ih_68 (d + 1) (va_up M2 6 (upd (M2 6) (j / 7 ^ L * 7 ^ L) (bI true))) (by omega) (by first | (rw [hE]; exact hm2) | (rw [hE]; exact upd_bI hm2)) (by exact h52) (by omega) _ _ (by rw [hE]) (by first | rfl | exact congrArg nI (by omega)) _ _ hS ⟨hRel, hPt, hKg, hP⟩ _ (lv_sub hl [4, 5, 6, 7, 1, 8, 0] rfl)
                          ·
                            exact absurd (nI_pos' (by omega)) c_87
                  exact loop_68 (6 - 0 + 1) 0 M1 (by omega) (by exact hm) (by exact h5) (Nat.lt_succ_self _) _ _ (by rfl) (by first | rfl | exact congrArg nI (by omega)) _ _ hS ⟨hRel, hPt, hKg, hP⟩ _ (lv_sub hl [1, 2, 3, 4, 5, 6, 0] rfl)
            exact loop_54 (7 ^ L - 0 + 1) 0 M1 (by exact Nat.zero_le _) (by exact fun j hj => hm j (by omega)) (by exact h5) (Nat.lt_succ_self _) _ _ (by rfl) (by rfl) _ _ hS ⟨hRel, hPt, hKg, hP⟩ _ (lv_sub hl [1, 2, 3, 4, 5, 0] rfl)
          ·
            refine lv_aload_n hx hb dX2_around_37 rfl (lv_at hl 0 rfl) ?_
            refine va_get (D := D) (ci := 2) (v := .ref (μ 6)) (C := RX2) (T := TX2) (N := 15) hx hb hts (by decide +kernel) hown hK hP 0 rfl rfl 5 (by decide) (hts (.fieldLink RX2 26 "SevenKeysModel" "isMet" "[Z") (by decide +kernel)) (fun _ h9 => h9) rfl dX2_around_38 ?_
            refine lv_iload hx hb dX2_around_41 (lv_at hl 5 rfl) ?_
            refine lv_iconst (v := nI 0) hx hb dX2_around_43 (by decide) ?_
            refine nv_zast (x := false) hx hb hK hP hMK.D hS 6 1 rfl rfl (by omega) (by decide) dX2_around_44 (fun H locs hP hS => ?_)
            have hP : va_P D vwCl (mW cI cZ μ (va_up M1 6 (upd (M1 6) i (bI false))) V) H := hP
            refine lv_iinc (v := nI (i + 1)) (lv' := [(5, .int (nI (i + 1))), (0, .ref (μ 0)), (1, .int (nI k)), (2, .int (nI L)), (3, .int (nI (k / 7 ^ L * 7 ^ L))), (4, .int (nI 0))]) hx hb dX2_around_45 hl (k := 5) rfl (inc_nI _) (by decide) rfl (fun ls hl => ?_)
            refine lv_goto (tgt := 29) hx hb dX2_around_48 (by decide) ?_
            exact ih_29 (i + 1) (va_up M1 6 (upd (M1 6) i (bI false))) (by omega) (by exact mk_step (f := fun _ => false) hm rfl) (by exact h5) (by omega) _ (by first | rfl | exact congrArg nI (by omega)) _ _ hS ⟨hRel, hPt, hKg, hP⟩ _ (lv_sub hl [1, 2, 3, 4, 5, 0] rfl)
      exact loop_29 (2401 - 0 + 1) 0 M (by omega) (by exact lt_0) (by rfl) (Nat.lt_succ_self _) _ rfl _ _ hS ⟨hRel, hPt, hKg, hP⟩ _ (lv_sub hl [3, 4, 5, 2, 1, 0] rfl)
    ·
      refine lv_bipush (v := (-2)) hx hb dX2_around_14 (by decide) ?_
      exact ret_wi hx hb hr hlocks dX2_around_16 hS (⟨_, _, rfl, hRel, hPt, hKg, hP⟩) (by first | (simp [aroundR, gd, gs, c_4, c_11]; done) | (simp [aroundR, gd, gs, c_4]; done))
