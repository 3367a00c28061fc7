theorem nf_X2_alike : nfOk yX2_alike 2 := by unfold nfOk; decide +kernel
set_option maxHeartbeats 4000000 in
set_option maxRecDepth 100000 in
theorem c_X2_alike (l : Launch) (D : va_G) (cI cZ : ClassId) (μ : Nat → Nat) (σ : Nat → Nat → Bool) (M : Nat → Nat → Int32) (V : Nat → Int32) (a : Int32) (b : Int32) : Rd l yX2_alike wsX2_alike ({ frames := 2, cells := 0, slots := 0, locals := 45 }) [.ref (μ 0), .int a, .int b] (MB D cI cZ μ σ M V) (alikeR σ a b) := by
  refine met_in RX2 (by decide) rfl rfl (Nat.le_of_ble_eq_true rfl) ?_
  intro p e s m below meth c ls S hr hlocks hl hB
  have hx := S.1
  have hb := S.2.1
  have hml := S.2.2.1
  have hown := S.2.2.2.1
  have hts := S.2.2.2.2
  have hl : lv_has ls 6 [(0, .ref (μ 0)), (1, .int a), (2, .int b)] := hl
  obtain ⟨⟨hRel, hPt, hKg, hP⟩, hMK⟩ := hB
  have hK := hMK.1
  have hS : va_S (xA 13 μ) s.heap s.heap [] := va_S.rf
  refine lv_iload_n hx hb dX2_alike_0 rfl (lv_at hl 1 rfl) ?_
  refine rd_S S hl (c_X2_isSlot l a) HB.tt gX2_alike_X2_isSlot rfl nf_X2_isSlot rfl rfl dX2_alike_1  (fun _ _ _ => trivial) ?_
  refine nv_ifz_eq (tgt := 14) hx hb dX2_alike_4 (by decide) (fun c_4 => ?_) (fun c_4 => ?_)
  ·
    refine lv_iconst (v := (-1)) hx hb dX2_alike_14 (by decide) ?_
    exact ret_i hx hb hr hlocks dX2_alike_15 (by first | (simp [alikeR, gd, gs, c_4, c_11]; done) | (simp [alikeR, gd, gs, c_4]; done))
  ·
    obtain ⟨sa, hsa, hxsa⟩ := wI_nat c_4 (by decide)
    subst hxsa
    have hcsa : (nI sa).toNatClampNeg = sa := nI_clamp (by omega)
    refine lv_iload_n hx hb dX2_alike_7 rfl (lv_at hl 2 rfl) ?_
    refine rd_S S hl (c_X2_isSlot l b) HB.tt gX2_alike_X2_isSlot rfl nf_X2_isSlot rfl rfl dX2_alike_8  (fun _ _ _ => trivial) ?_
    refine nv_ifz_ne (tgt := 16) hx hb dX2_alike_11 (by decide) (fun c_11 => ?_) (fun c_11 => ?_)
    ·
      obtain ⟨sb, hsb, hxsb⟩ := wI_nat c_11 (by decide)
      subst hxsb
      have hcsb : (nI sb).toNatClampNeg = sb := nI_clamp (by omega)
      refine lv_iconst (v := nI 0) hx hb dX2_alike_16 (by decide) ?_
      refine lv_istore_n (lv' := [(3, .int (nI 0)), (0, .ref (μ 0)), (1, .int (nI sa)), (2, .int (nI sb))]) hx hb dX2_alike_17 rfl hl (by decide) rfl (fun ls hl => ?_)
      refine lv_iconst (v := nI 0) hx hb dX2_alike_18 (by decide) ?_
      refine lv_istore (lv' := [(4, .int (nI 0)), (3, .int (nI 0)), (0, .ref (μ 0)), (1, .int (nI sa)), (2, .int (nI sb))]) hx hb dX2_alike_19 hl (by decide) rfl (fun ls hl => ?_)
      have loop_21 : ∀ (n : Nat) (i : Nat), (i ≤ 2401) → 2401 - i < n → ∀ (x3 x4 : Int32), x3 = nI (fb_ct (fun j => σ sa j && σ sb j) i) → x4 = nI i → ∀ ls : Array Slot, lv_has ls 6 [(0, .ref (μ 0)), (1, .int (nI sa)), (2, .int (nI sb)), (3, .int x3), (4, .int x4)] → W p l e (headSpec wsX2_alike ({ frames := 2, cells := 0, slots := 0, locals := 45 })).room s m [.ref (μ 0), .int (nI sa), .int (nI sb)].toArray below meth c s.heap [] 0 0 (MQ below (vp_Si (fun r => r = alikeR σ (nI sa) (nI sb))) [.ref (μ 0), .int (nI sa), .int (nI sb)].toArray s 0 0 (fun _ => False)) (F0 m 21 ls []) := by
        intro n
        induction n with
        | zero => intro i hi hm; exact absurd hm (Nat.not_lt_zero _)
        | succ n ih_21 =>
          intro i hi hm_21 x3 x4 e3 e4 ls hl
          subst e3
          subst e4
          refine lv_iload hx hb dX2_alike_21 (lv_at hl 4 rfl) ?_
          refine lv_sipush (v := nI 2401) hx hb dX2_alike_23 (by decide) ?_
          refine nv_icmp_ge (tgt := 63) hx hb dX2_alike_26 (by decide) (by omega) (by omega) (fun c_26 => ?_) (fun c_26 => ?_)
          ·
            have hi2 : i = 2401 := by omega
            subst hi2
            have b1 := fb_ct_le (fun j => σ sa j && σ sb j) 2401
            have b2 := fb_ct_le (σ sa) 2401
            have b3 := fb_ct_le (σ sb) 2401
            have e1 := (sub_iff (A := σ sa) (B := σ sb) 2401).2
            have e2 := sub_iff' (A := σ sa) (B := σ sb) 2401
            have e3 := or_iff (p := fun j => σ sa j && σ sb j) 2401
            refine lv_aload_n hx hb dX2_alike_63 rfl (lv_at hl 0 rfl) ?_
            refine lv_iload_n hx hb dX2_alike_64 rfl (lv_at hl 1 rfl) ?_
            refine rd_V S hl (c_X2_many l D cI cZ μ σ M V sa (by omega)) MB.hb gX2_alike_X2_many rfl rfl nf_X2_many rfl rfl dX2_alike_65 (MP.rc0 hMK hP) (MB.at hMK ⟨hRel, hPt, hKg, hP⟩) ?_
            refine lv_istore (lv' := [(4, .int (nI (fb_ct (σ sa) 2401))), (0, .ref (μ 0)), (1, .int (nI sa)), (2, .int (nI sb)), (3, .int (nI (fb_ct (fun j => σ sa j && σ sb j) 2401)))]) hx hb dX2_alike_68 hl (by decide) rfl (fun ls hl => ?_)
            refine lv_aload_n hx hb dX2_alike_70 rfl (lv_at hl 1 rfl) ?_
            refine lv_iload_n hx hb dX2_alike_71 rfl (lv_at hl 3 rfl) ?_
            refine rd_V S hl (c_X2_many l D cI cZ μ σ M V sb (by omega)) MB.hb gX2_alike_X2_many rfl rfl nf_X2_many rfl rfl dX2_alike_72 (MP.rc0 hMK hP) (MB.at hMK ⟨hRel, hPt, hKg, hP⟩) ?_
            refine lv_istore (lv' := [(5, .int (nI (fb_ct (σ sb) 2401))), (4, .int (nI (fb_ct (σ sa) 2401))), (0, .ref (μ 0)), (1, .int (nI sa)), (2, .int (nI sb)), (3, .int (nI (fb_ct (fun j => σ sa j && σ sb j) 2401)))]) hx hb dX2_alike_75 hl (by decide) rfl (fun ls hl => ?_)
            refine lv_iload_n hx hb dX2_alike_77 rfl (lv_at hl 5 rfl) ?_
            refine lv_iload hx hb dX2_alike_78 (lv_at hl 1 rfl) ?_
            refine nv_icmp_eq (tgt := 89) hx hb dX2_alike_80 (by decide) (by omega) (by omega) (fun c_80 => ?_) (fun c_80 => ?_)
            ·
              refine lv_iload_n hx hb dX2_alike_89 rfl (lv_at hl 5 rfl) ?_
              refine lv_iload hx hb dX2_alike_90 (lv_at hl 0 rfl) ?_
              refine nv_icmp_eq (tgt := 99) hx hb dX2_alike_92 (by decide) (by omega) (by omega) (fun c_92 => ?_) (fun c_92 => ?_)
              ·
                refine lv_iload_n hx hb dX2_alike_99 rfl (lv_at hl 5 rfl) ?_
                refine lv_iload hx hb dX2_alike_100 (lv_at hl 1 rfl) ?_
                refine nv_icmp_eq (tgt := 109) hx hb dX2_alike_102 (by decide) (by omega) (by omega) (fun c_102 => ?_) (fun c_102 => ?_)
                ·
                  refine lv_iconst (v := nI 0) hx hb dX2_alike_109 (by decide) ?_
                  exact ret_i hx hb hr hlocks dX2_alike_110 (by unfold alikeR; rw [show cl (nI sa) = sa from hcsa, show cl (nI sb) = sb from hcsb]; refine al_leaf c_4 c_11 ?_; rw [al_pure e1 e2 e3]; (repeat' split) <;> first | rfl | (exfalso; omega))
                ·
                  refine lv_iconst (v := nI 2) hx hb dX2_alike_105 (by decide) ?_
                  refine lv_goto (tgt := 110) hx hb dX2_alike_106 (by decide) ?_
                  exact ret_i hx hb hr hlocks dX2_alike_110 (by unfold alikeR; rw [show cl (nI sa) = sa from hcsa, show cl (nI sb) = sb from hcsb]; refine al_leaf c_4 c_11 ?_; rw [al_pure e1 e2 e3]; (repeat' split) <;> first | rfl | (exfalso; omega))
              ·
                refine lv_iconst (v := nI 1) hx hb dX2_alike_95 (by decide) ?_
                refine lv_goto (tgt := 110) hx hb dX2_alike_96 (by decide) ?_
                exact ret_i hx hb hr hlocks dX2_alike_110 (by unfold alikeR; rw [show cl (nI sa) = sa from hcsa, show cl (nI sb) = sb from hcsb]; refine al_leaf c_4 c_11 ?_; rw [al_pure e1 e2 e3]; (repeat' split) <;> first | rfl | (exfalso; omega))
            ·
              refine lv_iload_n hx hb dX2_alike_83 rfl (lv_at hl 5 rfl) ?_
              refine lv_iload hx hb dX2_alike_84 (lv_at hl 0 rfl) ?_
              refine nv_icmp_ne (tgt := 111) hx hb dX2_alike_86 (by decide) (by omega) (by omega) (fun c_86 => ?_) (fun c_86 => ?_)
              ·
                refine lv_iload_n hx hb dX2_alike_111 rfl (lv_at hl 5 rfl) ?_
                refine lv_if_ne (tgt := 119) hx hb dX2_alike_112 (by decide) (fun c_112 => ?_) (fun c_112 => ?_)
                ·
                  have cz : ¬ fb_ct (fun j => σ sa j && σ sb j) 2401 = 0 := fun q => c_112 (by rw [q]; rfl)
                  refine lv_iconst (v := nI 4) hx hb dX2_alike_119 (by decide) ?_
                  exact ret_i hx hb hr hlocks dX2_alike_120 (by unfold alikeR; rw [show cl (nI sa) = sa from hcsa, show cl (nI sb) = sb from hcsb]; refine al_leaf c_4 c_11 ?_; rw [al_pure e1 e2 e3]; (repeat' split) <;> first | rfl | (exfalso; omega))
                ·
                  have cz : fb_ct (fun j => σ sa j && σ sb j) 2401 = 0 := nz0 c_112 (by omega)
                  refine lv_iconst (v := nI 3) hx hb dX2_alike_115 (by decide) ?_
                  refine lv_goto (tgt := 120) hx hb dX2_alike_116 (by decide) ?_
                  exact ret_i hx hb hr hlocks dX2_alike_120 (by unfold alikeR; rw [show cl (nI sa) = sa from hcsa, show cl (nI sb) = sb from hcsb]; refine al_leaf c_4 c_11 ?_; rw [al_pure e1 e2 e3]; (repeat' split) <;> first | rfl | (exfalso; omega))
              ·
                refine lv_iload_n hx hb dX2_alike_89 rfl (lv_at hl 5 rfl) ?_
                refine lv_iload hx hb dX2_alike_90 (lv_at hl 0 rfl) ?_
                refine nv_icmp_eq (tgt := 99) hx hb dX2_alike_92 (by decide) (by omega) (by omega) (fun c_92 => ?_) (fun c_92 => ?_)
                ·
                  refine lv_iload_n hx hb dX2_alike_99 rfl (lv_at hl 5 rfl) ?_
                  refine lv_iload hx hb dX2_alike_100 (lv_at hl 1 rfl) ?_
                  refine nv_icmp_eq (tgt := 109) hx hb dX2_alike_102 (by decide) (by omega) (by omega) (fun c_102 => ?_) (fun c_102 => ?_)
                  ·
                    refine lv_iconst (v := nI 0) hx hb dX2_alike_109 (by decide) ?_
                    exact ret_i hx hb hr hlocks dX2_alike_110 (by unfold alikeR; rw [show cl (nI sa) = sa from hcsa, show cl (nI sb) = sb from hcsb]; refine al_leaf c_4 c_11 ?_; rw [al_pure e1 e2 e3]; (repeat' split) <;> first | rfl | (exfalso; omega))
                  ·
                    refine lv_iconst (v := nI 2) hx hb dX2_alike_105 (by decide) ?_
                    refine lv_goto (tgt := 110) hx hb dX2_alike_106 (by decide) ?_
                    exact ret_i hx hb hr hlocks dX2_alike_110 (by unfold alikeR; rw [show cl (nI sa) = sa from hcsa, show cl (nI sb) = sb from hcsb]; refine al_leaf c_4 c_11 ?_; rw [al_pure e1 e2 e3]; (repeat' split) <;> first | rfl | (exfalso; omega))
                ·
                  refine lv_iconst (v := nI 1) hx hb dX2_alike_95 (by decide) ?_
                  refine lv_goto (tgt := 110) hx hb dX2_alike_96 (by decide) ?_
                  exact ret_i hx hb hr hlocks dX2_alike_110 (by unfold alikeR; rw [show cl (nI sa) = sa from hcsa, show cl (nI sb) = sb from hcsb]; refine al_leaf c_4 c_11 ?_; rw [al_pure e1 e2 e3]; (repeat' split) <;> first | rfl | (exfalso; omega))
          ·
            refine lv_iload_n hx hb dX2_alike_29 rfl (lv_at hl 3 rfl) ?_
            refine lv_aload_n hx hb dX2_alike_30 rfl (lv_at hl 0 rfl) ?_
            refine lv_iload_n hx hb dX2_alike_31 rfl (lv_at hl 1 rfl) ?_
            refine lv_iload hx hb dX2_alike_32 (lv_at hl 4 rfl) ?_
            refine rd_V S hl (c_X2_isIn l D cI cZ μ σ M V sa i (by omega) (by omega)) MB.hb gX2_alike_X2_isIn rfl rfl nf_X2_isIn rfl rfl dX2_alike_34 (MP.rc0 hMK hP) (MB.at hMK ⟨hRel, hPt, hKg, hP⟩) ?_
            refine nv_ifz_eq (tgt := 54) hx hb dX2_alike_37 (by decide) (fun c_37 => ?_) (fun c_37 => ?_)
            ·
              refine lv_iconst (v := nI 0) hx hb dX2_alike_54 (by decide) ?_
              refine lv_iadd hx hb dX2_alike_55 ?_
              refine nv_as (nI (fb_ct (fun j => σ sa j && σ sb j) i + 0)) (nI_add _ _) ?_
              refine lv_istore_n (lv' := [(3, .int (nI (fb_ct (fun j => σ sa j && σ sb j) i + 0))), (0, .ref (μ 0)), (1, .int (nI sa)), (2, .int (nI sb)), (4, .int (nI i))]) hx hb dX2_alike_56 rfl hl (by decide) rfl (fun ls hl => ?_)
              refine lv_iinc (v := nI (i + 1)) (lv' := [(4, .int (nI (i + 1))), (3, .int (nI (fb_ct (fun j => σ sa j && σ sb j) i + 0))), (0, .ref (μ 0)), (1, .int (nI sa)), (2, .int (nI sb))]) hx hb dX2_alike_57 hl (k := 4) rfl (inc_nI _) (by decide) rfl (fun ls hl => ?_)
              refine lv_goto (tgt := 21) hx hb dX2_alike_60 (by decide) ?_
              exact ih_21 (i + 1) (by omega) (by omega) _ _ (by first | (rw [fb_ct_succ, c_37, c_47]; rfl) | (rw [fb_ct_succ, c_37]; rfl)) (by first | rfl | exact congrArg nI (by omega)) _ (lv_sub hl [2, 3, 4, 1, 0] rfl)
            ·
              refine lv_aload_n hx hb dX2_alike_40 rfl (lv_at hl 0 rfl) ?_
              refine lv_iload_n hx hb dX2_alike_41 rfl (lv_at hl 2 rfl) ?_
              refine lv_iload hx hb dX2_alike_42 (lv_at hl 4 rfl) ?_
              refine rd_V S hl (c_X2_isIn l D cI cZ μ σ M V sb i (by omega) (by omega)) MB.hb gX2_alike_X2_isIn rfl rfl nf_X2_isIn rfl rfl dX2_alike_44 (MP.rc0 hMK hP) (MB.at hMK ⟨hRel, hPt, hKg, hP⟩) ?_
              refine nv_ifz_eq (tgt := 54) hx hb dX2_alike_47 (by decide) (fun c_47 => ?_) (fun c_47 => ?_)
              ·
                refine lv_iconst (v := nI 0) hx hb dX2_alike_54 (by decide) ?_
                refine lv_iadd hx hb dX2_alike_55 ?_
                refine nv_as (nI (fb_ct (fun j => σ sa j && σ sb j) i + 0)) (nI_add _ _) ?_
                refine lv_istore_n (lv' := [(3, .int (nI (fb_ct (fun j => σ sa j && σ sb j) i + 0))), (0, .ref (μ 0)), (1, .int (nI sa)), (2, .int (nI sb)), (4, .int (nI i))]) hx hb dX2_alike_56 rfl hl (by decide) rfl (fun ls hl => ?_)
                refine lv_iinc (v := nI (i + 1)) (lv' := [(4, .int (nI (i + 1))), (3, .int (nI (fb_ct (fun j => σ sa j && σ sb j) i + 0))), (0, .ref (μ 0)), (1, .int (nI sa)), (2, .int (nI sb))]) hx hb dX2_alike_57 hl (k := 4) rfl (inc_nI _) (by decide) rfl (fun ls hl => ?_)
                refine lv_goto (tgt := 21) hx hb dX2_alike_60 (by decide) ?_
                exact ih_21 (i + 1) (by omega) (by omega) _ _ (by first | (rw [fb_ct_succ, c_37, c_47]; rfl) | (rw [fb_ct_succ, c_37]; rfl)) (by first | rfl | exact congrArg nI (by omega)) _ (lv_sub hl [2, 3, 4, 1, 0] rfl)
              ·
                refine lv_iconst (v := nI 1) hx hb dX2_alike_50 (by decide) ?_
                refine lv_goto (tgt := 55) hx hb dX2_alike_51 (by decide) ?_
                refine lv_iadd hx hb dX2_alike_55 ?_
                refine nv_as (nI (fb_ct (fun j => σ sa j && σ sb j) i + 1)) (nI_add _ _) ?_
                refine lv_istore_n (lv' := [(3, .int (nI (fb_ct (fun j => σ sa j && σ sb j) i + 1))), (0, .ref (μ 0)), (1, .int (nI sa)), (2, .int (nI sb)), (4, .int (nI i))]) hx hb dX2_alike_56 rfl hl (by decide) rfl (fun ls hl => ?_)
                refine lv_iinc (v := nI (i + 1)) (lv' := [(4, .int (nI (i + 1))), (3, .int (nI (fb_ct (fun j => σ sa j && σ sb j) i + 1))), (0, .ref (μ 0)), (1, .int (nI sa)), (2, .int (nI sb))]) hx hb dX2_alike_57 hl (k := 4) rfl (inc_nI _) (by decide) rfl (fun ls hl => ?_)
                refine lv_goto (tgt := 21) hx hb dX2_alike_60 (by decide) ?_
                exact ih_21 (i + 1) (by omega) (by omega) _ _ (by first | (rw [fb_ct_succ, c_37, c_47]; rfl) | (rw [fb_ct_succ, c_37]; rfl)) (by first | rfl | exact congrArg nI (by omega)) _ (lv_sub hl [2, 3, 4, 1, 0] rfl)
      exact loop_21 (2401 - 0 + 1) 0 (by omega) (Nat.lt_succ_self _) _ _ (by first | rfl | exact congrArg nI (by omega)) rfl _ (lv_sub hl [2, 3, 4, 1, 0] rfl)
    ·
      refine lv_iconst (v := (-1)) hx hb dX2_alike_14 (by decide) ?_
      exact ret_i hx hb hr hlocks dX2_alike_15 (by first | (simp [alikeR, gd, gs, c_4, c_11]; done) | (simp [alikeR, gd, gs, c_4]; done))
theorem nf_X2_copy : nfOk yX2_copy 2 := by unfold nfOk; decide +kernel
set_option maxHeartbeats 4000000 in
set_option maxRecDepth 100000 in
theorem c_X2_copy (l : Launch) (D : va_G) (cI cZ : ClassId) (μ : Nat → Nat) (σ : Nat → Nat → Bool) (M : Nat → Nat → Int32) (V : Nat → Int32) (s1 : Nat) (s2 : Nat) (h1 : s1 < 12) (h2 : s2 < 12) : Wr l yX2_copy wsX2_copy ({ frames := 1, cells := 0, slots := 0, locals := 22 }) [.ref (μ 0), .int (nI s1), .int (nI s2)] (MB D cI cZ μ σ M V) none (MS D cI cZ μ (mdS σ s2 0 2401 (σ s1)) (M 5)) (xA 13 μ) := by
  refine met_in RX2 (by decide) rfl rfl (Nat.le_of_ble_eq_true rfl) ?_
  intro p e s m below meth c ls S hr hlocks hl hB
  have hx := S.1
  have hb := S.2.1
  have hml := S.2.2.1
  have hown := S.2.2.2.1
  have hts := S.2.2.2.2
  have hl : lv_has ls 4 [(0, .ref (μ 0)), (1, .int (nI s1)), (2, .int (nI s2))] := hl
  obtain ⟨⟨hRel, hPt, hKg, hP⟩, hMK⟩ := hB
  have hK := hMK.1
  have hS : va_S (xA 13 μ) s.heap s.heap [] := va_S.rf
  refine lv_iconst (v := nI 0) hx hb dX2_copy_0 (by decide) ?_
  refine lv_istore_n (lv' := [(3, .int (nI 0)), (0, .ref (μ 0)), (1, .int (nI s1)), (2, .int (nI s2))]) hx hb dX2_copy_1 rfl hl (by decide) rfl (fun ls hl => ?_)
  have loop_2 : ∀ (n : Nat) (i : Nat) (M1 : Nat → Nat → Int32), (i ≤ 2401) → (M1 5 = M 5) → 2401 - i < n → ∀ (x3 : Int32), x3 = nI i → ∀ (H : Heap) (locs : List Loc), va_S (xA 13 μ) s.heap H locs → MP D cI cZ μ (mdS σ s2 0 i (σ s1)) M1 V H → ∀ ls : Array Slot, lv_has ls 4 [(0, .ref (μ 0)), (1, .int (nI s1)), (2, .int (nI s2)), (3, .int x3)] → W p l e (headSpec wsX2_copy ({ frames := 1, cells := 0, slots := 0, locals := 22 })).room s m [.ref (μ 0), .int (nI s1), .int (nI s2)].toArray below meth c H locs 0 0 (MQ below (qW none (MS D cI cZ μ (mdS σ s2 0 2401 (σ s1)) (M 5)) (xA 13 μ)) [.ref (μ 0), .int (nI s1), .int (nI s2)].toArray s 0 0 (xA 13 μ)) (F0 m 2 ls []) := by
    intro n
    induction n with
    | zero => intro i M1 hi h5 hm; exact absurd hm (Nat.not_lt_zero _)
    | succ n ih_2 =>
      intro i M1 hi h5 hm_2 x3 e3 H locs hS hPP ls hl
      subst e3
      obtain ⟨hRel, hPt, hKg, hP⟩ := hPP
      refine lv_iload_n hx hb dX2_copy_2 rfl (lv_at hl 3 rfl) ?_
      refine lv_sipush (v := nI 2401) hx hb dX2_copy_3 (by decide) ?_
      refine nv_icmp_ge (tgt := 33) hx hb dX2_copy_6 (by decide) (by omega) (by omega) (fun c_6 => ?_) (fun c_6 => ?_)
      ·
        have hi2 : i = 2401 := by omega
        subst hi2
        exact ret_wv hx hb hr hlocks dX2_copy_33 hS (⟨_, _, h5, hRel, hPt, hKg, hP⟩)
      ·
        refine lv_aload_n hx hb dX2_copy_9 rfl (lv_at hl 0 rfl) ?_
        refine va_get (D := D) (ci := 2) (v := .ref (μ 4)) (C := RX2) (T := TX2) (N := 15) hx hb hts (by decide +kernel) hown hK hP 0 rfl rfl 3 (by decide) (hts (.fieldLink RX2 19 "SevenKeysModel" "sets" "[Z") (by decide +kernel)) (fun _ h9 => h9) rfl dX2_copy_10 ?_
        refine lv_sipush (v := nI 2401) hx hb dX2_copy_13 (by decide) ?_
        refine lv_iload_n hx hb dX2_copy_16 rfl (lv_at hl 2 rfl) ?_
        refine lv_imul hx hb dX2_copy_17 ?_
        refine nv_as (nI (2401 * s2)) (pk_mul _ _) ?_
        refine lv_iload_n hx hb dX2_copy_18 rfl (lv_at hl 3 rfl) ?_
        refine lv_iadd hx hb dX2_copy_19 ?_
        refine nv_as (nI (2401 * s2 + i)) (nI_add _ _) ?_
        refine lv_aload_n hx hb dX2_copy_20 rfl (lv_at hl 0 rfl) ?_
        refine lv_iload_n hx hb dX2_copy_21 rfl (lv_at hl 1 rfl) ?_
        refine lv_iload_n hx hb dX2_copy_22 rfl (lv_at hl 3 rfl) ?_
        refine rd_V S hl (c_X2_isIn l D cI cZ μ (mdS σ s2 0 i (σ s1)) M1 V s1 i (by omega) (by omega)) MB.hb gX2_copy_X2_isIn rfl rfl nf_X2_isIn rfl rfl dX2_copy_23 (MP.rc0 hMK hP) (MB.at hMK ⟨hRel, hPt, hKg, hP⟩) ?_
        refine nv_zast (x := (mdS σ s2 0 i (σ s1)) s1 i) hx hb hK hP hMK.D hS 4 1 rfl rfl (by omega) (by decide) dX2_copy_26 (fun H locs hP hS => ?_)
        have hP : va_P D vwCl (mW cI cZ μ (va_up M1 4 (upd (M1 4) (2401 * s2 + i) (bI ((mdS σ s2 0 i (σ s1)) s1 i)))) V) H := hP
        refine lv_iinc (v := nI (i + 1)) (lv' := [(3, .int (nI (i + 1))), (0, .ref (μ 0)), (1, .int (nI s1)), (2, .int (nI s2))]) hx hb dX2_copy_27 hl (k := 3) rfl (inc_nI _) (by decide) rfl (fun ls hl => ?_)
        refine lv_goto (tgt := 2) hx hb dX2_copy_30 (by decide) ?_
        exact ih_2 (i + 1) (va_up M1 4 (upd (M1 4) (2401 * s2 + i) (bI ((mdS σ s2 0 i (σ s1)) s1 i)))) (by omega) (by exact h5) (by omega) _ (by first | rfl | exact congrArg nI (by omega)) _ _ hS ⟨(relM_up hRel (by omega) (by omega) _).eq (md_step (md_ge _ (Nat.le_refl i)) (by omega)).symm, hPt, hKg, hP⟩ _ (lv_sub hl [1, 2, 3, 0] rfl)
  exact loop_2 (2401 - 0 + 1) 0 M (by omega) (by rfl) (Nat.lt_succ_self _) _ rfl _ _ hS ⟨hRel.eq md_0, hPt, hKg, hP⟩ _ (lv_sub hl [1, 2, 3, 0] rfl)
theorem nf_X2_image : nfOk yX2_image 1 := by unfold nfOk; decide +kernel
set_option maxHeartbeats 4000000 in
set_option maxRecDepth 100000 in
theorem c_X2_image (l : Launch) (D : va_G) (cI cZ : ClassId) (μ : Nat → Nat) (σ : Nat → Nat → Bool) (M : Nat → Nat → Int32) (V : Nat → Int32) (x : Int32) (kp : Nat → Bool) (hkp : ∀ j, j < 2 → M 5 j = bI (kp j)) : Wr l yX2_image wsX2_image ({ frames := 2, cells := 0, slots := 0, locals := 45 }) [.ref (μ 0), .int x] (MB D cI cZ μ σ M V) (some (.int (imageR x))) (MSK D cI cZ μ (imageS σ x) (imageK kp x)) (xA 13 μ) := by
  refine met_in RX2 (by decide) rfl rfl (Nat.le_of_ble_eq_true rfl) ?_
  intro p e s m below meth c ls S hr hlocks hl hB
  have hx := S.1
  have hb := S.2.1
  have hml := S.2.2.1
  have hown := S.2.2.2.1
  have hts := S.2.2.2.2
  have hl : lv_has ls 3 [(0, .ref (μ 0)), (1, .int x)] := hl
  obtain ⟨⟨hRel, hPt, hKg, hP⟩, hMK⟩ := hB
  have hK := hMK.1
  have hS : va_S (xA 13 μ) s.heap s.heap [] := va_S.rf
  refine lv_iload_n hx hb dX2_image_0 rfl (lv_at hl 1 rfl) ?_
  refine lv_iconst (v := nI 0) hx hb dX2_image_1 (by decide) ?_
  refine lv_iconst (v := nI 1) hx hb dX2_image_2 (by decide) ?_
  refine rd_S S hl (c_X2_in l x (nI 0) (nI 1)) HB.tt gX2_image_X2_in rfl nf_X2_in rfl rfl dX2_image_3  (fun _ _ _ => trivial) ?_
  refine nv_ifz_ne (tgt := 12) hx hb dX2_image_6 (by decide) (fun c_6 => ?_) (fun c_6 => ?_)
  ·
    obtain ⟨k, hk, hxk⟩ := wI_nat c_6 (by decide)
    subst hxk
    have hck : (nI k).toNatClampNeg = k := nI_clamp (by omega)
    refine lv_iconst (v := nI 0) hx hb dX2_image_12 (by decide) ?_
    refine lv_istore_n (lv' := [(2, .int (nI 0)), (0, .ref (μ 0)), (1, .int (nI k))]) hx hb dX2_image_13 rfl hl (by decide) rfl (fun ls hl => ?_)
    have loop_14 : ∀ (n : Nat) (t : Nat) (M1 : Nat → Nat → Int32) (V1 : Nat → Int32), (t ≤ 4) → (∀ j, j < 2 → M1 5 j = bI (kp j)) → 4 - t < n → ∀ (x2 : Int32), x2 = nI t → ∀ (H : Heap) (locs : List Loc), va_S (xA 13 μ) s.heap H locs → MP D cI cZ μ (cpS σ k t) M1 V1 H → ∀ ls : Array Slot, lv_has ls 3 [(0, .ref (μ 0)), (1, .int (nI k)), (2, .int x2)] → W p l e (headSpec wsX2_image ({ frames := 2, cells := 0, slots := 0, locals := 45 })).room s m [.ref (μ 0), .int (nI k)].toArray below meth c H locs 0 0 (MQ below (qW (some (.int (imageR (nI k)))) (MSK D cI cZ μ (imageS σ (nI k)) (imageK kp (nI k))) (xA 13 μ)) [.ref (μ 0), .int (nI k)].toArray s 0 0 (xA 13 μ)) (F0 m 14 ls []) := by
      intro n
      induction n with
      | zero => intro t M1 V1 ht hk1 hm; exact absurd hm (Nat.not_lt_zero _)
      | succ n ih_14 =>
        intro t M1 V1 ht hk1 hm_14 x2 e2 H locs hS hPP ls hl
        subst e2
        obtain ⟨hRel, hPt, hKg, hP⟩ := hPP
        refine lv_iload_n hx hb dX2_image_14 rfl (lv_at hl 2 rfl) ?_
        refine lv_iconst (v := nI 4) hx hb dX2_image_15 (by decide) ?_
        refine nv_icmp_ge (tgt := 37) hx hb dX2_image_16 (by decide) (by omega) (by omega) (fun c_16 => ?_) (fun c_16 => ?_)
        ·
          refine lv_aload_n hx hb dX2_image_37 rfl (lv_at hl 0 rfl) ?_
          refine va_get (D := D) (ci := 2) (v := .ref (μ 5)) (C := RX2) (T := TX2) (N := 15) hx hb hts (by decide +kernel) hown hK hP 0 rfl rfl 4 (by decide) (hts (.fieldLink RX2 23 "SevenKeysModel" "isKept" "[Z") (by decide +kernel)) (fun _ h9 => h9) rfl dX2_image_38 ?_
          refine lv_iload_n hx hb dX2_image_41 rfl (lv_at hl 1 rfl) ?_
          refine lv_iconst (v := nI 1) hx hb dX2_image_42 (by decide) ?_
          refine nv_zast (x := true) hx hb hK hP hMK.D hS 5 1 rfl rfl (by omega) (by decide) dX2_image_43 (fun H locs hP hS => ?_)
          have hP : va_P D vwCl (mW cI cZ μ (va_up M1 5 (upd (M1 5) k (bI true))) V1) H := hP
          refine lv_iconst (v := nI 1) hx hb dX2_image_44 (by decide) ?_
          have ht4 : t = 4 := by omega
          subst ht4
          exact ret_wi hx hb hr hlocks dX2_image_45 hS (⟨va_up M1 5 (upd (M1 5) k (bI true)), V1, by simp only [imageK, c_6, cond_true, hck]; exact kp_up hk1, hRel.eq (by simp only [imageS, c_6, cond_true, hck]; exact cp_4), hPt, hKg, hP⟩) (by simp [imageR, gd, c_6])
        ·
          refine lv_aload_n hx hb dX2_image_19 rfl (lv_at hl 0 rfl) ?_
          refine lv_iload_n hx hb dX2_image_20 rfl (lv_at hl 2 rfl) ?_
          refine lv_iconst (v := nI 4) hx hb dX2_image_21 (by decide) ?_
          refine lv_iconst (v := nI 4) hx hb dX2_image_22 (by decide) ?_
          refine lv_iload_n hx hb dX2_image_23 rfl (lv_at hl 1 rfl) ?_
          refine lv_imul hx hb dX2_image_24 ?_
          refine nv_as (nI (4 * k)) (pk_mul _ _) ?_
          refine lv_iadd hx hb dX2_image_25 ?_
          refine nv_as (nI (4 + (4 * k))) (nI_add _ _) ?_
          refine lv_iload_n hx hb dX2_image_26 rfl (lv_at hl 2 rfl) ?_
          refine lv_iadd hx hb dX2_image_27 ?_
          refine nv_as (nI (4 + (4 * k) + t)) (nI_add _ _) ?_
          refine wr_V S hl (c_X2_copy l D cI cZ μ (cpS σ k t) M1 V1 t (4 + (4 * k) + t) (by omega) (by omega)) MB.hb gX2_image_X2_copy rfl rfl nf_X2_copy rfl rfl dX2_image_28 (MP.rc0 hMK hP) (MB.at hMK ⟨hRel, hPt, hKg, hP⟩) hS (fun _ h => h) (fun H locs hPP hS _ hkp => ?_)
          obtain ⟨M_28, V_28, h5_28, hRel, hPt, hKg, hP⟩ := hPP
          refine W.eq (g2 := F0 m 31 ls []) rfl ?_
          refine lv_iinc (v := nI (t + 1)) (lv' := [(2, .int (nI (t + 1))), (0, .ref (μ 0)), (1, .int (nI k))]) hx hb dX2_image_31 hl (k := 2) rfl (inc_nI _) (by decide) rfl (fun ls hl => ?_)
          refine lv_goto (tgt := 14) hx hb dX2_image_34 (by decide) ?_
          exact ih_14 (t + 1) M_28 V_28 (by omega) (by rw [h5_28]; exact hk1) (by omega) _ (by first | rfl | exact congrArg nI (by omega)) _ _ hS ⟨hRel.eq (cp_s (by omega)).symm, hPt, hKg, hP⟩ _ (lv_sub hl [1, 2, 0] rfl)
    exact loop_14 (4 - 0 + 1) 0 M V (by omega) (by exact hkp) (Nat.lt_succ_self _) _ rfl _ _ hS ⟨hRel.eq cp_0, hPt, hKg, hP⟩ _ (lv_sub hl [1, 2, 0] rfl)
  ·
    refine lv_bipush (v := (-2)) hx hb dX2_image_9 (by decide) ?_
    exact ret_wi hx hb hr hlocks dX2_image_11 hS (⟨_, _, by simp only [imageK, c_6, cond_false]; exact hkp, hRel.eq (by simp [imageS, c_6]), hPt, hKg, hP⟩) (by simp [imageR, gd, c_6])
theorem nf_X2_restore : nfOk yX2_restore 1 := by unfold nfOk; decide +kernel
set_option maxHeartbeats 4000000 in
set_option maxRecDepth 100000 in
theorem c_X2_restore (l : Launch) (D : va_G) (cI cZ : ClassId) (μ : Nat → Nat) (σ : Nat → Nat → Bool) (M : Nat → Nat → Int32) (V : Nat → Int32) (x : Int32) (kp : Nat → Bool) (hkp : ∀ j, j < 2 → M 5 j = bI (kp j)) : Wr l yX2_restore wsX2_restore ({ frames := 2, cells := 0, slots := 0, locals := 45 }) [.ref (μ 0), .int x] (MB D cI cZ μ σ M V) (some (.int (restR kp x))) (MSK D cI cZ μ (restS σ kp x) kp) (xA 13 μ) := by
  refine met_in RX2 (by decide) rfl rfl (Nat.le_of_ble_eq_true rfl) ?_
  intro p e s m below meth c ls S hr hlocks hl hB
  have hx := S.1
  have hb := S.2.1
  have hml := S.2.2.1
  have hown := S.2.2.2.1
  have hts := S.2.2.2.2
  have hl : lv_has ls 3 [(0, .ref (μ 0)), (1, .int x)] := hl
  obtain ⟨⟨hRel, hPt, hKg, hP⟩, hMK⟩ := hB
  have hK := hMK.1
  have hS : va_S (xA 13 μ) s.heap s.heap [] := va_S.rf
  refine lv_iload_n hx hb dX2_restore_0 rfl (lv_at hl 1 rfl) ?_
  refine lv_iconst (v := nI 0) hx hb dX2_restore_1 (by decide) ?_
  refine lv_iconst (v := nI 1) hx hb dX2_restore_2 (by decide) ?_
  refine rd_S S hl (c_X2_in l x (nI 0) (nI 1)) HB.tt gX2_restore_X2_in rfl nf_X2_in rfl rfl dX2_restore_3  (fun _ _ _ => trivial) ?_
  refine nv_ifz_ne (tgt := 12) hx hb dX2_restore_6 (by decide) (fun c_6 => ?_) (fun c_6 => ?_)
  ·
    obtain ⟨k, hk, hxk⟩ := wI_nat c_6 (by decide)
    subst hxk
    have hck : (nI k).toNatClampNeg = k := nI_clamp (by omega)
    refine lv_aload_n hx hb dX2_restore_12 rfl (lv_at hl 0 rfl) ?_
    refine va_get (D := D) (ci := 2) (v := .ref (μ 5)) (C := RX2) (T := TX2) (N := 15) hx hb hts (by decide +kernel) hown hK hP 0 rfl rfl 4 (by decide) (hts (.fieldLink RX2 23 "SevenKeysModel" "isKept" "[Z") (by decide +kernel)) (fun _ h9 => h9) rfl dX2_restore_13 ?_
    refine lv_iload_n hx hb dX2_restore_16 rfl (lv_at hl 1 rfl) ?_
    refine nv_zald hx hb hK hP 5 1 rfl rfl (by omega) (by decide) dX2_restore_17 ?_
    refine nv_as (bI (kp k)) (by exact hkp k (by omega)) ?_
    refine nv_ifz_ne (tgt := 24) hx hb dX2_restore_18 (by decide) (fun c_18 => ?_) (fun c_18 => ?_)
    ·
      refine lv_iconst (v := nI 0) hx hb dX2_restore_24 (by decide) ?_
      refine lv_istore_n (lv' := [(2, .int (nI 0)), (0, .ref (μ 0)), (1, .int (nI k))]) hx hb dX2_restore_25 rfl hl (by decide) rfl (fun ls hl => ?_)
      have loop_26 : ∀ (n : Nat) (t : Nat) (M1 : Nat → Nat → Int32) (V1 : Nat → Int32), (t ≤ 4) → (∀ j, j < 2 → M1 5 j = bI (kp j)) → 4 - t < n → ∀ (x2 : Int32), x2 = nI t → ∀ (H : Heap) (locs : List Loc), va_S (xA 13 μ) s.heap H locs → MP D cI cZ μ (rcS σ k t) M1 V1 H → ∀ ls : Array Slot, lv_has ls 3 [(0, .ref (μ 0)), (1, .int (nI k)), (2, .int x2)] → W p l e (headSpec wsX2_restore ({ frames := 2, cells := 0, slots := 0, locals := 45 })).room s m [.ref (μ 0), .int (nI k)].toArray below meth c H locs 0 0 (MQ below (qW (some (.int (restR kp (nI k)))) (MSK D cI cZ μ (restS σ kp (nI k)) kp) (xA 13 μ)) [.ref (μ 0), .int (nI k)].toArray s 0 0 (xA 13 μ)) (F0 m 26 ls []) := by
        intro n
        induction n with
        | zero => intro t M1 V1 ht hk1 hm; exact absurd hm (Nat.not_lt_zero _)
        | succ n ih_26 =>
          intro t M1 V1 ht hk1 hm_26 x2 e2 H locs hS hPP ls hl
          subst e2
          obtain ⟨hRel, hPt, hKg, hP⟩ := hPP
          refine lv_iload_n hx hb dX2_restore_26 rfl (lv_at hl 2 rfl) ?_
          refine lv_iconst (v := nI 4) hx hb dX2_restore_27 (by decide) ?_
          refine nv_icmp_ge (tgt := 49) hx hb dX2_restore_28 (by decide) (by omega) (by omega) (fun c_28 => ?_) (fun c_28 => ?_)
          ·
            refine lv_iconst (v := nI 1) hx hb dX2_restore_49 (by decide) ?_
            have ht4 : t = 4 := by omega
            subst ht4
            exact ret_wi hx hb hr hlocks dX2_restore_50 hS (⟨_, _, hk1, hRel.eq (by rw [← rc_4]; simp [restS, c_6, c_18, hck]), hPt, hKg, hP⟩) (by simp [restR, gd, c_6, c_18, hck])
          ·
            refine lv_aload_n hx hb dX2_restore_31 rfl (lv_at hl 0 rfl) ?_
            refine lv_iconst (v := nI 4) hx hb dX2_restore_32 (by decide) ?_
            refine lv_iconst (v := nI 4) hx hb dX2_restore_33 (by decide) ?_
            refine lv_iload_n hx hb dX2_restore_34 rfl (lv_at hl 1 rfl) ?_
            refine lv_imul hx hb dX2_restore_35 ?_
            refine nv_as (nI (4 * k)) (pk_mul _ _) ?_
            refine lv_iadd hx hb dX2_restore_36 ?_
            refine nv_as (nI (4 + (4 * k))) (nI_add _ _) ?_
            refine lv_iload_n hx hb dX2_restore_37 rfl (lv_at hl 2 rfl) ?_
            refine lv_iadd hx hb dX2_restore_38 ?_
            refine nv_as (nI (4 + (4 * k) + t)) (nI_add _ _) ?_
            refine lv_iload_n hx hb dX2_restore_39 rfl (lv_at hl 2 rfl) ?_
            refine wr_V S hl (c_X2_copy l D cI cZ μ (rcS σ k t) M1 V1 (4 + (4 * k) + t) t (by omega) (by omega)) MB.hb gX2_restore_X2_copy rfl rfl nf_X2_copy rfl rfl dX2_restore_40 (MP.rc0 hMK hP) (MB.at hMK ⟨hRel, hPt, hKg, hP⟩) hS (fun _ h => h) (fun H locs hPP hS _ hkp => ?_)
            obtain ⟨M_40, V_40, h5_40, hRel, hPt, hKg, hP⟩ := hPP
            refine W.eq (g2 := F0 m 43 ls []) rfl ?_
            refine lv_iinc (v := nI (t + 1)) (lv' := [(2, .int (nI (t + 1))), (0, .ref (μ 0)), (1, .int (nI k))]) hx hb dX2_restore_43 hl (k := 2) rfl (inc_nI _) (by decide) rfl (fun ls hl => ?_)
            refine lv_goto (tgt := 26) hx hb dX2_restore_46 (by decide) ?_
            exact ih_26 (t + 1) M_40 V_40 (by omega) (by rw [h5_40]; exact hk1) (by omega) _ (by first | rfl | exact congrArg nI (by omega)) _ _ hS ⟨hRel.eq (rc_s (by omega)).symm, hPt, hKg, hP⟩ _ (lv_sub hl [1, 2, 0] rfl)
      exact loop_26 (4 - 0 + 1) 0 M V (by omega) (by exact hkp) (Nat.lt_succ_self _) _ rfl _ _ hS ⟨hRel.eq rc_0, hPt, hKg, hP⟩ _ (lv_sub hl [1, 2, 0] rfl)
    ·
      refine lv_bipush (v := (-3)) hx hb dX2_restore_21 (by decide) ?_
      exact ret_wi hx hb hr hlocks dX2_restore_23 hS (⟨_, _, hkp, hRel.eq (by simp [restS, c_6, c_18, hck]), hPt, hKg, hP⟩) (by simp [restR, gd, c_6, c_18, hck])
  ·
    refine lv_bipush (v := (-2)) hx hb dX2_restore_9 (by decide) ?_
    exact ret_wi hx hb hr hlocks dX2_restore_11 hS (⟨_, _, hkp, hRel.eq (by simp [restS, c_6]), hPt, hKg, hP⟩) (by simp [restR, gd, c_6])
theorem nf_X2_all : nfOk yX2_all 0 := by unfold nfOk; decide +kernel
set_option maxHeartbeats 4000000 in
set_option maxRecDepth 100000 in
theorem c_X2_all (l : Launch) (D : va_G) (cI cZ : ClassId) (μ : Nat → Nat) (σ : Nat → Nat → Bool) (M : Nat → Nat → Int32) (V : Nat → Int32) : Rd l yX2_all wsX2_all ({ frames := 1, cells := 0, slots := 0, locals := 22 }) [.ref (μ 0)] (MB D cI cZ μ σ M V) (nI (fb_ct (anyP σ) 2401)) := by
  refine met_in RX2 (by decide) rfl rfl (Nat.le_of_ble_eq_true rfl) ?_
  intro p e s m below meth c ls S hr hlocks hl hB
  have hx := S.1
  have hb := S.2.1
  have hml := S.2.2.1
  have hown := S.2.2.2.1
  have hts := S.2.2.2.2
  have hl : lv_has ls 3 [(0, .ref (μ 0))] := hl
  obtain ⟨⟨hRel, hPt, hKg, hP⟩, hMK⟩ := hB
  have hK := hMK.1
  have hS : va_S (xA 13 μ) s.heap s.heap [] := va_S.rf
  refine lv_iconst (v := nI 0) hx hb dX2_all_0 (by decide) ?_
  refine lv_istore_n (lv' := [(1, .int (nI 0)), (0, .ref (μ 0))]) hx hb dX2_all_1 rfl hl (by decide) rfl (fun ls hl => ?_)
  refine lv_iconst (v := nI 0) hx hb dX2_all_2 (by decide) ?_
  refine lv_istore_n (lv' := [(2, .int (nI 0)), (1, .int (nI 0)), (0, .ref (μ 0))]) hx hb dX2_all_3 rfl hl (by decide) rfl (fun ls hl => ?_)
  have loop_4 : ∀ (n : Nat) (i : Nat), (i ≤ 2401) → 2401 - i < n → ∀ (x1 x2 : Int32), x1 = nI (fb_ct (anyP σ) i) → x2 = nI i → ∀ ls : Array Slot, lv_has ls 3 [(0, .ref (μ 0)), (1, .int x1), (2, .int x2)] → W p l e (headSpec wsX2_all ({ frames := 1, cells := 0, slots := 0, locals := 22 })).room s m [.ref (μ 0)].toArray below meth c s.heap [] 0 0 (MQ below (vp_Si (fun r => r = nI (fb_ct (anyP σ) 2401))) [.ref (μ 0)].toArray s 0 0 (fun _ => False)) (F0 m 4 ls []) := by
    intro n
    induction n with
    | zero => intro i hi hm; exact absurd hm (Nat.not_lt_zero _)
    | succ n ih_4 =>
      intro i hi hm_4 x1 x2 e1 e2 ls hl
      subst e1
      subst e2
      refine lv_iload_n hx hb dX2_all_4 rfl (lv_at hl 2 rfl) ?_
      refine lv_sipush (v := nI 2401) hx hb dX2_all_5 (by decide) ?_
      refine nv_icmp_ge (tgt := 61) hx hb dX2_all_8 (by decide) (by omega) (by omega) (fun c_8 => ?_) (fun c_8 => ?_)
      ·
        refine lv_iload_n hx hb dX2_all_61 rfl (lv_at hl 1 rfl) ?_
        exact ret_i hx hb hr hlocks dX2_all_62 (by rw [show i = 2401 by omega])
      ·
        refine lv_iload_n hx hb dX2_all_11 rfl (lv_at hl 1 rfl) ?_
        refine lv_aload_n hx hb dX2_all_12 rfl (lv_at hl 0 rfl) ?_
        refine lv_iconst (v := nI 0) hx hb dX2_all_13 (by decide) ?_
        refine lv_iload_n hx hb dX2_all_14 rfl (lv_at hl 2 rfl) ?_
        refine rd_V S hl (c_X2_isIn l D cI cZ μ σ M V 0 i (by omega) (by omega)) MB.hb gX2_all_X2_isIn rfl rfl nf_X2_isIn rfl rfl dX2_all_15 (MP.rc0 hMK hP) (MB.at hMK ⟨hRel, hPt, hKg, hP⟩) ?_
        refine nv_ifz_ne (tgt := 48) hx hb dX2_all_18 (by decide) (fun c_18 => ?_) (fun c_18 => ?_)
        ·
          refine lv_iconst (v := nI 1) hx hb dX2_all_48 (by decide) ?_
          refine lv_goto (tgt := 53) hx hb dX2_all_49 (by decide) ?_
          refine lv_iadd hx hb dX2_all_53 ?_
          refine nv_as (nI (fb_ct (anyP σ) i + 1)) (nI_add _ _) ?_
          refine lv_istore_n (lv' := [(1, .int (nI (fb_ct (anyP σ) i + 1))), (0, .ref (μ 0)), (2, .int (nI i))]) hx hb dX2_all_54 rfl hl (by decide) rfl (fun ls hl => ?_)
          refine lv_iinc (v := nI (i + 1)) (lv' := [(2, .int (nI (i + 1))), (1, .int (nI (fb_ct (anyP σ) i + 1))), (0, .ref (μ 0))]) hx hb dX2_all_55 hl (k := 2) rfl (inc_nI _) (by decide) rfl (fun ls hl => ?_)
          refine lv_goto (tgt := 4) hx hb dX2_all_58 (by decide) ?_
          exact ih_4 (i + 1) (by omega) (by omega) _ _ (by rw [fb_ct_succ, show anyP σ i = _ by unfold anyP; rw [c_18]]; rfl) (by first | rfl | exact congrArg nI (by omega)) _ (lv_sub hl [2, 1, 0] rfl)
        ·
          refine lv_aload_n hx hb dX2_all_21 rfl (lv_at hl 0 rfl) ?_
          refine lv_iconst (v := nI 1) hx hb dX2_all_22 (by decide) ?_
          refine lv_iload_n hx hb dX2_all_23 rfl (lv_at hl 2 rfl) ?_
          refine rd_V S hl (c_X2_isIn l D cI cZ μ σ M V 1 i (by omega) (by omega)) MB.hb gX2_all_X2_isIn rfl rfl nf_X2_isIn rfl rfl dX2_all_24 (MP.rc0 hMK hP) (MB.at hMK ⟨hRel, hPt, hKg, hP⟩) ?_
          refine nv_ifz_ne (tgt := 48) hx hb dX2_all_27 (by decide) (fun c_27 => ?_) (fun c_27 => ?_)
          ·
            refine lv_iconst (v := nI 1) hx hb dX2_all_48 (by decide) ?_
            refine lv_goto (tgt := 53) hx hb dX2_all_49 (by decide) ?_
            refine lv_iadd hx hb dX2_all_53 ?_
            refine nv_as (nI (fb_ct (anyP σ) i + 1)) (nI_add _ _) ?_
            refine lv_istore_n (lv' := [(1, .int (nI (fb_ct (anyP σ) i + 1))), (0, .ref (μ 0)), (2, .int (nI i))]) hx hb dX2_all_54 rfl hl (by decide) rfl (fun ls hl => ?_)
            refine lv_iinc (v := nI (i + 1)) (lv' := [(2, .int (nI (i + 1))), (1, .int (nI (fb_ct (anyP σ) i + 1))), (0, .ref (μ 0))]) hx hb dX2_all_55 hl (k := 2) rfl (inc_nI _) (by decide) rfl (fun ls hl => ?_)
            refine lv_goto (tgt := 4) hx hb dX2_all_58 (by decide) ?_
            exact ih_4 (i + 1) (by omega) (by omega) _ _ (by rw [fb_ct_succ, show anyP σ i = _ by unfold anyP; rw [c_18, c_27]]; rfl) (by first | rfl | exact congrArg nI (by omega)) _ (lv_sub hl [2, 1, 0] rfl)
          ·
            refine lv_aload_n hx hb dX2_all_30 rfl (lv_at hl 0 rfl) ?_
            refine lv_iconst (v := nI 2) hx hb dX2_all_31 (by decide) ?_
            refine lv_iload_n hx hb dX2_all_32 rfl (lv_at hl 2 rfl) ?_
            refine rd_V S hl (c_X2_isIn l D cI cZ μ σ M V 2 i (by omega) (by omega)) MB.hb gX2_all_X2_isIn rfl rfl nf_X2_isIn rfl rfl dX2_all_33 (MP.rc0 hMK hP) (MB.at hMK ⟨hRel, hPt, hKg, hP⟩) ?_
            refine nv_ifz_ne (tgt := 48) hx hb dX2_all_36 (by decide) (fun c_36 => ?_) (fun c_36 => ?_)
            ·
              refine lv_iconst (v := nI 1) hx hb dX2_all_48 (by decide) ?_
              refine lv_goto (tgt := 53) hx hb dX2_all_49 (by decide) ?_
              refine lv_iadd hx hb dX2_all_53 ?_
              refine nv_as (nI (fb_ct (anyP σ) i + 1)) (nI_add _ _) ?_
              refine lv_istore_n (lv' := [(1, .int (nI (fb_ct (anyP σ) i + 1))), (0, .ref (μ 0)), (2, .int (nI i))]) hx hb dX2_all_54 rfl hl (by decide) rfl (fun ls hl => ?_)
              refine lv_iinc (v := nI (i + 1)) (lv' := [(2, .int (nI (i + 1))), (1, .int (nI (fb_ct (anyP σ) i + 1))), (0, .ref (μ 0))]) hx hb dX2_all_55 hl (k := 2) rfl (inc_nI _) (by decide) rfl (fun ls hl => ?_)
              refine lv_goto (tgt := 4) hx hb dX2_all_58 (by decide) ?_
              exact ih_4 (i + 1) (by omega) (by omega) _ _ (by rw [fb_ct_succ, show anyP σ i = _ by unfold anyP; rw [c_18, c_27, c_36]]; rfl) (by first | rfl | exact congrArg nI (by omega)) _ (lv_sub hl [2, 1, 0] rfl)
            ·
              refine lv_aload_n hx hb dX2_all_39 rfl (lv_at hl 0 rfl) ?_
              refine lv_iconst (v := nI 3) hx hb dX2_all_40 (by decide) ?_
              refine lv_iload_n hx hb dX2_all_41 rfl (lv_at hl 2 rfl) ?_
              refine rd_V S hl (c_X2_isIn l D cI cZ μ σ M V 3 i (by omega) (by omega)) MB.hb gX2_all_X2_isIn rfl rfl nf_X2_isIn rfl rfl dX2_all_42 (MP.rc0 hMK hP) (MB.at hMK ⟨hRel, hPt, hKg, hP⟩) ?_
              refine nv_ifz_eq (tgt := 52) hx hb dX2_all_45 (by decide) (fun c_45 => ?_) (fun c_45 => ?_)
              ·
                refine lv_iconst (v := nI 0) hx hb dX2_all_52 (by decide) ?_
                refine lv_iadd hx hb dX2_all_53 ?_
                refine nv_as (nI (fb_ct (anyP σ) i + 0)) (nI_add _ _) ?_
                refine lv_istore_n (lv' := [(1, .int (nI (fb_ct (anyP σ) i + 0))), (0, .ref (μ 0)), (2, .int (nI i))]) hx hb dX2_all_54 rfl hl (by decide) rfl (fun ls hl => ?_)
                refine lv_iinc (v := nI (i + 1)) (lv' := [(2, .int (nI (i + 1))), (1, .int (nI (fb_ct (anyP σ) i + 0))), (0, .ref (μ 0))]) hx hb dX2_all_55 hl (k := 2) rfl (inc_nI _) (by decide) rfl (fun ls hl => ?_)
                refine lv_goto (tgt := 4) hx hb dX2_all_58 (by decide) ?_
                exact ih_4 (i + 1) (by omega) (by omega) _ _ (by rw [fb_ct_succ, show anyP σ i = _ by unfold anyP; rw [c_18, c_27, c_36, c_45]]; rfl) (by first | rfl | exact congrArg nI (by omega)) _ (lv_sub hl [2, 1, 0] rfl)
              ·
                refine lv_iconst (v := nI 1) hx hb dX2_all_48 (by decide) ?_
                refine lv_goto (tgt := 53) hx hb dX2_all_49 (by decide) ?_
                refine lv_iadd hx hb dX2_all_53 ?_
                refine nv_as (nI (fb_ct (anyP σ) i + 1)) (nI_add _ _) ?_
                refine lv_istore_n (lv' := [(1, .int (nI (fb_ct (anyP σ) i + 1))), (0, .ref (μ 0)), (2, .int (nI i))]) hx hb dX2_all_54 rfl hl (by decide) rfl (fun ls hl => ?_)
                refine lv_iinc (v := nI (i + 1)) (lv' := [(2, .int (nI (i + 1))), (1, .int (nI (fb_ct (anyP σ) i + 1))), (0, .ref (μ 0))]) hx hb dX2_all_55 hl (k := 2) rfl (inc_nI _) (by decide) rfl (fun ls hl => ?_)
                refine lv_goto (tgt := 4) hx hb dX2_all_58 (by decide) ?_
                exact ih_4 (i + 1) (by omega) (by omega) _ _ (by rw [fb_ct_succ, show anyP σ i = _ by unfold anyP; rw [c_18, c_27, c_36, c_45]]; rfl) (by first | rfl | exact congrArg nI (by omega)) _ (lv_sub hl [2, 1, 0] rfl)
  exact loop_4 (2401 - 0 + 1) 0 (by omega) (Nat.lt_succ_self _) _ _ (by first | rfl | exact congrArg nI (by omega)) rfl _ (lv_sub hl [2, 1, 0] rfl)
theorem nf_X2_allPacked : nfOk yX2_allPacked 0 := by unfold nfOk; decide +kernel
set_option maxHeartbeats 4000000 in
set_option maxRecDepth 100000 in
theorem c_X2_allPacked (l : Launch) (D : va_G) (cI cZ : ClassId) (μ : Nat → Nat) (σ : Nat → Nat → Bool) (M : Nat → Nat → Int32) (V : Nat → Int32) : Wr l yX2_allPacked wsX2_allPacked ({ frames := 3, cells := 0, slots := 0, locals := 70 }) [.ref (μ 0)] (MB D cI cZ μ σ M V) (some (.int (nI (pkA σ 4)))) (MS D cI cZ μ σ (M 5)) (xA 13 μ) := by
  refine met_in RX2 (by decide) rfl rfl (Nat.le_of_ble_eq_true rfl) ?_
  intro p e s m below meth c ls S hr hlocks hl hB
  have hx := S.1
  have hb := S.2.1
  have hml := S.2.2.1
  have hown := S.2.2.2.1
  have hts := S.2.2.2.2
  have hl : lv_has ls 3 [(0, .ref (μ 0))] := hl
  obtain ⟨⟨hRel, hPt, hKg, hP⟩, hMK⟩ := hB
  have hK := hMK.1
  have hS : va_S (xA 13 μ) s.heap s.heap [] := va_S.rf
  refine lv_iconst (v := nI 0) hx hb dX2_allPacked_0 (by decide) ?_
  refine lv_istore_n (lv' := [(1, .int (nI 0)), (0, .ref (μ 0))]) hx hb dX2_allPacked_1 rfl hl (by decide) rfl (fun ls hl => ?_)
  refine lv_iconst (v := nI 0) hx hb dX2_allPacked_2 (by decide) ?_
  refine lv_istore_n (lv' := [(2, .int (nI 0)), (1, .int (nI 0)), (0, .ref (μ 0))]) hx hb dX2_allPacked_3 rfl hl (by decide) rfl (fun ls hl => ?_)
  have loop_4 : ∀ (n : Nat) (i : Nat) (M1 : Nat → Nat → Int32) (V1 : Nat → Int32), (i ≤ 4) → (M1 5 = M 5) → 4 - i < n → ∀ (x1 x2 : Int32), x1 = nI (pkA σ i) → x2 = nI i → ∀ (H : Heap) (locs : List Loc), va_S (xA 13 μ) s.heap H locs → MP D cI cZ μ σ M1 V1 H → ∀ ls : Array Slot, lv_has ls 3 [(0, .ref (μ 0)), (1, .int x1), (2, .int x2)] → W p l e (headSpec wsX2_allPacked ({ frames := 3, cells := 0, slots := 0, locals := 70 })).room s m [.ref (μ 0)].toArray below meth c H locs 0 0 (MQ below (qW (some (.int (nI (pkA σ 4)))) (MS D cI cZ μ σ (M 5)) (xA 13 μ)) [.ref (μ 0)].toArray s 0 0 (xA 13 μ)) (F0 m 4 ls []) := by
    intro n
    induction n with
    | zero => intro i M1 V1 hi h5 hm; exact absurd hm (Nat.not_lt_zero _)
    | succ n ih_4 =>
      intro i M1 V1 hi h5 hm_4 x1 x2 e1 e2 H locs hS hPP ls hl
      subst e1
      subst e2
      obtain ⟨hRel, hPt, hKg, hP⟩ := hPP
      refine lv_iload_n hx hb dX2_allPacked_4 rfl (lv_at hl 2 rfl) ?_
      refine lv_iconst (v := nI 4) hx hb dX2_allPacked_5 (by decide) ?_
      refine nv_icmp_ge (tgt := 27) hx hb dX2_allPacked_6 (by decide) (by omega) (by omega) (fun c_6 => ?_) (fun c_6 => ?_)
      ·
        refine lv_iload_n hx hb dX2_allPacked_27 rfl (lv_at hl 1 rfl) ?_
        exact ret_wi hx hb hr hlocks dX2_allPacked_28 hS (⟨_, _, h5, hRel, hPt, hKg, hP⟩) (by rw [show i = 4 by omega])
      ·
        refine lv_aload_n hx hb dX2_allPacked_9 rfl (lv_at hl 0 rfl) ?_
        refine lv_iload_n hx hb dX2_allPacked_10 rfl (lv_at hl 2 rfl) ?_
        refine wr_V S hl (c_X2_pack l D cI cZ μ σ M1 V1 i (by omega)) MB.hb gX2_allPacked_X2_pack rfl rfl nf_X2_pack rfl rfl dX2_allPacked_11 (MP.rc0 hMK hP) (MB.at hMK ⟨hRel, hPt, hKg, hP⟩) hS (fun _ h => h) (fun H locs hPP hS _ hkp => ?_)
        obtain ⟨M_11, V_11, ⟨h5_11, hv_11, hpk_11⟩, hRel, hPt, hKg, hP⟩ := hPP
        refine W.eq (g2 := F0 m 14 ls []) rfl ?_
        refine lv_iload_n hx hb dX2_allPacked_14 rfl (lv_at hl 1 rfl) ?_
        refine lv_aload_n hx hb dX2_allPacked_15 rfl (lv_at hl 0 rfl) ?_
        refine va_get (D := D) (ci := 2) (v := .int (V_11 0)) (C := RX2) (T := TX2) (N := 15) hx hb hts (by decide +kernel) hown hK hP 0 rfl rfl 9 (by decide) (hts (.fieldLink RX2 100 "SevenKeysModel" "packs" "I") (by decide +kernel)) (fun _ h9 => h9) rfl dX2_allPacked_16 ?_
        refine nv_as (nI (pkC (σ i))) (by exact hv_11) ?_
        refine lv_iadd hx hb dX2_allPacked_19 ?_
        refine nv_as (nI (pkA σ i + (pkC (σ i)))) (nI_add _ _) ?_
        refine lv_istore_n (lv' := [(1, .int (nI (pkA σ i + (pkC (σ i))))), (0, .ref (μ 0)), (2, .int (nI i))]) hx hb dX2_allPacked_20 rfl hl (by decide) rfl (fun ls hl => ?_)
        refine lv_iinc (v := nI (i + 1)) (lv' := [(2, .int (nI (i + 1))), (1, .int (nI (pkA σ i + (pkC (σ i))))), (0, .ref (μ 0))]) hx hb dX2_allPacked_21 hl (k := 2) rfl (inc_nI _) (by decide) rfl (fun ls hl => ?_)
        refine lv_goto (tgt := 4) hx hb dX2_allPacked_24 (by decide) ?_
        exact ih_4 (i + 1) M_11 V_11 (by omega) (by exact h5_11.trans h5) (by omega) _ _ (by rfl) (by first | rfl | exact congrArg nI (by omega)) _ _ hS ⟨hRel, hPt, hKg, hP⟩ _ (lv_sub hl [2, 1, 0] rfl)
  exact loop_4 (4 - 0 + 1) 0 M V (by omega) (by rfl) (Nat.lt_succ_self _) _ _ (by first | rfl | exact congrArg nI (by omega)) rfl _ _ hS ⟨hRel, hPt, hKg, hP⟩ _ (lv_sub hl [2, 1, 0] rfl)
theorem nf_X2_count : nfOk yX2_count 1 := by unfold nfOk; decide +kernel
set_option maxHeartbeats 4000000 in
set_option maxRecDepth 100000 in
theorem c_X2_count (l : Launch) (D : va_G) (cI cZ : ClassId) (μ : Nat → Nat) (σ : Nat → Nat → Bool) (M : Nat → Nat → Int32) (V : Nat → Int32) (x : Int32) (kp : Nat → Bool) (hkp : ∀ j, j < 2 → M 5 j = bI (kp j)) : Wr l yX2_count wsX2_count ({ frames := 4, cells := 0, slots := 0, locals := 92 }) [.ref (μ 0), .int x] (MB D cI cZ μ σ M V) (some (.int (countR σ (kv kp) x))) (MS D cI cZ μ σ (M 5)) (xA 13 μ) := by
  refine met_in RX2 (by decide) rfl rfl (Nat.le_of_ble_eq_true rfl) ?_
  intro p e s m below meth c ls S hr hlocks hl hB
  have hx := S.1
  have hb := S.2.1
  have hml := S.2.2.1
  have hown := S.2.2.2.1
  have hts := S.2.2.2.2
  have hl : lv_has ls 2 [(0, .ref (μ 0)), (1, .int x)] := hl
  obtain ⟨⟨hRel, hPt, hKg, hP⟩, hMK⟩ := hB
  have hK := hMK.1
  have hS : va_S (xA 13 μ) s.heap s.heap [] := va_S.rf
  refine lv_iload_n hx hb dX2_count_0 rfl (lv_at hl 1 rfl) ?_
  refine lv_if_ne (tgt := 11) hx hb dX2_count_1 (by decide) (fun c_1 => ?_) (fun c_1 => ?_)
  ·
    refine lv_iload_n hx hb dX2_count_11 rfl (lv_at hl 1 rfl) ?_
    refine lv_iconst (v := nI 1) hx hb dX2_count_12 (by decide) ?_
    refine lv_icmp_ne (tgt := 23) hx hb dX2_count_13 (by decide) (fun c_13 => ?_) (fun c_13 => ?_)
    ·
      refine lv_iload_n hx hb dX2_count_23 rfl (lv_at hl 1 rfl) ?_
      refine lv_iconst (v := nI 2) hx hb dX2_count_24 (by decide) ?_
      refine lv_icmp_ne (tgt := 60) hx hb dX2_count_25 (by decide) (fun c_25 => ?_) (fun c_25 => ?_)
      ·
        refine lv_bipush (v := (-2)) hx hb dX2_count_60 (by decide) ?_
        exact ret_wi hx hb hr hlocks dX2_count_62 hS (⟨_, _, by first | rfl | exact h5_17, hRel, hPt, hKg, hP⟩) (by unfold countR; first | (rw [if_pos (show x = nI 0 from c_1)]; done) | (rw [if_neg (show ¬ x = nI 0 from c_1), if_pos c_13]; done) | (rw [if_neg (show ¬ x = nI 0 from c_1), if_neg c_13, if_pos c_25]; unfold kv; rw []; rfl) | (rw [if_neg (show ¬ x = nI 0 from c_1), if_neg c_13, if_neg c_25]))
      ·
        refine lv_aload_n hx hb dX2_count_28 rfl (lv_at hl 0 rfl) ?_
        refine va_get (D := D) (ci := 2) (v := .ref (μ 5)) (C := RX2) (T := TX2) (N := 15) hx hb hts (by decide +kernel) hown hK hP 0 rfl rfl 4 (by decide) (hts (.fieldLink RX2 23 "SevenKeysModel" "isKept" "[Z") (by decide +kernel)) (fun _ h9 => h9) rfl dX2_count_29 ?_
        refine lv_iconst (v := nI 0) hx hb dX2_count_32 (by decide) ?_
        refine nv_zald hx hb hK hP 5 1 rfl rfl (by omega) (by decide) dX2_count_33 ?_
        refine nv_as (bI (kp 0)) (by exact hkp 0 (by omega)) ?_
        refine nv_ifz_eq (tgt := 41) hx hb dX2_count_34 (by decide) (fun c_34 => ?_) (fun c_34 => ?_)
        ·
          refine lv_iconst (v := nI 0) hx hb dX2_count_41 (by decide) ?_
          refine lv_aload_n hx hb dX2_count_42 rfl (lv_at hl 0 rfl) ?_
          refine va_get (D := D) (ci := 2) (v := .ref (μ 5)) (C := RX2) (T := TX2) (N := 15) hx hb hts (by decide +kernel) hown hK hP 0 rfl rfl 4 (by decide) (hts (.fieldLink RX2 23 "SevenKeysModel" "isKept" "[Z") (by decide +kernel)) (fun _ h9 => h9) rfl dX2_count_43 ?_
          refine lv_iconst (v := nI 1) hx hb dX2_count_46 (by decide) ?_
          refine nv_zald hx hb hK hP 5 1 rfl rfl (by omega) (by decide) dX2_count_47 ?_
          refine nv_as (bI (kp 1)) (by exact hkp 1 (by omega)) ?_
          refine nv_ifz_eq (tgt := 55) hx hb dX2_count_48 (by decide) (fun c_48 => ?_) (fun c_48 => ?_)
          ·
            refine lv_iconst (v := nI 0) hx hb dX2_count_55 (by decide) ?_
            refine lv_iadd hx hb dX2_count_56 ?_
            refine nv_as (nI (0 + 0)) (nI_add _ _) ?_
            refine lv_goto (tgt := 62) hx hb dX2_count_57 (by decide) ?_
            exact ret_wi hx hb hr hlocks dX2_count_62 hS (⟨_, _, by first | rfl | exact h5_17, hRel, hPt, hKg, hP⟩) (by unfold countR; first | (rw [if_pos (show x = nI 0 from c_1)]; done) | (rw [if_neg (show ¬ x = nI 0 from c_1), if_pos c_13]; done) | (rw [if_neg (show ¬ x = nI 0 from c_1), if_neg c_13, if_pos c_25]; unfold kv; rw [c_34, c_48]; rfl) | (rw [if_neg (show ¬ x = nI 0 from c_1), if_neg c_13, if_neg c_25]))
          ·
            refine lv_iconst (v := nI 2) hx hb dX2_count_51 (by decide) ?_
            refine lv_goto (tgt := 56) hx hb dX2_count_52 (by decide) ?_
            refine lv_iadd hx hb dX2_count_56 ?_
            refine nv_as (nI (0 + 2)) (nI_add _ _) ?_
            refine lv_goto (tgt := 62) hx hb dX2_count_57 (by decide) ?_
            exact ret_wi hx hb hr hlocks dX2_count_62 hS (⟨_, _, by first | rfl | exact h5_17, hRel, hPt, hKg, hP⟩) (by unfold countR; first | (rw [if_pos (show x = nI 0 from c_1)]; done) | (rw [if_neg (show ¬ x = nI 0 from c_1), if_pos c_13]; done) | (rw [if_neg (show ¬ x = nI 0 from c_1), if_neg c_13, if_pos c_25]; unfold kv; rw [c_34, c_48]; rfl) | (rw [if_neg (show ¬ x = nI 0 from c_1), if_neg c_13, if_neg c_25]))
        ·
          refine lv_iconst (v := nI 1) hx hb dX2_count_37 (by decide) ?_
          refine lv_goto (tgt := 42) hx hb dX2_count_38 (by decide) ?_
          refine lv_aload_n hx hb dX2_count_42 rfl (lv_at hl 0 rfl) ?_
          refine va_get (D := D) (ci := 2) (v := .ref (μ 5)) (C := RX2) (T := TX2) (N := 15) hx hb hts (by decide +kernel) hown hK hP 0 rfl rfl 4 (by decide) (hts (.fieldLink RX2 23 "SevenKeysModel" "isKept" "[Z") (by decide +kernel)) (fun _ h9 => h9) rfl dX2_count_43 ?_
          refine lv_iconst (v := nI 1) hx hb dX2_count_46 (by decide) ?_
          refine nv_zald hx hb hK hP 5 1 rfl rfl (by omega) (by decide) dX2_count_47 ?_
          refine nv_as (bI (kp 1)) (by exact hkp 1 (by omega)) ?_
          refine nv_ifz_eq (tgt := 55) hx hb dX2_count_48 (by decide) (fun c_48 => ?_) (fun c_48 => ?_)
          ·
            refine lv_iconst (v := nI 0) hx hb dX2_count_55 (by decide) ?_
            refine lv_iadd hx hb dX2_count_56 ?_
            refine nv_as (nI (1 + 0)) (nI_add _ _) ?_
            refine lv_goto (tgt := 62) hx hb dX2_count_57 (by decide) ?_
            exact ret_wi hx hb hr hlocks dX2_count_62 hS (⟨_, _, by first | rfl | exact h5_17, hRel, hPt, hKg, hP⟩) (by unfold countR; first | (rw [if_pos (show x = nI 0 from c_1)]; done) | (rw [if_neg (show ¬ x = nI 0 from c_1), if_pos c_13]; done) | (rw [if_neg (show ¬ x = nI 0 from c_1), if_neg c_13, if_pos c_25]; unfold kv; rw [c_34, c_48]; rfl) | (rw [if_neg (show ¬ x = nI 0 from c_1), if_neg c_13, if_neg c_25]))
          ·
            refine lv_iconst (v := nI 2) hx hb dX2_count_51 (by decide) ?_
            refine lv_goto (tgt := 56) hx hb dX2_count_52 (by decide) ?_
            refine lv_iadd hx hb dX2_count_56 ?_
            refine nv_as (nI (1 + 2)) (nI_add _ _) ?_
            refine lv_goto (tgt := 62) hx hb dX2_count_57 (by decide) ?_
            exact ret_wi hx hb hr hlocks dX2_count_62 hS (⟨_, _, by first | rfl | exact h5_17, hRel, hPt, hKg, hP⟩) (by unfold countR; first | (rw [if_pos (show x = nI 0 from c_1)]; done) | (rw [if_neg (show ¬ x = nI 0 from c_1), if_pos c_13]; done) | (rw [if_neg (show ¬ x = nI 0 from c_1), if_neg c_13, if_pos c_25]; unfold kv; rw [c_34, c_48]; rfl) | (rw [if_neg (show ¬ x = nI 0 from c_1), if_neg c_13, if_neg c_25]))
    ·
      refine lv_aload_n hx hb dX2_count_16 rfl (lv_at hl 0 rfl) ?_
      refine wr_V S hl (c_X2_allPacked l D cI cZ μ σ M V) MB.hb gX2_count_X2_allPacked rfl rfl nf_X2_allPacked rfl rfl dX2_count_17 (MP.rc0 hMK hP) (MB.at hMK ⟨hRel, hPt, hKg, hP⟩) hS (fun _ h => h) (fun H locs hPP hS _ hkp => ?_)
      obtain ⟨M_17, V_17, h5_17, hRel, hPt, hKg, hP⟩ := hPP
      refine W.eq (g2 := F0 m 20 ls [.int (nI (pkA σ 4))]) rfl ?_
      refine lv_goto (tgt := 62) hx hb dX2_count_20 (by decide) ?_
      exact ret_wi hx hb hr hlocks dX2_count_62 hS (⟨_, _, by first | rfl | exact h5_17, hRel, hPt, hKg, hP⟩) (by unfold countR; first | (rw [if_pos (show x = nI 0 from c_1)]; done) | (rw [if_neg (show ¬ x = nI 0 from c_1), if_pos c_13]; done) | (rw [if_neg (show ¬ x = nI 0 from c_1), if_neg c_13, if_pos c_25]; unfold kv; rw []; rfl) | (rw [if_neg (show ¬ x = nI 0 from c_1), if_neg c_13, if_neg c_25]))
  ·
    refine lv_aload_n hx hb dX2_count_4 rfl (lv_at hl 0 rfl) ?_
    refine rd_V S hl (c_X2_all l D cI cZ μ σ M V) MB.hb gX2_count_X2_all rfl rfl nf_X2_all rfl rfl dX2_count_5 (MP.rc0 hMK hP) (MB.at hMK ⟨hRel, hPt, hKg, hP⟩) ?_
    refine lv_goto (tgt := 62) hx hb dX2_count_8 (by decide) ?_
    exact ret_wi hx hb hr hlocks dX2_count_62 hS (⟨_, _, by first | rfl | exact h5_17, hRel, hPt, hKg, hP⟩) (by unfold countR; first | (rw [if_pos (show x = nI 0 from c_1)]; done) | (rw [if_neg (show ¬ x = nI 0 from c_1), if_pos c_13]; done) | (rw [if_neg (show ¬ x = nI 0 from c_1), if_neg c_13, if_pos c_25]; unfold kv; rw []; rfl) | (rw [if_neg (show ¬ x = nI 0 from c_1), if_neg c_13, if_neg c_25]))
