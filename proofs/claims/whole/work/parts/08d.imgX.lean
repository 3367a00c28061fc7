theorem nf_X1_alike : nfOk yX1_alike 2 := by unfold nfOk; decide +kernel
set_option maxHeartbeats 4000000 in
set_option maxRecDepth 100000 in
theorem c_X1_alike (l : Launch) (D : va_G) (cI cZ : ClassId) (ρ : Nat → Nat) (ts : Nat) (σ : Nat → Nat → Bool) (κ : Int32) (mk : Nat → Int32) (qu : Nat → Int32) (a : Int32) (b : Int32) : Rd l yX1_alike wsX1_alike ({ frames := 2, cells := 0, slots := 0, locals := 42 }) [.ref (ρ 0), .int a, .int b] (XB D cI cZ ρ ts σ κ mk qu) (alikeR σ a b) := by
  refine met_in RX1 (by decide) rfl rfl (Nat.le_of_ble_eq_true rfl) ?_
  intro p e s m below meth c ls S hr hlocks hl hB
  have hx := S.1
  have hb := S.2.1
  have hml := S.2.2.1
  have hown := S.2.2.2.1
  have hts := S.2.2.2.2
  have hl : lv_has ls 9 [(0, .ref (ρ 0)), (1, .int a), (2, .int b)] := hl
  obtain ⟨⟨held, hRel, hP⟩, hXK⟩ := hB
  have hK := hXK.1
  have hS : va_S (xA 7 ρ) s.heap s.heap [] := va_S.rf
  refine lv_iload_n hx hb dX1_alike_0 rfl (lv_at hl 1 rfl) ?_
  refine rd_S S hl (c_X1_isSlot l a) HB.tt gX1_alike_X1_isSlot rfl nf_X1_isSlot rfl rfl dX1_alike_1  (fun _ _ _ => trivial) ?_
  refine nv_ifz_eq (tgt := 14) hx hb dX1_alike_4 (by decide) (fun c_4 => ?_) (fun c_4 => ?_)
  ·
    refine lv_iconst (v := (-1)) hx hb dX1_alike_14 (by decide) ?_
    exact ret_i hx hb hr hlocks dX1_alike_15 (by first | (simp [alikeR, gd, gs, c_4, c_11]; done) | (simp [alikeR, gd, gs, c_4]; done))
  ·
    obtain ⟨sa, hsa, hxsa⟩ := wI_nat c_4 (by decide)
    subst hxsa
    have hcsa : (nI sa).toNatClampNeg = sa := nI_clamp (by omega)
    refine lv_iload_n hx hb dX1_alike_7 rfl (lv_at hl 2 rfl) ?_
    refine rd_S S hl (c_X1_isSlot l b) HB.tt gX1_alike_X1_isSlot rfl nf_X1_isSlot rfl rfl dX1_alike_8  (fun _ _ _ => trivial) ?_
    refine nv_ifz_ne (tgt := 16) hx hb dX1_alike_11 (by decide) (fun c_11 => ?_) (fun c_11 => ?_)
    ·
      obtain ⟨sb, hsb, hxsb⟩ := wI_nat c_11 (by decide)
      subst hxsb
      have hcsb : (nI sb).toNatClampNeg = sb := nI_clamp (by omega)
      refine lv_iconst (v := nI 0) hx hb dX1_alike_16 (by decide) ?_
      refine lv_istore_n (lv' := [(3, .int (nI 0)), (0, .ref (ρ 0)), (1, .int (nI sa)), (2, .int (nI sb))]) hx hb dX1_alike_17 rfl hl (by decide) rfl (fun ls hl => ?_)
      refine lv_iconst (v := nI 0) hx hb dX1_alike_18 (by decide) ?_
      refine lv_istore (lv' := [(4, .int (nI 0)), (3, .int (nI 0)), (0, .ref (ρ 0)), (1, .int (nI sa)), (2, .int (nI sb))]) hx hb dX1_alike_19 hl (by decide) rfl (fun ls hl => ?_)
      refine lv_iconst (v := nI 0) hx hb dX1_alike_21 (by decide) ?_
      refine lv_istore (lv' := [(5, .int (nI 0)), (4, .int (nI 0)), (3, .int (nI 0)), (0, .ref (ρ 0)), (1, .int (nI sa)), (2, .int (nI sb))]) hx hb dX1_alike_22 hl (by decide) rfl (fun ls hl => ?_)
      refine lv_iconst (v := nI 0) hx hb dX1_alike_24 (by decide) ?_
      refine lv_istore (lv' := [(6, .int (nI 0)), (5, .int (nI 0)), (4, .int (nI 0)), (3, .int (nI 0)), (0, .ref (ρ 0)), (1, .int (nI sa)), (2, .int (nI sb))]) hx hb dX1_alike_25 hl (by decide) rfl (fun ls hl => ?_)
      have loop_27 : ∀ (n : Nat) (i : Nat), (i ≤ 2401) → 2401 - i < n → ∀ (x3 x4 x5 x6 : Int32), x3 = bI (orN (fun j => σ sa j && !σ sb j) i) → x4 = bI (orN (fun j => σ sb j && !σ sa j) i) → x5 = bI (orN (fun j => σ sa j && σ sb j) i) → x6 = nI i → ∀ ls : Array Slot, lv_has ls 9 [(0, .ref (ρ 0)), (1, .int (nI sa)), (2, .int (nI sb)), (3, .int x3), (4, .int x4), (5, .int x5), (6, .int x6)] → W p l e (headSpec wsX1_alike ({ frames := 2, cells := 0, slots := 0, locals := 42 })).room s m [.ref (ρ 0), .int (nI sa), .int (nI sb)].toArray below meth c s.heap [] 0 0 (MQ below (vp_Si (fun r => r = alikeR σ (nI sa) (nI sb))) [.ref (ρ 0), .int (nI sa), .int (nI sb)].toArray s 0 0 (fun _ => False)) (F0 m 27 ls []) := by
        intro n
        induction n with
        | zero => intro i hi hm; exact absurd hm (Nat.not_lt_zero _)
        | succ n ih_27 =>
          intro i hi hm_27 x3 x4 x5 x6 e3 e4 e5 e6 ls hl
          subst e3
          subst e4
          subst e5
          subst e6
          refine lv_iload hx hb dX1_alike_27 (lv_at hl 6 rfl) ?_
          refine lv_sipush (v := nI 2401) hx hb dX1_alike_29 (by decide) ?_
          refine nv_icmp_ge (tgt := 123) hx hb dX1_alike_32 (by decide) (by omega) (by omega) (fun c_32 => ?_) (fun c_32 => ?_)
          ·
            refine lv_iload_n hx hb dX1_alike_123 rfl (lv_at hl 3 rfl) ?_
            refine nv_ifz_ne (tgt := 138) hx hb dX1_alike_124 (by decide) (fun c_124 => ?_) (fun c_124 => ?_)
            ·
              refine lv_iload hx hb dX1_alike_138 (lv_at hl 4 rfl) ?_
              refine nv_ifz_ne (tgt := 145) hx hb dX1_alike_140 (by decide) (fun c_140 => ?_) (fun c_140 => ?_)
              ·
                refine lv_iload hx hb dX1_alike_145 (lv_at hl 5 rfl) ?_
                refine nv_ifz_eq (tgt := 154) hx hb dX1_alike_147 (by decide) (fun c_147 => ?_) (fun c_147 => ?_)
                ·
                  refine lv_iconst (v := nI 3) hx hb dX1_alike_154 (by decide) ?_
                  exact ret_i hx hb hr hlocks dX1_alike_155 (by unfold alikeR; rw [show cl (nI sa) = sa from hcsa, show cl (nI sb) = sb from hcsb, ← show i = 2401 by omega]; simp [gs, alikeF, c_4, c_11, c_4, c_11, c_124, c_140, c_147])
                ·
                  refine lv_iconst (v := nI 4) hx hb dX1_alike_150 (by decide) ?_
                  refine lv_goto (tgt := 155) hx hb dX1_alike_151 (by decide) ?_
                  exact ret_i hx hb hr hlocks dX1_alike_155 (by unfold alikeR; rw [show cl (nI sa) = sa from hcsa, show cl (nI sb) = sb from hcsb, ← show i = 2401 by omega]; simp [gs, alikeF, c_4, c_11, c_4, c_11, c_124, c_140, c_147])
              ·
                refine lv_iconst (v := nI 2) hx hb dX1_alike_143 (by decide) ?_
                exact ret_i hx hb hr hlocks dX1_alike_144 (by unfold alikeR; rw [show cl (nI sa) = sa from hcsa, show cl (nI sb) = sb from hcsb, ← show i = 2401 by omega]; simp [gs, alikeF, c_4, c_11, c_4, c_11, c_124, c_140])
            ·
              refine lv_iload hx hb dX1_alike_127 (lv_at hl 4 rfl) ?_
              refine nv_ifz_eq (tgt := 136) hx hb dX1_alike_129 (by decide) (fun c_129 => ?_) (fun c_129 => ?_)
              ·
                refine lv_iconst (v := nI 0) hx hb dX1_alike_136 (by decide) ?_
                exact ret_i hx hb hr hlocks dX1_alike_137 (by unfold alikeR; rw [show cl (nI sa) = sa from hcsa, show cl (nI sb) = sb from hcsb, ← show i = 2401 by omega]; simp [gs, alikeF, c_4, c_11, c_4, c_11, c_124, c_129])
              ·
                refine lv_iconst (v := nI 1) hx hb dX1_alike_132 (by decide) ?_
                refine lv_goto (tgt := 137) hx hb dX1_alike_133 (by decide) ?_
                exact ret_i hx hb hr hlocks dX1_alike_137 (by unfold alikeR; rw [show cl (nI sa) = sa from hcsa, show cl (nI sb) = sb from hcsb, ← show i = 2401 by omega]; simp [gs, alikeF, c_4, c_11, c_4, c_11, c_124, c_129])
          ·
            refine lv_aload_n hx hb dX1_alike_35 rfl (lv_at hl 0 rfl) ?_
            refine lv_iload_n hx hb dX1_alike_36 rfl (lv_at hl 1 rfl) ?_
            refine lv_iload hx hb dX1_alike_37 (lv_at hl 6 rfl) ?_
            refine rd_V S hl (c_X1_holds l D cI cZ ρ ts σ κ mk qu sa (some i) (by omega) (by exact fun j h => by first | exact nbo_lt h | (cases h; omega))) XB.hb gX1_alike_X1_holds rfl rfl nf_X1_holds rfl rfl dX1_alike_39 (XP.rc0 hXK hP) (XB.at hXK hS ⟨held, hRel, hP⟩) ?_
            refine nv_as (bI (σ sa i)) rfl ?_
            refine lv_istore (lv' := [(7, .int (bI (σ sa i))), (0, .ref (ρ 0)), (1, .int (nI sa)), (2, .int (nI sb)), (3, .int (bI (orN (fun j => σ sa j && !σ sb j) i))), (4, .int (bI (orN (fun j => σ sb j && !σ sa j) i))), (5, .int (bI (orN (fun j => σ sa j && σ sb j) i))), (6, .int (nI i))]) hx hb dX1_alike_42 hl (by decide) rfl (fun ls hl => ?_)
            refine lv_aload_n hx hb dX1_alike_44 rfl (lv_at hl 1 rfl) ?_
            refine lv_iload_n hx hb dX1_alike_45 rfl (lv_at hl 3 rfl) ?_
            refine lv_iload hx hb dX1_alike_46 (lv_at hl 7 rfl) ?_
            refine rd_V S hl (c_X1_holds l D cI cZ ρ ts σ κ mk qu sb (some i) (by omega) (by exact fun j h => by first | exact nbo_lt h | (cases h; omega))) XB.hb gX1_alike_X1_holds rfl rfl nf_X1_holds rfl rfl dX1_alike_48 (XP.rc0 hXK hP) (XB.at hXK hS ⟨held, hRel, hP⟩) ?_
            refine nv_as (bI (σ sb i)) rfl ?_
            refine lv_istore (lv' := [(8, .int (bI (σ sb i))), (7, .int (bI (σ sa i))), (0, .ref (ρ 0)), (1, .int (nI sa)), (2, .int (nI sb)), (3, .int (bI (orN (fun j => σ sa j && !σ sb j) i))), (4, .int (bI (orN (fun j => σ sb j && !σ sa j) i))), (5, .int (bI (orN (fun j => σ sa j && σ sb j) i))), (6, .int (nI i))]) hx hb dX1_alike_51 hl (by decide) rfl (fun ls hl => ?_)
            refine lv_iload_n hx hb dX1_alike_53 rfl (lv_at hl 5 rfl) ?_
            refine nv_ifz_ne (tgt := 67) hx hb dX1_alike_54 (by decide) (fun c_54 => ?_) (fun c_54 => ?_)
            ·
              refine lv_iconst (v := nI 1) hx hb dX1_alike_67 (by decide) ?_
              refine lv_goto (tgt := 72) hx hb dX1_alike_68 (by decide) ?_
              refine lv_istore_n (lv' := [(3, .int (nI 1)), (8, .int (bI (σ sb i))), (7, .int (bI (σ sa i))), (0, .ref (ρ 0)), (1, .int (nI sa)), (2, .int (nI sb)), (4, .int (bI (orN (fun j => σ sb j && !σ sa j) i))), (5, .int (bI (orN (fun j => σ sa j && σ sb j) i))), (6, .int (nI i))]) hx hb dX1_alike_72 rfl hl (by decide) rfl (fun ls hl => ?_)
              refine lv_iload hx hb dX1_alike_73 (lv_at hl 6 rfl) ?_
              refine nv_ifz_ne (tgt := 88) hx hb dX1_alike_75 (by decide) (fun c_75 => ?_) (fun c_75 => ?_)
              ·
                refine lv_iconst (v := nI 1) hx hb dX1_alike_88 (by decide) ?_
                refine lv_goto (tgt := 93) hx hb dX1_alike_89 (by decide) ?_
                refine lv_istore (lv' := [(4, .int (nI 1)), (3, .int (nI 1)), (8, .int (bI (σ sb i))), (7, .int (bI (σ sa i))), (0, .ref (ρ 0)), (1, .int (nI sa)), (2, .int (nI sb)), (5, .int (bI (orN (fun j => σ sa j && σ sb j) i))), (6, .int (nI i))]) hx hb dX1_alike_93 hl (by decide) rfl (fun ls hl => ?_)
                refine lv_iload hx hb dX1_alike_95 (lv_at hl 7 rfl) ?_
                refine nv_ifz_ne (tgt := 110) hx hb dX1_alike_97 (by decide) (fun c_97 => ?_) (fun c_97 => ?_)
                ·
                  refine lv_iconst (v := nI 1) hx hb dX1_alike_110 (by decide) ?_
                  refine lv_goto (tgt := 115) hx hb dX1_alike_111 (by decide) ?_
                  refine lv_istore (lv' := [(5, .int (nI 1)), (4, .int (nI 1)), (3, .int (nI 1)), (8, .int (bI (σ sb i))), (7, .int (bI (σ sa i))), (0, .ref (ρ 0)), (1, .int (nI sa)), (2, .int (nI sb)), (6, .int (nI i))]) hx hb dX1_alike_115 hl (by decide) rfl (fun ls hl => ?_)
                  refine lv_iinc (v := nI (i + 1)) (lv' := [(6, .int (nI (i + 1))), (5, .int (nI 1)), (4, .int (nI 1)), (3, .int (nI 1)), (8, .int (bI (σ sb i))), (7, .int (bI (σ sa i))), (0, .ref (ρ 0)), (1, .int (nI sa)), (2, .int (nI sb))]) hx hb dX1_alike_117 hl (k := 8) rfl (inc_nI _) (by decide) rfl (fun ls hl => ?_)
                  refine lv_goto (tgt := 27) hx hb dX1_alike_120 (by decide) ?_
                  exact ih_27 (i + 1) (by omega) (by omega) _ _ _ _ (congrArg bI (show true = orN (fun j => σ sa j && !σ sb j) (i + 1) by simp [orN, c_4, c_11, c_54, c_75, c_97])) (congrArg bI (show true = orN (fun j => σ sb j && !σ sa j) (i + 1) by simp [orN, c_4, c_11, c_54, c_75, c_97])) (congrArg bI (show true = orN (fun j => σ sa j && σ sb j) (i + 1) by simp [orN, c_4, c_11, c_54, c_75, c_97])) (by first | rfl | exact congrArg nI (by omega)) _ (lv_sub hl [6, 7, 8, 3, 2, 1, 0] rfl)
                ·
                  refine lv_iload hx hb dX1_alike_100 (lv_at hl 3 rfl) ?_
                  refine nv_ifz_eq (tgt := 114) hx hb dX1_alike_102 (by decide) (fun c_102 => ?_) (fun c_102 => ?_)
                  ·
                    refine lv_iconst (v := nI 0) hx hb dX1_alike_114 (by decide) ?_
                    refine lv_istore (lv' := [(5, .int (nI 0)), (4, .int (nI 1)), (3, .int (nI 1)), (8, .int (bI (σ sb i))), (7, .int (bI (σ sa i))), (0, .ref (ρ 0)), (1, .int (nI sa)), (2, .int (nI sb)), (6, .int (nI i))]) hx hb dX1_alike_115 hl (by decide) rfl (fun ls hl => ?_)
                    refine lv_iinc (v := nI (i + 1)) (lv' := [(6, .int (nI (i + 1))), (5, .int (nI 0)), (4, .int (nI 1)), (3, .int (nI 1)), (8, .int (bI (σ sb i))), (7, .int (bI (σ sa i))), (0, .ref (ρ 0)), (1, .int (nI sa)), (2, .int (nI sb))]) hx hb dX1_alike_117 hl (k := 8) rfl (inc_nI _) (by decide) rfl (fun ls hl => ?_)
                    refine lv_goto (tgt := 27) hx hb dX1_alike_120 (by decide) ?_
                    exact ih_27 (i + 1) (by omega) (by omega) _ _ _ _ (congrArg bI (show true = orN (fun j => σ sa j && !σ sb j) (i + 1) by simp [orN, c_4, c_11, c_54, c_75, c_97, c_102])) (congrArg bI (show true = orN (fun j => σ sb j && !σ sa j) (i + 1) by simp [orN, c_4, c_11, c_54, c_75, c_97, c_102])) (congrArg bI (show false = orN (fun j => σ sa j && σ sb j) (i + 1) by simp [orN, c_4, c_11, c_54, c_75, c_97, c_102])) (by first | rfl | exact congrArg nI (by omega)) _ (lv_sub hl [6, 7, 8, 3, 2, 1, 0] rfl)
                  ·
                    refine lv_iload hx hb dX1_alike_105 (lv_at hl 2 rfl) ?_
                    refine nv_ifz_eq (tgt := 114) hx hb dX1_alike_107 (by decide) (fun c_107 => ?_) (fun c_107 => ?_)
                    ·
                      refine lv_iconst (v := nI 0) hx hb dX1_alike_114 (by decide) ?_
                      refine lv_istore (lv' := [(5, .int (nI 0)), (4, .int (nI 1)), (3, .int (nI 1)), (8, .int (bI (σ sb i))), (7, .int (bI (σ sa i))), (0, .ref (ρ 0)), (1, .int (nI sa)), (2, .int (nI sb)), (6, .int (nI i))]) hx hb dX1_alike_115 hl (by decide) rfl (fun ls hl => ?_)
                      refine lv_iinc (v := nI (i + 1)) (lv' := [(6, .int (nI (i + 1))), (5, .int (nI 0)), (4, .int (nI 1)), (3, .int (nI 1)), (8, .int (bI (σ sb i))), (7, .int (bI (σ sa i))), (0, .ref (ρ 0)), (1, .int (nI sa)), (2, .int (nI sb))]) hx hb dX1_alike_117 hl (k := 8) rfl (inc_nI _) (by decide) rfl (fun ls hl => ?_)
                      refine lv_goto (tgt := 27) hx hb dX1_alike_120 (by decide) ?_
                      exact ih_27 (i + 1) (by omega) (by omega) _ _ _ _ (congrArg bI (show true = orN (fun j => σ sa j && !σ sb j) (i + 1) by simp [orN, c_4, c_11, c_54, c_75, c_97, c_102, c_107])) (congrArg bI (show true = orN (fun j => σ sb j && !σ sa j) (i + 1) by simp [orN, c_4, c_11, c_54, c_75, c_97, c_102, c_107])) (congrArg bI (show false = orN (fun j => σ sa j && σ sb j) (i + 1) by simp [orN, c_4, c_11, c_54, c_75, c_97, c_102, c_107])) (by first | rfl | exact congrArg nI (by omega)) _ (lv_sub hl [6, 7, 8, 3, 2, 1, 0] rfl)
                    ·
                      refine lv_iconst (v := nI 1) hx hb dX1_alike_110 (by decide) ?_
                      refine lv_goto (tgt := 115) hx hb dX1_alike_111 (by decide) ?_
                      refine lv_istore (lv' := [(5, .int (nI 1)), (4, .int (nI 1)), (3, .int (nI 1)), (8, .int (bI (σ sb i))), (7, .int (bI (σ sa i))), (0, .ref (ρ 0)), (1, .int (nI sa)), (2, .int (nI sb)), (6, .int (nI i))]) hx hb dX1_alike_115 hl (by decide) rfl (fun ls hl => ?_)
                      refine lv_iinc (v := nI (i + 1)) (lv' := [(6, .int (nI (i + 1))), (5, .int (nI 1)), (4, .int (nI 1)), (3, .int (nI 1)), (8, .int (bI (σ sb i))), (7, .int (bI (σ sa i))), (0, .ref (ρ 0)), (1, .int (nI sa)), (2, .int (nI sb))]) hx hb dX1_alike_117 hl (k := 8) rfl (inc_nI _) (by decide) rfl (fun ls hl => ?_)
                      refine lv_goto (tgt := 27) hx hb dX1_alike_120 (by decide) ?_
                      exact ih_27 (i + 1) (by omega) (by omega) _ _ _ _ (congrArg bI (show true = orN (fun j => σ sa j && !σ sb j) (i + 1) by simp [orN, c_4, c_11, c_54, c_75, c_97, c_102, c_107])) (congrArg bI (show true = orN (fun j => σ sb j && !σ sa j) (i + 1) by simp [orN, c_4, c_11, c_54, c_75, c_97, c_102, c_107])) (congrArg bI (show true = orN (fun j => σ sa j && σ sb j) (i + 1) by simp [orN, c_4, c_11, c_54, c_75, c_97, c_102, c_107])) (by first | rfl | exact congrArg nI (by omega)) _ (lv_sub hl [6, 7, 8, 3, 2, 1, 0] rfl)
              ·
                refine lv_iload hx hb dX1_alike_78 (lv_at hl 1 rfl) ?_
                refine nv_ifz_eq (tgt := 92) hx hb dX1_alike_80 (by decide) (fun c_80 => ?_) (fun c_80 => ?_)
                ·
                  refine lv_iconst (v := nI 0) hx hb dX1_alike_92 (by decide) ?_
                  refine lv_istore (lv' := [(4, .int (nI 0)), (3, .int (nI 1)), (8, .int (bI (σ sb i))), (7, .int (bI (σ sa i))), (0, .ref (ρ 0)), (1, .int (nI sa)), (2, .int (nI sb)), (5, .int (bI (orN (fun j => σ sa j && σ sb j) i))), (6, .int (nI i))]) hx hb dX1_alike_93 hl (by decide) rfl (fun ls hl => ?_)
                  refine lv_iload hx hb dX1_alike_95 (lv_at hl 7 rfl) ?_
                  refine nv_ifz_ne (tgt := 110) hx hb dX1_alike_97 (by decide) (fun c_97 => ?_) (fun c_97 => ?_)
                  ·
                    refine lv_iconst (v := nI 1) hx hb dX1_alike_110 (by decide) ?_
                    refine lv_goto (tgt := 115) hx hb dX1_alike_111 (by decide) ?_
                    refine lv_istore (lv' := [(5, .int (nI 1)), (4, .int (nI 0)), (3, .int (nI 1)), (8, .int (bI (σ sb i))), (7, .int (bI (σ sa i))), (0, .ref (ρ 0)), (1, .int (nI sa)), (2, .int (nI sb)), (6, .int (nI i))]) hx hb dX1_alike_115 hl (by decide) rfl (fun ls hl => ?_)
                    refine lv_iinc (v := nI (i + 1)) (lv' := [(6, .int (nI (i + 1))), (5, .int (nI 1)), (4, .int (nI 0)), (3, .int (nI 1)), (8, .int (bI (σ sb i))), (7, .int (bI (σ sa i))), (0, .ref (ρ 0)), (1, .int (nI sa)), (2, .int (nI sb))]) hx hb dX1_alike_117 hl (k := 8) rfl (inc_nI _) (by decide) rfl (fun ls hl => ?_)
                    refine lv_goto (tgt := 27) hx hb dX1_alike_120 (by decide) ?_
                    exact ih_27 (i + 1) (by omega) (by omega) _ _ _ _ (congrArg bI (show true = orN (fun j => σ sa j && !σ sb j) (i + 1) by simp [orN, c_4, c_11, c_54, c_75, c_80, c_97])) (congrArg bI (show false = orN (fun j => σ sb j && !σ sa j) (i + 1) by simp [orN, c_4, c_11, c_54, c_75, c_80, c_97])) (congrArg bI (show true = orN (fun j => σ sa j && σ sb j) (i + 1) by simp [orN, c_4, c_11, c_54, c_75, c_80, c_97])) (by first | rfl | exact congrArg nI (by omega)) _ (lv_sub hl [6, 7, 8, 3, 2, 1, 0] rfl)
                  ·
                    refine lv_iload hx hb dX1_alike_100 (lv_at hl 3 rfl) ?_
                    refine nv_ifz_eq (tgt := 114) hx hb dX1_alike_102 (by decide) (fun c_102 => ?_) (fun c_102 => ?_)
                    ·
                      refine lv_iconst (v := nI 0) hx hb dX1_alike_114 (by decide) ?_
                      refine lv_istore (lv' := [(5, .int (nI 0)), (4, .int (nI 0)), (3, .int (nI 1)), (8, .int (bI (σ sb i))), (7, .int (bI (σ sa i))), (0, .ref (ρ 0)), (1, .int (nI sa)), (2, .int (nI sb)), (6, .int (nI i))]) hx hb dX1_alike_115 hl (by decide) rfl (fun ls hl => ?_)
                      refine lv_iinc (v := nI (i + 1)) (lv' := [(6, .int (nI (i + 1))), (5, .int (nI 0)), (4, .int (nI 0)), (3, .int (nI 1)), (8, .int (bI (σ sb i))), (7, .int (bI (σ sa i))), (0, .ref (ρ 0)), (1, .int (nI sa)), (2, .int (nI sb))]) hx hb dX1_alike_117 hl (k := 8) rfl (inc_nI _) (by decide) rfl (fun ls hl => ?_)
                      refine lv_goto (tgt := 27) hx hb dX1_alike_120 (by decide) ?_
                      exact ih_27 (i + 1) (by omega) (by omega) _ _ _ _ (congrArg bI (show true = orN (fun j => σ sa j && !σ sb j) (i + 1) by simp [orN, c_4, c_11, c_54, c_75, c_80, c_97, c_102])) (congrArg bI (show false = orN (fun j => σ sb j && !σ sa j) (i + 1) by simp [orN, c_4, c_11, c_54, c_75, c_80, c_97, c_102])) (congrArg bI (show false = orN (fun j => σ sa j && σ sb j) (i + 1) by simp [orN, c_4, c_11, c_54, c_75, c_80, c_97, c_102])) (by first | rfl | exact congrArg nI (by omega)) _ (lv_sub hl [6, 7, 8, 3, 2, 1, 0] rfl)
                    ·
                      refine lv_iload hx hb dX1_alike_105 (lv_at hl 2 rfl) ?_
                      refine nv_ifz_eq (tgt := 114) hx hb dX1_alike_107 (by decide) (fun _ => ?_) (fun h => absurd (c_80.symm.trans h) (by decide))
                      refine lv_iconst (v := nI 0) hx hb dX1_alike_114 (by decide) ?_
                      refine lv_istore (lv' := [(5, .int (nI 0)), (4, .int (nI 0)), (3, .int (nI 1)), (8, .int (bI (σ sb i))), (7, .int (bI (σ sa i))), (0, .ref (ρ 0)), (1, .int (nI sa)), (2, .int (nI sb)), (6, .int (nI i))]) hx hb dX1_alike_115 hl (by decide) rfl (fun ls hl => ?_)
                      refine lv_iinc (v := nI (i + 1)) (lv' := [(6, .int (nI (i + 1))), (5, .int (nI 0)), (4, .int (nI 0)), (3, .int (nI 1)), (8, .int (bI (σ sb i))), (7, .int (bI (σ sa i))), (0, .ref (ρ 0)), (1, .int (nI sa)), (2, .int (nI sb))]) hx hb dX1_alike_117 hl (k := 8) rfl (inc_nI _) (by decide) rfl (fun ls hl => ?_)
                      refine lv_goto (tgt := 27) hx hb dX1_alike_120 (by decide) ?_
                      exact ih_27 (i + 1) (by omega) (by omega) _ _ _ _ (congrArg bI (show true = orN (fun j => σ sa j && !σ sb j) (i + 1) by simp [orN, c_4, c_11, c_54, c_75, c_80, c_97, c_102])) (congrArg bI (show false = orN (fun j => σ sb j && !σ sa j) (i + 1) by simp [orN, c_4, c_11, c_54, c_75, c_80, c_97, c_102])) (congrArg bI (show false = orN (fun j => σ sa j && σ sb j) (i + 1) by simp [orN, c_4, c_11, c_54, c_75, c_80, c_97, c_102])) (by first | rfl | exact congrArg nI (by omega)) _ (lv_sub hl [6, 7, 8, 3, 2, 1, 0] rfl)
                ·
                  refine lv_iload hx hb dX1_alike_83 (lv_at hl 2 rfl) ?_
                  refine nv_ifz_ne (tgt := 92) hx hb dX1_alike_85 (by decide) (fun c_85 => ?_) (fun c_85 => ?_)
                  ·
                    refine lv_iconst (v := nI 0) hx hb dX1_alike_92 (by decide) ?_
                    refine lv_istore (lv' := [(4, .int (nI 0)), (3, .int (nI 1)), (8, .int (bI (σ sb i))), (7, .int (bI (σ sa i))), (0, .ref (ρ 0)), (1, .int (nI sa)), (2, .int (nI sb)), (5, .int (bI (orN (fun j => σ sa j && σ sb j) i))), (6, .int (nI i))]) hx hb dX1_alike_93 hl (by decide) rfl (fun ls hl => ?_)
                    refine lv_iload hx hb dX1_alike_95 (lv_at hl 7 rfl) ?_
                    refine nv_ifz_ne (tgt := 110) hx hb dX1_alike_97 (by decide) (fun c_97 => ?_) (fun c_97 => ?_)
                    ·
                      refine lv_iconst (v := nI 1) hx hb dX1_alike_110 (by decide) ?_
                      refine lv_goto (tgt := 115) hx hb dX1_alike_111 (by decide) ?_
                      refine lv_istore (lv' := [(5, .int (nI 1)), (4, .int (nI 0)), (3, .int (nI 1)), (8, .int (bI (σ sb i))), (7, .int (bI (σ sa i))), (0, .ref (ρ 0)), (1, .int (nI sa)), (2, .int (nI sb)), (6, .int (nI i))]) hx hb dX1_alike_115 hl (by decide) rfl (fun ls hl => ?_)
                      refine lv_iinc (v := nI (i + 1)) (lv' := [(6, .int (nI (i + 1))), (5, .int (nI 1)), (4, .int (nI 0)), (3, .int (nI 1)), (8, .int (bI (σ sb i))), (7, .int (bI (σ sa i))), (0, .ref (ρ 0)), (1, .int (nI sa)), (2, .int (nI sb))]) hx hb dX1_alike_117 hl (k := 8) rfl (inc_nI _) (by decide) rfl (fun ls hl => ?_)
                      refine lv_goto (tgt := 27) hx hb dX1_alike_120 (by decide) ?_
                      exact ih_27 (i + 1) (by omega) (by omega) _ _ _ _ (congrArg bI (show true = orN (fun j => σ sa j && !σ sb j) (i + 1) by simp [orN, c_4, c_11, c_54, c_75, c_80, c_85, c_97])) (congrArg bI (show false = orN (fun j => σ sb j && !σ sa j) (i + 1) by simp [orN, c_4, c_11, c_54, c_75, c_80, c_85, c_97])) (congrArg bI (show true = orN (fun j => σ sa j && σ sb j) (i + 1) by simp [orN, c_4, c_11, c_54, c_75, c_80, c_85, c_97])) (by first | rfl | exact congrArg nI (by omega)) _ (lv_sub hl [6, 7, 8, 3, 2, 1, 0] rfl)
                    ·
                      refine lv_iload hx hb dX1_alike_100 (lv_at hl 3 rfl) ?_
                      refine nv_ifz_eq (tgt := 114) hx hb dX1_alike_102 (by decide) (fun h => absurd (c_85.symm.trans h) (by decide)) (fun _ => ?_)
                      refine lv_iload hx hb dX1_alike_105 (lv_at hl 2 rfl) ?_
                      refine nv_ifz_eq (tgt := 114) hx hb dX1_alike_107 (by decide) (fun h => absurd (c_80.symm.trans h) (by decide)) (fun _ => ?_)
                      refine lv_iconst (v := nI 1) hx hb dX1_alike_110 (by decide) ?_
                      refine lv_goto (tgt := 115) hx hb dX1_alike_111 (by decide) ?_
                      refine lv_istore (lv' := [(5, .int (nI 1)), (4, .int (nI 0)), (3, .int (nI 1)), (8, .int (bI (σ sb i))), (7, .int (bI (σ sa i))), (0, .ref (ρ 0)), (1, .int (nI sa)), (2, .int (nI sb)), (6, .int (nI i))]) hx hb dX1_alike_115 hl (by decide) rfl (fun ls hl => ?_)
                      refine lv_iinc (v := nI (i + 1)) (lv' := [(6, .int (nI (i + 1))), (5, .int (nI 1)), (4, .int (nI 0)), (3, .int (nI 1)), (8, .int (bI (σ sb i))), (7, .int (bI (σ sa i))), (0, .ref (ρ 0)), (1, .int (nI sa)), (2, .int (nI sb))]) hx hb dX1_alike_117 hl (k := 8) rfl (inc_nI _) (by decide) rfl (fun ls hl => ?_)
                      refine lv_goto (tgt := 27) hx hb dX1_alike_120 (by decide) ?_
                      exact ih_27 (i + 1) (by omega) (by omega) _ _ _ _ (congrArg bI (show true = orN (fun j => σ sa j && !σ sb j) (i + 1) by simp [orN, c_4, c_11, c_54, c_75, c_80, c_85, c_97])) (congrArg bI (show false = orN (fun j => σ sb j && !σ sa j) (i + 1) by simp [orN, c_4, c_11, c_54, c_75, c_80, c_85, c_97])) (congrArg bI (show true = orN (fun j => σ sa j && σ sb j) (i + 1) by simp [orN, c_4, c_11, c_54, c_75, c_80, c_85, c_97])) (by first | rfl | exact congrArg nI (by omega)) _ (lv_sub hl [6, 7, 8, 3, 2, 1, 0] rfl)
                  ·
                    refine lv_iconst (v := nI 1) hx hb dX1_alike_88 (by decide) ?_
                    refine lv_goto (tgt := 93) hx hb dX1_alike_89 (by decide) ?_
                    refine lv_istore (lv' := [(4, .int (nI 1)), (3, .int (nI 1)), (8, .int (bI (σ sb i))), (7, .int (bI (σ sa i))), (0, .ref (ρ 0)), (1, .int (nI sa)), (2, .int (nI sb)), (5, .int (bI (orN (fun j => σ sa j && σ sb j) i))), (6, .int (nI i))]) hx hb dX1_alike_93 hl (by decide) rfl (fun ls hl => ?_)
                    refine lv_iload hx hb dX1_alike_95 (lv_at hl 7 rfl) ?_
                    refine nv_ifz_ne (tgt := 110) hx hb dX1_alike_97 (by decide) (fun c_97 => ?_) (fun c_97 => ?_)
                    ·
                      refine lv_iconst (v := nI 1) hx hb dX1_alike_110 (by decide) ?_
                      refine lv_goto (tgt := 115) hx hb dX1_alike_111 (by decide) ?_
                      refine lv_istore (lv' := [(5, .int (nI 1)), (4, .int (nI 1)), (3, .int (nI 1)), (8, .int (bI (σ sb i))), (7, .int (bI (σ sa i))), (0, .ref (ρ 0)), (1, .int (nI sa)), (2, .int (nI sb)), (6, .int (nI i))]) hx hb dX1_alike_115 hl (by decide) rfl (fun ls hl => ?_)
                      refine lv_iinc (v := nI (i + 1)) (lv' := [(6, .int (nI (i + 1))), (5, .int (nI 1)), (4, .int (nI 1)), (3, .int (nI 1)), (8, .int (bI (σ sb i))), (7, .int (bI (σ sa i))), (0, .ref (ρ 0)), (1, .int (nI sa)), (2, .int (nI sb))]) hx hb dX1_alike_117 hl (k := 8) rfl (inc_nI _) (by decide) rfl (fun ls hl => ?_)
                      refine lv_goto (tgt := 27) hx hb dX1_alike_120 (by decide) ?_
                      exact ih_27 (i + 1) (by omega) (by omega) _ _ _ _ (congrArg bI (show true = orN (fun j => σ sa j && !σ sb j) (i + 1) by simp [orN, c_4, c_11, c_54, c_75, c_80, c_85, c_97])) (congrArg bI (show true = orN (fun j => σ sb j && !σ sa j) (i + 1) by simp [orN, c_4, c_11, c_54, c_75, c_80, c_85, c_97])) (congrArg bI (show true = orN (fun j => σ sa j && σ sb j) (i + 1) by simp [orN, c_4, c_11, c_54, c_75, c_80, c_85, c_97])) (by first | rfl | exact congrArg nI (by omega)) _ (lv_sub hl [6, 7, 8, 3, 2, 1, 0] rfl)
                    ·
                      refine lv_iload hx hb dX1_alike_100 (lv_at hl 3 rfl) ?_
                      refine nv_ifz_eq (tgt := 114) hx hb dX1_alike_102 (by decide) (fun _ => ?_) (fun h => absurd (c_85.symm.trans h) (by decide))
                      refine lv_iconst (v := nI 0) hx hb dX1_alike_114 (by decide) ?_
                      refine lv_istore (lv' := [(5, .int (nI 0)), (4, .int (nI 1)), (3, .int (nI 1)), (8, .int (bI (σ sb i))), (7, .int (bI (σ sa i))), (0, .ref (ρ 0)), (1, .int (nI sa)), (2, .int (nI sb)), (6, .int (nI i))]) hx hb dX1_alike_115 hl (by decide) rfl (fun ls hl => ?_)
                      refine lv_iinc (v := nI (i + 1)) (lv' := [(6, .int (nI (i + 1))), (5, .int (nI 0)), (4, .int (nI 1)), (3, .int (nI 1)), (8, .int (bI (σ sb i))), (7, .int (bI (σ sa i))), (0, .ref (ρ 0)), (1, .int (nI sa)), (2, .int (nI sb))]) hx hb dX1_alike_117 hl (k := 8) rfl (inc_nI _) (by decide) rfl (fun ls hl => ?_)
                      refine lv_goto (tgt := 27) hx hb dX1_alike_120 (by decide) ?_
                      exact ih_27 (i + 1) (by omega) (by omega) _ _ _ _ (congrArg bI (show true = orN (fun j => σ sa j && !σ sb j) (i + 1) by simp [orN, c_4, c_11, c_54, c_75, c_80, c_85, c_97])) (congrArg bI (show true = orN (fun j => σ sb j && !σ sa j) (i + 1) by simp [orN, c_4, c_11, c_54, c_75, c_80, c_85, c_97])) (congrArg bI (show false = orN (fun j => σ sa j && σ sb j) (i + 1) by simp [orN, c_4, c_11, c_54, c_75, c_80, c_85, c_97])) (by first | rfl | exact congrArg nI (by omega)) _ (lv_sub hl [6, 7, 8, 3, 2, 1, 0] rfl)
            ·
              refine lv_iload hx hb dX1_alike_57 (lv_at hl 1 rfl) ?_
              refine nv_ifz_eq (tgt := 71) hx hb dX1_alike_59 (by decide) (fun c_59 => ?_) (fun c_59 => ?_)
              ·
                refine lv_iconst (v := nI 0) hx hb dX1_alike_71 (by decide) ?_
                refine lv_istore_n (lv' := [(3, .int (nI 0)), (8, .int (bI (σ sb i))), (7, .int (bI (σ sa i))), (0, .ref (ρ 0)), (1, .int (nI sa)), (2, .int (nI sb)), (4, .int (bI (orN (fun j => σ sb j && !σ sa j) i))), (5, .int (bI (orN (fun j => σ sa j && σ sb j) i))), (6, .int (nI i))]) hx hb dX1_alike_72 rfl hl (by decide) rfl (fun ls hl => ?_)
                refine lv_iload hx hb dX1_alike_73 (lv_at hl 6 rfl) ?_
                refine nv_ifz_ne (tgt := 88) hx hb dX1_alike_75 (by decide) (fun c_75 => ?_) (fun c_75 => ?_)
                ·
                  refine lv_iconst (v := nI 1) hx hb dX1_alike_88 (by decide) ?_
                  refine lv_goto (tgt := 93) hx hb dX1_alike_89 (by decide) ?_
                  refine lv_istore (lv' := [(4, .int (nI 1)), (3, .int (nI 0)), (8, .int (bI (σ sb i))), (7, .int (bI (σ sa i))), (0, .ref (ρ 0)), (1, .int (nI sa)), (2, .int (nI sb)), (5, .int (bI (orN (fun j => σ sa j && σ sb j) i))), (6, .int (nI i))]) hx hb dX1_alike_93 hl (by decide) rfl (fun ls hl => ?_)
                  refine lv_iload hx hb dX1_alike_95 (lv_at hl 7 rfl) ?_
                  refine nv_ifz_ne (tgt := 110) hx hb dX1_alike_97 (by decide) (fun c_97 => ?_) (fun c_97 => ?_)
                  ·
                    refine lv_iconst (v := nI 1) hx hb dX1_alike_110 (by decide) ?_
                    refine lv_goto (tgt := 115) hx hb dX1_alike_111 (by decide) ?_
                    refine lv_istore (lv' := [(5, .int (nI 1)), (4, .int (nI 1)), (3, .int (nI 0)), (8, .int (bI (σ sb i))), (7, .int (bI (σ sa i))), (0, .ref (ρ 0)), (1, .int (nI sa)), (2, .int (nI sb)), (6, .int (nI i))]) hx hb dX1_alike_115 hl (by decide) rfl (fun ls hl => ?_)
                    refine lv_iinc (v := nI (i + 1)) (lv' := [(6, .int (nI (i + 1))), (5, .int (nI 1)), (4, .int (nI 1)), (3, .int (nI 0)), (8, .int (bI (σ sb i))), (7, .int (bI (σ sa i))), (0, .ref (ρ 0)), (1, .int (nI sa)), (2, .int (nI sb))]) hx hb dX1_alike_117 hl (k := 8) rfl (inc_nI _) (by decide) rfl (fun ls hl => ?_)
                    refine lv_goto (tgt := 27) hx hb dX1_alike_120 (by decide) ?_
                    exact ih_27 (i + 1) (by omega) (by omega) _ _ _ _ (congrArg bI (show false = orN (fun j => σ sa j && !σ sb j) (i + 1) by simp [orN, c_4, c_11, c_54, c_59, c_75, c_97])) (congrArg bI (show true = orN (fun j => σ sb j && !σ sa j) (i + 1) by simp [orN, c_4, c_11, c_54, c_59, c_75, c_97])) (congrArg bI (show true = orN (fun j => σ sa j && σ sb j) (i + 1) by simp [orN, c_4, c_11, c_54, c_59, c_75, c_97])) (by first | rfl | exact congrArg nI (by omega)) _ (lv_sub hl [6, 7, 8, 3, 2, 1, 0] rfl)
                  ·
                    refine lv_iload hx hb dX1_alike_100 (lv_at hl 3 rfl) ?_
                    refine nv_ifz_eq (tgt := 114) hx hb dX1_alike_102 (by decide) (fun _ => ?_) (fun h => absurd (c_59.symm.trans h) (by decide))
                    refine lv_iconst (v := nI 0) hx hb dX1_alike_114 (by decide) ?_
                    refine lv_istore (lv' := [(5, .int (nI 0)), (4, .int (nI 1)), (3, .int (nI 0)), (8, .int (bI (σ sb i))), (7, .int (bI (σ sa i))), (0, .ref (ρ 0)), (1, .int (nI sa)), (2, .int (nI sb)), (6, .int (nI i))]) hx hb dX1_alike_115 hl (by decide) rfl (fun ls hl => ?_)
                    refine lv_iinc (v := nI (i + 1)) (lv' := [(6, .int (nI (i + 1))), (5, .int (nI 0)), (4, .int (nI 1)), (3, .int (nI 0)), (8, .int (bI (σ sb i))), (7, .int (bI (σ sa i))), (0, .ref (ρ 0)), (1, .int (nI sa)), (2, .int (nI sb))]) hx hb dX1_alike_117 hl (k := 8) rfl (inc_nI _) (by decide) rfl (fun ls hl => ?_)
                    refine lv_goto (tgt := 27) hx hb dX1_alike_120 (by decide) ?_
                    exact ih_27 (i + 1) (by omega) (by omega) _ _ _ _ (congrArg bI (show false = orN (fun j => σ sa j && !σ sb j) (i + 1) by simp [orN, c_4, c_11, c_54, c_59, c_75, c_97])) (congrArg bI (show true = orN (fun j => σ sb j && !σ sa j) (i + 1) by simp [orN, c_4, c_11, c_54, c_59, c_75, c_97])) (congrArg bI (show false = orN (fun j => σ sa j && σ sb j) (i + 1) by simp [orN, c_4, c_11, c_54, c_59, c_75, c_97])) (by first | rfl | exact congrArg nI (by omega)) _ (lv_sub hl [6, 7, 8, 3, 2, 1, 0] rfl)
                ·
                  refine lv_iload hx hb dX1_alike_78 (lv_at hl 1 rfl) ?_
                  refine nv_ifz_eq (tgt := 92) hx hb dX1_alike_80 (by decide) (fun c_80 => ?_) (fun c_80 => ?_)
                  ·
                    refine lv_iconst (v := nI 0) hx hb dX1_alike_92 (by decide) ?_
                    refine lv_istore (lv' := [(4, .int (nI 0)), (3, .int (nI 0)), (8, .int (bI (σ sb i))), (7, .int (bI (σ sa i))), (0, .ref (ρ 0)), (1, .int (nI sa)), (2, .int (nI sb)), (5, .int (bI (orN (fun j => σ sa j && σ sb j) i))), (6, .int (nI i))]) hx hb dX1_alike_93 hl (by decide) rfl (fun ls hl => ?_)
                    refine lv_iload hx hb dX1_alike_95 (lv_at hl 7 rfl) ?_
                    refine nv_ifz_ne (tgt := 110) hx hb dX1_alike_97 (by decide) (fun c_97 => ?_) (fun c_97 => ?_)
                    ·
                      refine lv_iconst (v := nI 1) hx hb dX1_alike_110 (by decide) ?_
                      refine lv_goto (tgt := 115) hx hb dX1_alike_111 (by decide) ?_
                      refine lv_istore (lv' := [(5, .int (nI 1)), (4, .int (nI 0)), (3, .int (nI 0)), (8, .int (bI (σ sb i))), (7, .int (bI (σ sa i))), (0, .ref (ρ 0)), (1, .int (nI sa)), (2, .int (nI sb)), (6, .int (nI i))]) hx hb dX1_alike_115 hl (by decide) rfl (fun ls hl => ?_)
                      refine lv_iinc (v := nI (i + 1)) (lv' := [(6, .int (nI (i + 1))), (5, .int (nI 1)), (4, .int (nI 0)), (3, .int (nI 0)), (8, .int (bI (σ sb i))), (7, .int (bI (σ sa i))), (0, .ref (ρ 0)), (1, .int (nI sa)), (2, .int (nI sb))]) hx hb dX1_alike_117 hl (k := 8) rfl (inc_nI _) (by decide) rfl (fun ls hl => ?_)
                      refine lv_goto (tgt := 27) hx hb dX1_alike_120 (by decide) ?_
                      exact ih_27 (i + 1) (by omega) (by omega) _ _ _ _ (congrArg bI (show false = orN (fun j => σ sa j && !σ sb j) (i + 1) by simp [orN, c_4, c_11, c_54, c_59, c_75, c_80, c_97])) (congrArg bI (show false = orN (fun j => σ sb j && !σ sa j) (i + 1) by simp [orN, c_4, c_11, c_54, c_59, c_75, c_80, c_97])) (congrArg bI (show true = orN (fun j => σ sa j && σ sb j) (i + 1) by simp [orN, c_4, c_11, c_54, c_59, c_75, c_80, c_97])) (by first | rfl | exact congrArg nI (by omega)) _ (lv_sub hl [6, 7, 8, 3, 2, 1, 0] rfl)
                    ·
                      refine lv_iload hx hb dX1_alike_100 (lv_at hl 3 rfl) ?_
                      refine nv_ifz_eq (tgt := 114) hx hb dX1_alike_102 (by decide) (fun _ => ?_) (fun h => absurd (c_59.symm.trans h) (by decide))
                      refine lv_iconst (v := nI 0) hx hb dX1_alike_114 (by decide) ?_
                      refine lv_istore (lv' := [(5, .int (nI 0)), (4, .int (nI 0)), (3, .int (nI 0)), (8, .int (bI (σ sb i))), (7, .int (bI (σ sa i))), (0, .ref (ρ 0)), (1, .int (nI sa)), (2, .int (nI sb)), (6, .int (nI i))]) hx hb dX1_alike_115 hl (by decide) rfl (fun ls hl => ?_)
                      refine lv_iinc (v := nI (i + 1)) (lv' := [(6, .int (nI (i + 1))), (5, .int (nI 0)), (4, .int (nI 0)), (3, .int (nI 0)), (8, .int (bI (σ sb i))), (7, .int (bI (σ sa i))), (0, .ref (ρ 0)), (1, .int (nI sa)), (2, .int (nI sb))]) hx hb dX1_alike_117 hl (k := 8) rfl (inc_nI _) (by decide) rfl (fun ls hl => ?_)
                      refine lv_goto (tgt := 27) hx hb dX1_alike_120 (by decide) ?_
                      exact ih_27 (i + 1) (by omega) (by omega) _ _ _ _ (congrArg bI (show false = orN (fun j => σ sa j && !σ sb j) (i + 1) by simp [orN, c_4, c_11, c_54, c_59, c_75, c_80, c_97])) (congrArg bI (show false = orN (fun j => σ sb j && !σ sa j) (i + 1) by simp [orN, c_4, c_11, c_54, c_59, c_75, c_80, c_97])) (congrArg bI (show false = orN (fun j => σ sa j && σ sb j) (i + 1) by simp [orN, c_4, c_11, c_54, c_59, c_75, c_80, c_97])) (by first | rfl | exact congrArg nI (by omega)) _ (lv_sub hl [6, 7, 8, 3, 2, 1, 0] rfl)
                  ·
                    refine lv_iload hx hb dX1_alike_83 (lv_at hl 2 rfl) ?_
                    refine nv_ifz_ne (tgt := 92) hx hb dX1_alike_85 (by decide) (fun h => absurd (c_59.symm.trans h) (by decide)) (fun _ => ?_)
                    refine lv_iconst (v := nI 1) hx hb dX1_alike_88 (by decide) ?_
                    refine lv_goto (tgt := 93) hx hb dX1_alike_89 (by decide) ?_
                    refine lv_istore (lv' := [(4, .int (nI 1)), (3, .int (nI 0)), (8, .int (bI (σ sb i))), (7, .int (bI (σ sa i))), (0, .ref (ρ 0)), (1, .int (nI sa)), (2, .int (nI sb)), (5, .int (bI (orN (fun j => σ sa j && σ sb j) i))), (6, .int (nI i))]) hx hb dX1_alike_93 hl (by decide) rfl (fun ls hl => ?_)
                    refine lv_iload hx hb dX1_alike_95 (lv_at hl 7 rfl) ?_
                    refine nv_ifz_ne (tgt := 110) hx hb dX1_alike_97 (by decide) (fun c_97 => ?_) (fun c_97 => ?_)
                    ·
                      refine lv_iconst (v := nI 1) hx hb dX1_alike_110 (by decide) ?_
                      refine lv_goto (tgt := 115) hx hb dX1_alike_111 (by decide) ?_
                      refine lv_istore (lv' := [(5, .int (nI 1)), (4, .int (nI 1)), (3, .int (nI 0)), (8, .int (bI (σ sb i))), (7, .int (bI (σ sa i))), (0, .ref (ρ 0)), (1, .int (nI sa)), (2, .int (nI sb)), (6, .int (nI i))]) hx hb dX1_alike_115 hl (by decide) rfl (fun ls hl => ?_)
                      refine lv_iinc (v := nI (i + 1)) (lv' := [(6, .int (nI (i + 1))), (5, .int (nI 1)), (4, .int (nI 1)), (3, .int (nI 0)), (8, .int (bI (σ sb i))), (7, .int (bI (σ sa i))), (0, .ref (ρ 0)), (1, .int (nI sa)), (2, .int (nI sb))]) hx hb dX1_alike_117 hl (k := 8) rfl (inc_nI _) (by decide) rfl (fun ls hl => ?_)
                      refine lv_goto (tgt := 27) hx hb dX1_alike_120 (by decide) ?_
                      exact ih_27 (i + 1) (by omega) (by omega) _ _ _ _ (congrArg bI (show false = orN (fun j => σ sa j && !σ sb j) (i + 1) by simp [orN, c_4, c_11, c_54, c_59, c_75, c_80, c_97])) (congrArg bI (show true = orN (fun j => σ sb j && !σ sa j) (i + 1) by simp [orN, c_4, c_11, c_54, c_59, c_75, c_80, c_97])) (congrArg bI (show true = orN (fun j => σ sa j && σ sb j) (i + 1) by simp [orN, c_4, c_11, c_54, c_59, c_75, c_80, c_97])) (by first | rfl | exact congrArg nI (by omega)) _ (lv_sub hl [6, 7, 8, 3, 2, 1, 0] rfl)
                    ·
                      refine lv_iload hx hb dX1_alike_100 (lv_at hl 3 rfl) ?_
                      refine nv_ifz_eq (tgt := 114) hx hb dX1_alike_102 (by decide) (fun _ => ?_) (fun h => absurd (c_59.symm.trans h) (by decide))
                      refine lv_iconst (v := nI 0) hx hb dX1_alike_114 (by decide) ?_
                      refine lv_istore (lv' := [(5, .int (nI 0)), (4, .int (nI 1)), (3, .int (nI 0)), (8, .int (bI (σ sb i))), (7, .int (bI (σ sa i))), (0, .ref (ρ 0)), (1, .int (nI sa)), (2, .int (nI sb)), (6, .int (nI i))]) hx hb dX1_alike_115 hl (by decide) rfl (fun ls hl => ?_)
                      refine lv_iinc (v := nI (i + 1)) (lv' := [(6, .int (nI (i + 1))), (5, .int (nI 0)), (4, .int (nI 1)), (3, .int (nI 0)), (8, .int (bI (σ sb i))), (7, .int (bI (σ sa i))), (0, .ref (ρ 0)), (1, .int (nI sa)), (2, .int (nI sb))]) hx hb dX1_alike_117 hl (k := 8) rfl (inc_nI _) (by decide) rfl (fun ls hl => ?_)
                      refine lv_goto (tgt := 27) hx hb dX1_alike_120 (by decide) ?_
                      exact ih_27 (i + 1) (by omega) (by omega) _ _ _ _ (congrArg bI (show false = orN (fun j => σ sa j && !σ sb j) (i + 1) by simp [orN, c_4, c_11, c_54, c_59, c_75, c_80, c_97])) (congrArg bI (show true = orN (fun j => σ sb j && !σ sa j) (i + 1) by simp [orN, c_4, c_11, c_54, c_59, c_75, c_80, c_97])) (congrArg bI (show false = orN (fun j => σ sa j && σ sb j) (i + 1) by simp [orN, c_4, c_11, c_54, c_59, c_75, c_80, c_97])) (by first | rfl | exact congrArg nI (by omega)) _ (lv_sub hl [6, 7, 8, 3, 2, 1, 0] rfl)
              ·
                refine lv_iload hx hb dX1_alike_62 (lv_at hl 0 rfl) ?_
                refine nv_ifz_ne (tgt := 71) hx hb dX1_alike_64 (by decide) (fun c_64 => ?_) (fun c_64 => ?_)
                ·
                  refine lv_iconst (v := nI 0) hx hb dX1_alike_71 (by decide) ?_
                  refine lv_istore_n (lv' := [(3, .int (nI 0)), (8, .int (bI (σ sb i))), (7, .int (bI (σ sa i))), (0, .ref (ρ 0)), (1, .int (nI sa)), (2, .int (nI sb)), (4, .int (bI (orN (fun j => σ sb j && !σ sa j) i))), (5, .int (bI (orN (fun j => σ sa j && σ sb j) i))), (6, .int (nI i))]) hx hb dX1_alike_72 rfl hl (by decide) rfl (fun ls hl => ?_)
                  refine lv_iload hx hb dX1_alike_73 (lv_at hl 6 rfl) ?_
                  refine nv_ifz_ne (tgt := 88) hx hb dX1_alike_75 (by decide) (fun c_75 => ?_) (fun c_75 => ?_)
                  ·
                    refine lv_iconst (v := nI 1) hx hb dX1_alike_88 (by decide) ?_
                    refine lv_goto (tgt := 93) hx hb dX1_alike_89 (by decide) ?_
                    refine lv_istore (lv' := [(4, .int (nI 1)), (3, .int (nI 0)), (8, .int (bI (σ sb i))), (7, .int (bI (σ sa i))), (0, .ref (ρ 0)), (1, .int (nI sa)), (2, .int (nI sb)), (5, .int (bI (orN (fun j => σ sa j && σ sb j) i))), (6, .int (nI i))]) hx hb dX1_alike_93 hl (by decide) rfl (fun ls hl => ?_)
                    refine lv_iload hx hb dX1_alike_95 (lv_at hl 7 rfl) ?_
                    refine nv_ifz_ne (tgt := 110) hx hb dX1_alike_97 (by decide) (fun c_97 => ?_) (fun c_97 => ?_)
                    ·
                      refine lv_iconst (v := nI 1) hx hb dX1_alike_110 (by decide) ?_
                      refine lv_goto (tgt := 115) hx hb dX1_alike_111 (by decide) ?_
                      refine lv_istore (lv' := [(5, .int (nI 1)), (4, .int (nI 1)), (3, .int (nI 0)), (8, .int (bI (σ sb i))), (7, .int (bI (σ sa i))), (0, .ref (ρ 0)), (1, .int (nI sa)), (2, .int (nI sb)), (6, .int (nI i))]) hx hb dX1_alike_115 hl (by decide) rfl (fun ls hl => ?_)
                      refine lv_iinc (v := nI (i + 1)) (lv' := [(6, .int (nI (i + 1))), (5, .int (nI 1)), (4, .int (nI 1)), (3, .int (nI 0)), (8, .int (bI (σ sb i))), (7, .int (bI (σ sa i))), (0, .ref (ρ 0)), (1, .int (nI sa)), (2, .int (nI sb))]) hx hb dX1_alike_117 hl (k := 8) rfl (inc_nI _) (by decide) rfl (fun ls hl => ?_)
                      refine lv_goto (tgt := 27) hx hb dX1_alike_120 (by decide) ?_
                      exact ih_27 (i + 1) (by omega) (by omega) _ _ _ _ (congrArg bI (show false = orN (fun j => σ sa j && !σ sb j) (i + 1) by simp [orN, c_4, c_11, c_54, c_59, c_64, c_75, c_97])) (congrArg bI (show true = orN (fun j => σ sb j && !σ sa j) (i + 1) by simp [orN, c_4, c_11, c_54, c_59, c_64, c_75, c_97])) (congrArg bI (show true = orN (fun j => σ sa j && σ sb j) (i + 1) by simp [orN, c_4, c_11, c_54, c_59, c_64, c_75, c_97])) (by first | rfl | exact congrArg nI (by omega)) _ (lv_sub hl [6, 7, 8, 3, 2, 1, 0] rfl)
                    ·
                      refine lv_iload hx hb dX1_alike_100 (lv_at hl 3 rfl) ?_
                      refine nv_ifz_eq (tgt := 114) hx hb dX1_alike_102 (by decide) (fun h => absurd (c_59.symm.trans h) (by decide)) (fun _ => ?_)
                      refine lv_iload hx hb dX1_alike_105 (lv_at hl 2 rfl) ?_
                      refine nv_ifz_eq (tgt := 114) hx hb dX1_alike_107 (by decide) (fun h => absurd (c_64.symm.trans h) (by decide)) (fun _ => ?_)
                      refine lv_iconst (v := nI 1) hx hb dX1_alike_110 (by decide) ?_
                      refine lv_goto (tgt := 115) hx hb dX1_alike_111 (by decide) ?_
                      refine lv_istore (lv' := [(5, .int (nI 1)), (4, .int (nI 1)), (3, .int (nI 0)), (8, .int (bI (σ sb i))), (7, .int (bI (σ sa i))), (0, .ref (ρ 0)), (1, .int (nI sa)), (2, .int (nI sb)), (6, .int (nI i))]) hx hb dX1_alike_115 hl (by decide) rfl (fun ls hl => ?_)
                      refine lv_iinc (v := nI (i + 1)) (lv' := [(6, .int (nI (i + 1))), (5, .int (nI 1)), (4, .int (nI 1)), (3, .int (nI 0)), (8, .int (bI (σ sb i))), (7, .int (bI (σ sa i))), (0, .ref (ρ 0)), (1, .int (nI sa)), (2, .int (nI sb))]) hx hb dX1_alike_117 hl (k := 8) rfl (inc_nI _) (by decide) rfl (fun ls hl => ?_)
                      refine lv_goto (tgt := 27) hx hb dX1_alike_120 (by decide) ?_
                      exact ih_27 (i + 1) (by omega) (by omega) _ _ _ _ (congrArg bI (show false = orN (fun j => σ sa j && !σ sb j) (i + 1) by simp [orN, c_4, c_11, c_54, c_59, c_64, c_75, c_97])) (congrArg bI (show true = orN (fun j => σ sb j && !σ sa j) (i + 1) by simp [orN, c_4, c_11, c_54, c_59, c_64, c_75, c_97])) (congrArg bI (show true = orN (fun j => σ sa j && σ sb j) (i + 1) by simp [orN, c_4, c_11, c_54, c_59, c_64, c_75, c_97])) (by first | rfl | exact congrArg nI (by omega)) _ (lv_sub hl [6, 7, 8, 3, 2, 1, 0] rfl)
                  ·
                    refine lv_iload hx hb dX1_alike_78 (lv_at hl 1 rfl) ?_
                    refine nv_ifz_eq (tgt := 92) hx hb dX1_alike_80 (by decide) (fun h => absurd (c_64.symm.trans h) (by decide)) (fun _ => ?_)
                    refine lv_iload hx hb dX1_alike_83 (lv_at hl 2 rfl) ?_
                    refine nv_ifz_ne (tgt := 92) hx hb dX1_alike_85 (by decide) (fun _ => ?_) (fun h => absurd (c_59.symm.trans h) (by decide))
                    refine lv_iconst (v := nI 0) hx hb dX1_alike_92 (by decide) ?_
                    refine lv_istore (lv' := [(4, .int (nI 0)), (3, .int (nI 0)), (8, .int (bI (σ sb i))), (7, .int (bI (σ sa i))), (0, .ref (ρ 0)), (1, .int (nI sa)), (2, .int (nI sb)), (5, .int (bI (orN (fun j => σ sa j && σ sb j) i))), (6, .int (nI i))]) hx hb dX1_alike_93 hl (by decide) rfl (fun ls hl => ?_)
                    refine lv_iload hx hb dX1_alike_95 (lv_at hl 7 rfl) ?_
                    refine nv_ifz_ne (tgt := 110) hx hb dX1_alike_97 (by decide) (fun c_97 => ?_) (fun c_97 => ?_)
                    ·
                      refine lv_iconst (v := nI 1) hx hb dX1_alike_110 (by decide) ?_
                      refine lv_goto (tgt := 115) hx hb dX1_alike_111 (by decide) ?_
                      refine lv_istore (lv' := [(5, .int (nI 1)), (4, .int (nI 0)), (3, .int (nI 0)), (8, .int (bI (σ sb i))), (7, .int (bI (σ sa i))), (0, .ref (ρ 0)), (1, .int (nI sa)), (2, .int (nI sb)), (6, .int (nI i))]) hx hb dX1_alike_115 hl (by decide) rfl (fun ls hl => ?_)
                      refine lv_iinc (v := nI (i + 1)) (lv' := [(6, .int (nI (i + 1))), (5, .int (nI 1)), (4, .int (nI 0)), (3, .int (nI 0)), (8, .int (bI (σ sb i))), (7, .int (bI (σ sa i))), (0, .ref (ρ 0)), (1, .int (nI sa)), (2, .int (nI sb))]) hx hb dX1_alike_117 hl (k := 8) rfl (inc_nI _) (by decide) rfl (fun ls hl => ?_)
                      refine lv_goto (tgt := 27) hx hb dX1_alike_120 (by decide) ?_
                      exact ih_27 (i + 1) (by omega) (by omega) _ _ _ _ (congrArg bI (show false = orN (fun j => σ sa j && !σ sb j) (i + 1) by simp [orN, c_4, c_11, c_54, c_59, c_64, c_75, c_97])) (congrArg bI (show false = orN (fun j => σ sb j && !σ sa j) (i + 1) by simp [orN, c_4, c_11, c_54, c_59, c_64, c_75, c_97])) (congrArg bI (show true = orN (fun j => σ sa j && σ sb j) (i + 1) by simp [orN, c_4, c_11, c_54, c_59, c_64, c_75, c_97])) (by first | rfl | exact congrArg nI (by omega)) _ (lv_sub hl [6, 7, 8, 3, 2, 1, 0] rfl)
                    ·
                      refine lv_iload hx hb dX1_alike_100 (lv_at hl 3 rfl) ?_
                      refine nv_ifz_eq (tgt := 114) hx hb dX1_alike_102 (by decide) (fun h => absurd (c_59.symm.trans h) (by decide)) (fun _ => ?_)
                      refine lv_iload hx hb dX1_alike_105 (lv_at hl 2 rfl) ?_
                      refine nv_ifz_eq (tgt := 114) hx hb dX1_alike_107 (by decide) (fun h => absurd (c_64.symm.trans h) (by decide)) (fun _ => ?_)
                      refine lv_iconst (v := nI 1) hx hb dX1_alike_110 (by decide) ?_
                      refine lv_goto (tgt := 115) hx hb dX1_alike_111 (by decide) ?_
                      refine lv_istore (lv' := [(5, .int (nI 1)), (4, .int (nI 0)), (3, .int (nI 0)), (8, .int (bI (σ sb i))), (7, .int (bI (σ sa i))), (0, .ref (ρ 0)), (1, .int (nI sa)), (2, .int (nI sb)), (6, .int (nI i))]) hx hb dX1_alike_115 hl (by decide) rfl (fun ls hl => ?_)
                      refine lv_iinc (v := nI (i + 1)) (lv' := [(6, .int (nI (i + 1))), (5, .int (nI 1)), (4, .int (nI 0)), (3, .int (nI 0)), (8, .int (bI (σ sb i))), (7, .int (bI (σ sa i))), (0, .ref (ρ 0)), (1, .int (nI sa)), (2, .int (nI sb))]) hx hb dX1_alike_117 hl (k := 8) rfl (inc_nI _) (by decide) rfl (fun ls hl => ?_)
                      refine lv_goto (tgt := 27) hx hb dX1_alike_120 (by decide) ?_
                      exact ih_27 (i + 1) (by omega) (by omega) _ _ _ _ (congrArg bI (show false = orN (fun j => σ sa j && !σ sb j) (i + 1) by simp [orN, c_4, c_11, c_54, c_59, c_64, c_75, c_97])) (congrArg bI (show false = orN (fun j => σ sb j && !σ sa j) (i + 1) by simp [orN, c_4, c_11, c_54, c_59, c_64, c_75, c_97])) (congrArg bI (show true = orN (fun j => σ sa j && σ sb j) (i + 1) by simp [orN, c_4, c_11, c_54, c_59, c_64, c_75, c_97])) (by first | rfl | exact congrArg nI (by omega)) _ (lv_sub hl [6, 7, 8, 3, 2, 1, 0] rfl)
                ·
                  refine lv_iconst (v := nI 1) hx hb dX1_alike_67 (by decide) ?_
                  refine lv_goto (tgt := 72) hx hb dX1_alike_68 (by decide) ?_
                  refine lv_istore_n (lv' := [(3, .int (nI 1)), (8, .int (bI (σ sb i))), (7, .int (bI (σ sa i))), (0, .ref (ρ 0)), (1, .int (nI sa)), (2, .int (nI sb)), (4, .int (bI (orN (fun j => σ sb j && !σ sa j) i))), (5, .int (bI (orN (fun j => σ sa j && σ sb j) i))), (6, .int (nI i))]) hx hb dX1_alike_72 rfl hl (by decide) rfl (fun ls hl => ?_)
                  refine lv_iload hx hb dX1_alike_73 (lv_at hl 6 rfl) ?_
                  refine nv_ifz_ne (tgt := 88) hx hb dX1_alike_75 (by decide) (fun c_75 => ?_) (fun c_75 => ?_)
                  ·
                    refine lv_iconst (v := nI 1) hx hb dX1_alike_88 (by decide) ?_
                    refine lv_goto (tgt := 93) hx hb dX1_alike_89 (by decide) ?_
                    refine lv_istore (lv' := [(4, .int (nI 1)), (3, .int (nI 1)), (8, .int (bI (σ sb i))), (7, .int (bI (σ sa i))), (0, .ref (ρ 0)), (1, .int (nI sa)), (2, .int (nI sb)), (5, .int (bI (orN (fun j => σ sa j && σ sb j) i))), (6, .int (nI i))]) hx hb dX1_alike_93 hl (by decide) rfl (fun ls hl => ?_)
                    refine lv_iload hx hb dX1_alike_95 (lv_at hl 7 rfl) ?_
                    refine nv_ifz_ne (tgt := 110) hx hb dX1_alike_97 (by decide) (fun c_97 => ?_) (fun c_97 => ?_)
                    ·
                      refine lv_iconst (v := nI 1) hx hb dX1_alike_110 (by decide) ?_
                      refine lv_goto (tgt := 115) hx hb dX1_alike_111 (by decide) ?_
                      refine lv_istore (lv' := [(5, .int (nI 1)), (4, .int (nI 1)), (3, .int (nI 1)), (8, .int (bI (σ sb i))), (7, .int (bI (σ sa i))), (0, .ref (ρ 0)), (1, .int (nI sa)), (2, .int (nI sb)), (6, .int (nI i))]) hx hb dX1_alike_115 hl (by decide) rfl (fun ls hl => ?_)
                      refine lv_iinc (v := nI (i + 1)) (lv' := [(6, .int (nI (i + 1))), (5, .int (nI 1)), (4, .int (nI 1)), (3, .int (nI 1)), (8, .int (bI (σ sb i))), (7, .int (bI (σ sa i))), (0, .ref (ρ 0)), (1, .int (nI sa)), (2, .int (nI sb))]) hx hb dX1_alike_117 hl (k := 8) rfl (inc_nI _) (by decide) rfl (fun ls hl => ?_)
                      refine lv_goto (tgt := 27) hx hb dX1_alike_120 (by decide) ?_
                      exact ih_27 (i + 1) (by omega) (by omega) _ _ _ _ (congrArg bI (show true = orN (fun j => σ sa j && !σ sb j) (i + 1) by simp [orN, c_4, c_11, c_54, c_59, c_64, c_75, c_97])) (congrArg bI (show true = orN (fun j => σ sb j && !σ sa j) (i + 1) by simp [orN, c_4, c_11, c_54, c_59, c_64, c_75, c_97])) (congrArg bI (show true = orN (fun j => σ sa j && σ sb j) (i + 1) by simp [orN, c_4, c_11, c_54, c_59, c_64, c_75, c_97])) (by first | rfl | exact congrArg nI (by omega)) _ (lv_sub hl [6, 7, 8, 3, 2, 1, 0] rfl)
                    ·
                      refine lv_iload hx hb dX1_alike_100 (lv_at hl 3 rfl) ?_
                      refine nv_ifz_eq (tgt := 114) hx hb dX1_alike_102 (by decide) (fun h => absurd (c_59.symm.trans h) (by decide)) (fun _ => ?_)
                      refine lv_iload hx hb dX1_alike_105 (lv_at hl 2 rfl) ?_
                      refine nv_ifz_eq (tgt := 114) hx hb dX1_alike_107 (by decide) (fun _ => ?_) (fun h => absurd (c_64.symm.trans h) (by decide))
                      refine lv_iconst (v := nI 0) hx hb dX1_alike_114 (by decide) ?_
                      refine lv_istore (lv' := [(5, .int (nI 0)), (4, .int (nI 1)), (3, .int (nI 1)), (8, .int (bI (σ sb i))), (7, .int (bI (σ sa i))), (0, .ref (ρ 0)), (1, .int (nI sa)), (2, .int (nI sb)), (6, .int (nI i))]) hx hb dX1_alike_115 hl (by decide) rfl (fun ls hl => ?_)
                      refine lv_iinc (v := nI (i + 1)) (lv' := [(6, .int (nI (i + 1))), (5, .int (nI 0)), (4, .int (nI 1)), (3, .int (nI 1)), (8, .int (bI (σ sb i))), (7, .int (bI (σ sa i))), (0, .ref (ρ 0)), (1, .int (nI sa)), (2, .int (nI sb))]) hx hb dX1_alike_117 hl (k := 8) rfl (inc_nI _) (by decide) rfl (fun ls hl => ?_)
                      refine lv_goto (tgt := 27) hx hb dX1_alike_120 (by decide) ?_
                      exact ih_27 (i + 1) (by omega) (by omega) _ _ _ _ (congrArg bI (show true = orN (fun j => σ sa j && !σ sb j) (i + 1) by simp [orN, c_4, c_11, c_54, c_59, c_64, c_75, c_97])) (congrArg bI (show true = orN (fun j => σ sb j && !σ sa j) (i + 1) by simp [orN, c_4, c_11, c_54, c_59, c_64, c_75, c_97])) (congrArg bI (show false = orN (fun j => σ sa j && σ sb j) (i + 1) by simp [orN, c_4, c_11, c_54, c_59, c_64, c_75, c_97])) (by first | rfl | exact congrArg nI (by omega)) _ (lv_sub hl [6, 7, 8, 3, 2, 1, 0] rfl)
                  ·
                    refine lv_iload hx hb dX1_alike_78 (lv_at hl 1 rfl) ?_
                    refine nv_ifz_eq (tgt := 92) hx hb dX1_alike_80 (by decide) (fun _ => ?_) (fun h => absurd (c_64.symm.trans h) (by decide))
                    refine lv_iconst (v := nI 0) hx hb dX1_alike_92 (by decide) ?_
                    refine lv_istore (lv' := [(4, .int (nI 0)), (3, .int (nI 1)), (8, .int (bI (σ sb i))), (7, .int (bI (σ sa i))), (0, .ref (ρ 0)), (1, .int (nI sa)), (2, .int (nI sb)), (5, .int (bI (orN (fun j => σ sa j && σ sb j) i))), (6, .int (nI i))]) hx hb dX1_alike_93 hl (by decide) rfl (fun ls hl => ?_)
                    refine lv_iload hx hb dX1_alike_95 (lv_at hl 7 rfl) ?_
                    refine nv_ifz_ne (tgt := 110) hx hb dX1_alike_97 (by decide) (fun c_97 => ?_) (fun c_97 => ?_)
                    ·
                      refine lv_iconst (v := nI 1) hx hb dX1_alike_110 (by decide) ?_
                      refine lv_goto (tgt := 115) hx hb dX1_alike_111 (by decide) ?_
                      refine lv_istore (lv' := [(5, .int (nI 1)), (4, .int (nI 0)), (3, .int (nI 1)), (8, .int (bI (σ sb i))), (7, .int (bI (σ sa i))), (0, .ref (ρ 0)), (1, .int (nI sa)), (2, .int (nI sb)), (6, .int (nI i))]) hx hb dX1_alike_115 hl (by decide) rfl (fun ls hl => ?_)
                      refine lv_iinc (v := nI (i + 1)) (lv' := [(6, .int (nI (i + 1))), (5, .int (nI 1)), (4, .int (nI 0)), (3, .int (nI 1)), (8, .int (bI (σ sb i))), (7, .int (bI (σ sa i))), (0, .ref (ρ 0)), (1, .int (nI sa)), (2, .int (nI sb))]) hx hb dX1_alike_117 hl (k := 8) rfl (inc_nI _) (by decide) rfl (fun ls hl => ?_)
                      refine lv_goto (tgt := 27) hx hb dX1_alike_120 (by decide) ?_
                      exact ih_27 (i + 1) (by omega) (by omega) _ _ _ _ (congrArg bI (show true = orN (fun j => σ sa j && !σ sb j) (i + 1) by simp [orN, c_4, c_11, c_54, c_59, c_64, c_75, c_97])) (congrArg bI (show false = orN (fun j => σ sb j && !σ sa j) (i + 1) by simp [orN, c_4, c_11, c_54, c_59, c_64, c_75, c_97])) (congrArg bI (show true = orN (fun j => σ sa j && σ sb j) (i + 1) by simp [orN, c_4, c_11, c_54, c_59, c_64, c_75, c_97])) (by first | rfl | exact congrArg nI (by omega)) _ (lv_sub hl [6, 7, 8, 3, 2, 1, 0] rfl)
                    ·
                      refine lv_iload hx hb dX1_alike_100 (lv_at hl 3 rfl) ?_
                      refine nv_ifz_eq (tgt := 114) hx hb dX1_alike_102 (by decide) (fun h => absurd (c_59.symm.trans h) (by decide)) (fun _ => ?_)
                      refine lv_iload hx hb dX1_alike_105 (lv_at hl 2 rfl) ?_
                      refine nv_ifz_eq (tgt := 114) hx hb dX1_alike_107 (by decide) (fun _ => ?_) (fun h => absurd (c_64.symm.trans h) (by decide))
                      refine lv_iconst (v := nI 0) hx hb dX1_alike_114 (by decide) ?_
                      refine lv_istore (lv' := [(5, .int (nI 0)), (4, .int (nI 0)), (3, .int (nI 1)), (8, .int (bI (σ sb i))), (7, .int (bI (σ sa i))), (0, .ref (ρ 0)), (1, .int (nI sa)), (2, .int (nI sb)), (6, .int (nI i))]) hx hb dX1_alike_115 hl (by decide) rfl (fun ls hl => ?_)
                      refine lv_iinc (v := nI (i + 1)) (lv' := [(6, .int (nI (i + 1))), (5, .int (nI 0)), (4, .int (nI 0)), (3, .int (nI 1)), (8, .int (bI (σ sb i))), (7, .int (bI (σ sa i))), (0, .ref (ρ 0)), (1, .int (nI sa)), (2, .int (nI sb))]) hx hb dX1_alike_117 hl (k := 8) rfl (inc_nI _) (by decide) rfl (fun ls hl => ?_)
                      refine lv_goto (tgt := 27) hx hb dX1_alike_120 (by decide) ?_
                      exact ih_27 (i + 1) (by omega) (by omega) _ _ _ _ (congrArg bI (show true = orN (fun j => σ sa j && !σ sb j) (i + 1) by simp [orN, c_4, c_11, c_54, c_59, c_64, c_75, c_97])) (congrArg bI (show false = orN (fun j => σ sb j && !σ sa j) (i + 1) by simp [orN, c_4, c_11, c_54, c_59, c_64, c_75, c_97])) (congrArg bI (show false = orN (fun j => σ sa j && σ sb j) (i + 1) by simp [orN, c_4, c_11, c_54, c_59, c_64, c_75, c_97])) (by first | rfl | exact congrArg nI (by omega)) _ (lv_sub hl [6, 7, 8, 3, 2, 1, 0] rfl)
      exact loop_27 (2401 - 0 + 1) 0 (by omega) (Nat.lt_succ_self _) _ _ _ _ (congrArg bI (show false = orN (fun j => σ sa j && !σ sb j) 0 by simp [orN, c_4, c_11])) (congrArg bI (show false = orN (fun j => σ sb j && !σ sa j) 0 by simp [orN, c_4, c_11])) (congrArg bI (show false = orN (fun j => σ sa j && σ sb j) 0 by simp [orN, c_4, c_11])) rfl _ (lv_sub hl [4, 5, 6, 3, 2, 1, 0] rfl)
    ·
      refine lv_iconst (v := (-1)) hx hb dX1_alike_14 (by decide) ?_
      exact ret_i hx hb hr hlocks dX1_alike_15 (by first | (simp [alikeR, gd, gs, c_4, c_11]; done) | (simp [alikeR, gd, gs, c_4]; done))
theorem nf_X1_image : nfOk yX1_image 1 := by unfold nfOk; decide +kernel
set_option maxHeartbeats 4000000 in
set_option maxRecDepth 100000 in
theorem c_X1_image (l : Launch) (D : va_G) (cI cZ : ClassId) (ρ : Nat → Nat) (ts : Nat) (σ : Nat → Nat → Bool) (κ : Int32) (mk : Nat → Int32) (qu : Nat → Int32) (x : Int32) (kp : Nat → Bool) (hκ : κ = kv kp) : Wr l yX1_image wsX1_image ({ frames := 1, cells := 0, slots := 0, locals := 22 }) [.ref (ρ 0), .int x] (XB D cI cZ ρ ts σ κ mk qu) (some (.int (imageR x))) (XS D cI ρ (imageS σ x) (kv (imageK kp x))) (xA 7 ρ) := by
  refine met_in RX1 (by decide) rfl rfl (Nat.le_of_ble_eq_true rfl) ?_
  intro p e s m below meth c ls S hr hlocks hl hB
  have hx := S.1
  have hb := S.2.1
  have hml := S.2.2.1
  have hown := S.2.2.2.1
  have hts := S.2.2.2.2
  have hl : lv_has ls 5 [(0, .ref (ρ 0)), (1, .int x)] := hl
  obtain ⟨⟨held, hRel, hP⟩, hXK⟩ := hB
  have hK := hXK.1
  have hS : va_S (xA 7 ρ) s.heap s.heap [] := va_S.rf
  refine lv_iload_n hx hb dX1_image_0 rfl (lv_at hl 1 rfl) ?_
  refine lv_iconst (v := nI 0) hx hb dX1_image_1 (by decide) ?_
  refine lv_iconst (v := nI 1) hx hb dX1_image_2 (by decide) ?_
  refine rd_S S hl (c_X1_within l x (nI 0) (nI 1)) HB.tt gX1_image_X1_within rfl nf_X1_within rfl rfl dX1_image_3  (fun _ _ _ => trivial) ?_
  refine nv_ifz_ne (tgt := 12) hx hb dX1_image_6 (by decide) (fun c_6 => ?_) (fun c_6 => ?_)
  ·
    obtain ⟨k, hk, hxk⟩ := wI_nat c_6 (by decide)
    subst hxk
    have hck : (nI k).toNatClampNeg = k := nI_clamp (by omega)
    refine lv_iload_n hx hb dX1_image_12 rfl (lv_at hl 1 rfl) ?_
    refine rd_S S hl (c_X1_imageShift l k) HB.tt gX1_image_X1_imageShift rfl nf_X1_imageShift rfl rfl dX1_image_13  (fun _ _ _ => trivial) ?_
    refine lv_istore_n (lv' := [(2, .int (nI (4 * (k + 1)))), (0, .ref (ρ 0)), (1, .int (nI k))]) hx hb dX1_image_16 rfl hl (by decide) rfl (fun ls hl => ?_)
    refine lv_iconst (v := nI 0) hx hb dX1_image_17 (by decide) ?_
    refine lv_istore_n (lv' := [(3, .int (nI 0)), (2, .int (nI (4 * (k + 1)))), (0, .ref (ρ 0)), (1, .int (nI k))]) hx hb dX1_image_18 rfl hl (by decide) rfl (fun ls hl => ?_)
    have loop_19 : ∀ (n : Nat) (i : Nat), (i ≤ 2401) → 2401 - i < n → ∀ (x3 : Int32), x3 = nI i → ∀ (H : Heap) (locs : List Loc), va_S (xA 7 ρ) s.heap H locs → XP D cI ρ (imgS σ k i) κ mk qu H → ∀ ls : Array Slot, lv_has ls 5 [(0, .ref (ρ 0)), (1, .int (nI k)), (2, .int (nI (4 * (k + 1)))), (3, .int x3)] → W p l e (headSpec wsX1_image ({ frames := 1, cells := 0, slots := 0, locals := 22 })).room s m [.ref (ρ 0), .int (nI k)].toArray below meth c H locs 0 0 (MQ below (qW (some (.int (imageR (nI k)))) (XS D cI ρ (imageS σ (nI k)) (kv (imageK kp (nI k)))) (xA 7 ρ)) [.ref (ρ 0), .int (nI k)].toArray s 0 0 (xA 7 ρ)) (F0 m 19 ls []) := by
      intro n
      induction n with
      | zero => intro i hi hm; exact absurd hm (Nat.not_lt_zero _)
      | succ n ih_19 =>
        intro i hi hm_19 x3 e3 H locs hS hPP ls hl
        subst e3
        obtain ⟨held, hRel, hP⟩ := hPP
        refine lv_iload_n hx hb dX1_image_19 rfl (lv_at hl 3 rfl) ?_
        refine lv_aload_n hx hb dX1_image_20 rfl (lv_at hl 0 rfl) ?_
        refine va_get (D := D) (ci := 1) (v := .ref (ρ 2)) (C := RX1) (T := TX1) (N := 5) hx hb hts (by decide +kernel) hown hK hP 0 rfl rfl 1 (by decide) (hts (.fieldLink RX1 16 "SevenKeys" "held" "[I") (by decide +kernel)) (fun _ h9 => h9) rfl dX1_image_21 ?_
        refine va_alen hx hb hK hP 2 0 rfl rfl (v := nI 2401) rfl dX1_image_24 ?_
        refine nv_icmp_ge (tgt := 69) hx hb dX1_image_25 (by decide) (by omega) (by omega) (fun c_25 => ?_) (fun c_25 => ?_)
        ·
          refine lv_aload_n hx hb dX1_image_69 rfl (lv_at hl 0 rfl) ?_
          refine lv_aload_n hx hb dX1_image_70 rfl (lv_at hl 0 rfl) ?_
          refine va_get (D := D) (ci := 1) (v := .int κ) (C := RX1) (T := TX1) (N := 5) hx hb hts (by decide +kernel) hown hK hP 0 rfl rfl 2 (by decide) (hts (.fieldLink RX1 20 "SevenKeys" "keptImages" "I") (by decide +kernel)) (fun _ h9 => h9) rfl dX1_image_71 ?_
          refine lv_iconst (v := nI 1) hx hb dX1_image_74 (by decide) ?_
          refine lv_iload_n hx hb dX1_image_75 rfl (lv_at hl 1 rfl) ?_
          refine lv_ishl hx hb dX1_image_76 ?_
          refine lv_ior hx hb dX1_image_77 ?_
          refine va_put (D := D) (ci := 1) (v := .int (κ ||| ((nI 1) <<< ((nI k) &&& 31)))) (ty := .int) (C := RX1) (T := TX1) (N := 5) hx hb hts (by decide +kernel) tyX1 tyX1_ok nmX1 hown hK hP hXK.D hS 0 rfl rfl 2 (by decide) (hts (.fieldLink RX1 20 "SevenKeys" "keptImages" "I") (by decide +kernel)) (fun _ h9 => h9) rfl (by decide +kernel) rfl rfl (Nat.le_of_ble_eq_true rfl) dX1_image_78 (fun H locs hP hD hS => ?_)
          have hP : va_P D vwCl (xW cI ρ held (κ ||| ((nI 1) <<< ((nI k) &&& 31))) mk qu) H := hP
          refine lv_iconst (v := nI 1) hx hb dX1_image_81 (by decide) ?_
          have hi2 : i = 2401 := by omega
          exact ret_wi hx hb hr hlocks dX1_image_82 hS (⟨_, _, held, hRel.eq (by rw [hi2]; simp [imageS, c_6, hck]), by simp only [imageK, c_6, cond_true, hck]; rw [← kv_set (by omega), ← hκ]; exact hP⟩) (by simp [imageR, gd, c_6])
        ·
          refine lv_aload_n hx hb dX1_image_28 rfl (lv_at hl 0 rfl) ?_
          refine va_get (D := D) (ci := 1) (v := .ref (ρ 2)) (C := RX1) (T := TX1) (N := 5) hx hb hts (by decide +kernel) hown hK hP 0 rfl rfl 1 (by decide) (hts (.fieldLink RX1 16 "SevenKeys" "held" "[I") (by decide +kernel)) (fun _ h9 => h9) rfl dX1_image_29 ?_
          refine lv_iload_n hx hb dX1_image_32 rfl (lv_at hl 3 rfl) ?_
          refine nv_iald hx hb hK hP 2 0 rfl rfl (by omega) (by decide) dX1_image_33 ?_
          refine lv_bipush (v := nI 15) hx hb dX1_image_34 (by decide) ?_
          refine lv_iload_n hx hb dX1_image_36 rfl (lv_at hl 2 rfl) ?_
          refine lv_ishl hx hb dX1_image_37 ?_
          refine lv_iconst (v := (-1)) hx hb dX1_image_38 (by decide) ?_
          refine lv_ixor hx hb dX1_image_39 ?_
          refine lv_iand hx hb dX1_image_40 ?_
          refine lv_istore (lv' := [(4, .int ((held i) &&& (((nI 15) <<< ((nI (4 * (k + 1))) &&& 31)) ^^^ (-1)))), (0, .ref (ρ 0)), (1, .int (nI k)), (2, .int (nI (4 * (k + 1)))), (3, .int (nI i))]) hx hb dX1_image_41 hl (by decide) rfl (fun ls hl => ?_)
          refine lv_aload_n hx hb dX1_image_43 rfl (lv_at hl 1 rfl) ?_
          refine va_get (D := D) (ci := 1) (v := .ref (ρ 2)) (C := RX1) (T := TX1) (N := 5) hx hb hts (by decide +kernel) hown hK hP 0 rfl rfl 1 (by decide) (hts (.fieldLink RX1 16 "SevenKeys" "held" "[I") (by decide +kernel)) (fun _ h9 => h9) rfl dX1_image_44 ?_
          refine lv_iload_n hx hb dX1_image_47 rfl (lv_at hl 4 rfl) ?_
          refine lv_iload hx hb dX1_image_48 (lv_at hl 0 rfl) ?_
          refine lv_aload_n hx hb dX1_image_50 rfl (lv_at hl 1 rfl) ?_
          refine va_get (D := D) (ci := 1) (v := .ref (ρ 2)) (C := RX1) (T := TX1) (N := 5) hx hb hts (by decide +kernel) hown hK hP 0 rfl rfl 1 (by decide) (hts (.fieldLink RX1 16 "SevenKeys" "held" "[I") (by decide +kernel)) (fun _ h9 => h9) rfl dX1_image_51 ?_
          refine lv_iload_n hx hb dX1_image_54 rfl (lv_at hl 4 rfl) ?_
          refine nv_iald hx hb hK hP 2 0 rfl rfl (by omega) (by decide) dX1_image_55 ?_
          refine lv_bipush (v := nI 15) hx hb dX1_image_56 (by decide) ?_
          refine lv_iand hx hb dX1_image_58 ?_
          refine lv_iload_n hx hb dX1_image_59 rfl (lv_at hl 3 rfl) ?_
          refine lv_ishl hx hb dX1_image_60 ?_
          refine lv_ior hx hb dX1_image_61 ?_
          refine nv_iast hx hb hK hP hXK.D hS 2 0 rfl rfl (by omega) (by decide) dX1_image_62 (fun H locs hP hS => ?_)
          have hP : va_P D vwCl (xW cI ρ (upd held i (((held i) &&& (((nI 15) <<< ((nI (4 * (k + 1))) &&& 31)) ^^^ (-1))) ||| (((held i) &&& (nI 15)) <<< ((nI (4 * (k + 1))) &&& 31)))) κ mk qu) H := hP
          refine lv_iinc (v := nI (i + 1)) (lv' := [(3, .int (nI (i + 1))), (4, .int ((held i) &&& (((nI 15) <<< ((nI (4 * (k + 1))) &&& 31)) ^^^ (-1)))), (0, .ref (ρ 0)), (1, .int (nI k)), (2, .int (nI (4 * (k + 1))))]) hx hb dX1_image_63 hl (k := 4) rfl (inc_nI _) (by decide) rfl (fun ls hl => ?_)
          refine lv_goto (tgt := 19) hx hb dX1_image_66 (by decide) ?_
          exact ih_19 (i + 1) (by omega) (by omega) _ (by first | rfl | exact congrArg nI (by omega)) _ _ hS ⟨_, img_rel hRel (by omega), hP⟩ _ (lv_sub hl [2, 3, 4, 0] rfl)
    exact loop_19 (2401 - 0 + 1) 0 (by omega) (Nat.lt_succ_self _) _ rfl _ _ hS ⟨held, hRel.eq img_0, hP⟩ _ (lv_sub hl [2, 3, 1, 0] rfl)
  ·
    refine lv_bipush (v := (-2)) hx hb dX1_image_9 (by decide) ?_
    exact ret_wi hx hb hr hlocks dX1_image_11 hS (⟨_, _, held, hRel.eq (by simp [imageS, c_6]), by simp only [imageK, c_6, cond_false]; rw [← hκ]; exact hP⟩) (by simp [imageR, gd, c_6])
theorem nf_X1_restore : nfOk yX1_restore 1 := by unfold nfOk; decide +kernel
set_option maxHeartbeats 4000000 in
set_option maxRecDepth 100000 in
theorem c_X1_restore (l : Launch) (D : va_G) (cI cZ : ClassId) (ρ : Nat → Nat) (ts : Nat) (σ : Nat → Nat → Bool) (κ : Int32) (mk : Nat → Int32) (qu : Nat → Int32) (x : Int32) (kp : Nat → Bool) (hκ : κ = kv kp) : Wr l yX1_restore wsX1_restore ({ frames := 1, cells := 0, slots := 0, locals := 22 }) [.ref (ρ 0), .int x] (XB D cI cZ ρ ts σ κ mk qu) (some (.int (restR kp x))) (XS D cI ρ (restS σ kp x) κ) (xA 7 ρ) := by
  refine met_in RX1 (by decide) rfl rfl (Nat.le_of_ble_eq_true rfl) ?_
  intro p e s m below meth c ls S hr hlocks hl hB
  have hx := S.1
  have hb := S.2.1
  have hml := S.2.2.1
  have hown := S.2.2.2.1
  have hts := S.2.2.2.2
  have hl : lv_has ls 4 [(0, .ref (ρ 0)), (1, .int x)] := hl
  obtain ⟨⟨held, hRel, hP⟩, hXK⟩ := hB
  have hK := hXK.1
  have hS : va_S (xA 7 ρ) s.heap s.heap [] := va_S.rf
  refine lv_iload_n hx hb dX1_restore_0 rfl (lv_at hl 1 rfl) ?_
  refine lv_iconst (v := nI 0) hx hb dX1_restore_1 (by decide) ?_
  refine lv_iconst (v := nI 1) hx hb dX1_restore_2 (by decide) ?_
  refine rd_S S hl (c_X1_within l x (nI 0) (nI 1)) HB.tt gX1_restore_X1_within rfl nf_X1_within rfl rfl dX1_restore_3  (fun _ _ _ => trivial) ?_
  refine nv_ifz_ne (tgt := 12) hx hb dX1_restore_6 (by decide) (fun c_6 => ?_) (fun c_6 => ?_)
  ·
    obtain ⟨k, hk, hxk⟩ := wI_nat c_6 (by decide)
    subst hxk
    have hck : (nI k).toNatClampNeg = k := nI_clamp (by omega)
    refine lv_aload_n hx hb dX1_restore_12 rfl (lv_at hl 0 rfl) ?_
    refine va_get (D := D) (ci := 1) (v := .int κ) (C := RX1) (T := TX1) (N := 5) hx hb hts (by decide +kernel) hown hK hP 0 rfl rfl 2 (by decide) (hts (.fieldLink RX1 20 "SevenKeys" "keptImages" "I") (by decide +kernel)) (fun _ h9 => h9) rfl dX1_restore_13 ?_
    refine lv_iload_n hx hb dX1_restore_16 rfl (lv_at hl 1 rfl) ?_
    refine lv_ishr hx hb dX1_restore_17 ?_
    refine lv_iconst (v := nI 1) hx hb dX1_restore_18 (by decide) ?_
    refine lv_iand hx hb dX1_restore_19 ?_
    refine nv_as (bI (kp k)) (by rw [hκ]; exact kv_get (by omega)) ?_
    refine nv_ifz_ne (tgt := 26) hx hb dX1_restore_20 (by decide) (fun c_20 => ?_) (fun c_20 => ?_)
    ·
      refine lv_iload_n hx hb dX1_restore_26 rfl (lv_at hl 1 rfl) ?_
      refine rd_S S hl (c_X1_imageShift l k) HB.tt gX1_restore_X1_imageShift rfl nf_X1_imageShift rfl rfl dX1_restore_27  (fun _ _ _ => trivial) ?_
      refine lv_istore_n (lv' := [(2, .int (nI (4 * (k + 1)))), (0, .ref (ρ 0)), (1, .int (nI k))]) hx hb dX1_restore_30 rfl hl (by decide) rfl (fun ls hl => ?_)
      refine lv_iconst (v := nI 0) hx hb dX1_restore_31 (by decide) ?_
      refine lv_istore_n (lv' := [(3, .int (nI 0)), (2, .int (nI (4 * (k + 1)))), (0, .ref (ρ 0)), (1, .int (nI k))]) hx hb dX1_restore_32 rfl hl (by decide) rfl (fun ls hl => ?_)
      have loop_33 : ∀ (n : Nat) (i : Nat), (i ≤ 2401) → 2401 - i < n → ∀ (x3 : Int32), x3 = nI i → ∀ (H : Heap) (locs : List Loc), va_S (xA 7 ρ) s.heap H locs → XP D cI ρ (rstS σ k i) κ mk qu H → ∀ ls : Array Slot, lv_has ls 4 [(0, .ref (ρ 0)), (1, .int (nI k)), (2, .int (nI (4 * (k + 1)))), (3, .int x3)] → W p l e (headSpec wsX1_restore ({ frames := 1, cells := 0, slots := 0, locals := 22 })).room s m [.ref (ρ 0), .int (nI k)].toArray below meth c H locs 0 0 (MQ below (qW (some (.int (restR kp (nI k)))) (XS D cI ρ (restS σ kp (nI k)) κ) (xA 7 ρ)) [.ref (ρ 0), .int (nI k)].toArray s 0 0 (xA 7 ρ)) (F0 m 33 ls []) := by
        intro n
        induction n with
        | zero => intro i hi hm; exact absurd hm (Nat.not_lt_zero _)
        | succ n ih_33 =>
          intro i hi hm_33 x3 e3 H locs hS hPP ls hl
          subst e3
          obtain ⟨held, hRel, hP⟩ := hPP
          refine lv_iload_n hx hb dX1_restore_33 rfl (lv_at hl 3 rfl) ?_
          refine lv_aload_n hx hb dX1_restore_34 rfl (lv_at hl 0 rfl) ?_
          refine va_get (D := D) (ci := 1) (v := .ref (ρ 2)) (C := RX1) (T := TX1) (N := 5) hx hb hts (by decide +kernel) hown hK hP 0 rfl rfl 1 (by decide) (hts (.fieldLink RX1 16 "SevenKeys" "held" "[I") (by decide +kernel)) (fun _ h9 => h9) rfl dX1_restore_35 ?_
          refine va_alen hx hb hK hP 2 0 rfl rfl (v := nI 2401) rfl dX1_restore_38 ?_
          refine nv_icmp_ge (tgt := 75) hx hb dX1_restore_39 (by decide) (by omega) (by omega) (fun c_39 => ?_) (fun c_39 => ?_)
          ·
            refine lv_iconst (v := nI 1) hx hb dX1_restore_75 (by decide) ?_
            have hi2 : i = 2401 := by omega
            exact ret_wi hx hb hr hlocks dX1_restore_76 hS (⟨_, _, held, hRel.eq (by rw [hi2]; simp [restS, c_6, c_20, hck]), hP⟩) (by simp [restR, gd, c_6, c_20, hck])
          ·
            refine lv_aload_n hx hb dX1_restore_42 rfl (lv_at hl 0 rfl) ?_
            refine va_get (D := D) (ci := 1) (v := .ref (ρ 2)) (C := RX1) (T := TX1) (N := 5) hx hb hts (by decide +kernel) hown hK hP 0 rfl rfl 1 (by decide) (hts (.fieldLink RX1 16 "SevenKeys" "held" "[I") (by decide +kernel)) (fun _ h9 => h9) rfl dX1_restore_43 ?_
            refine lv_iload_n hx hb dX1_restore_46 rfl (lv_at hl 3 rfl) ?_
            refine lv_aload_n hx hb dX1_restore_47 rfl (lv_at hl 0 rfl) ?_
            refine va_get (D := D) (ci := 1) (v := .ref (ρ 2)) (C := RX1) (T := TX1) (N := 5) hx hb hts (by decide +kernel) hown hK hP 0 rfl rfl 1 (by decide) (hts (.fieldLink RX1 16 "SevenKeys" "held" "[I") (by decide +kernel)) (fun _ h9 => h9) rfl dX1_restore_48 ?_
            refine lv_iload_n hx hb dX1_restore_51 rfl (lv_at hl 3 rfl) ?_
            refine nv_iald hx hb hK hP 2 0 rfl rfl (by omega) (by decide) dX1_restore_52 ?_
            refine lv_bipush (v := (-16)) hx hb dX1_restore_53 (by decide) ?_
            refine lv_iand hx hb dX1_restore_55 ?_
            refine lv_aload_n hx hb dX1_restore_56 rfl (lv_at hl 0 rfl) ?_
            refine va_get (D := D) (ci := 1) (v := .ref (ρ 2)) (C := RX1) (T := TX1) (N := 5) hx hb hts (by decide +kernel) hown hK hP 0 rfl rfl 1 (by decide) (hts (.fieldLink RX1 16 "SevenKeys" "held" "[I") (by decide +kernel)) (fun _ h9 => h9) rfl dX1_restore_57 ?_
            refine lv_iload_n hx hb dX1_restore_60 rfl (lv_at hl 3 rfl) ?_
            refine nv_iald hx hb hK hP 2 0 rfl rfl (by omega) (by decide) dX1_restore_61 ?_
            refine lv_iload_n hx hb dX1_restore_62 rfl (lv_at hl 2 rfl) ?_
            refine lv_ishr hx hb dX1_restore_63 ?_
            refine lv_bipush (v := nI 15) hx hb dX1_restore_64 (by decide) ?_
            refine lv_iand hx hb dX1_restore_66 ?_
            refine lv_ior hx hb dX1_restore_67 ?_
            refine nv_iast hx hb hK hP hXK.D hS 2 0 rfl rfl (by omega) (by decide) dX1_restore_68 (fun H locs hP hS => ?_)
            have hP : va_P D vwCl (xW cI ρ (upd held i (((held i) &&& (-16)) ||| (((held i) >>> ((nI (4 * (k + 1))) &&& 31)) &&& (nI 15)))) κ mk qu) H := hP
            refine lv_iinc (v := nI (i + 1)) (lv' := [(3, .int (nI (i + 1))), (0, .ref (ρ 0)), (1, .int (nI k)), (2, .int (nI (4 * (k + 1))))]) hx hb dX1_restore_69 hl (k := 3) rfl (inc_nI _) (by decide) rfl (fun ls hl => ?_)
            refine lv_goto (tgt := 33) hx hb dX1_restore_72 (by decide) ?_
            exact ih_33 (i + 1) (by omega) (by omega) _ (by first | rfl | exact congrArg nI (by omega)) _ _ hS ⟨_, rst_rel hRel (by omega), hP⟩ _ (lv_sub hl [1, 2, 3, 0] rfl)
      exact loop_33 (2401 - 0 + 1) 0 (by omega) (Nat.lt_succ_self _) _ rfl _ _ hS ⟨held, hRel.eq rst_0, hP⟩ _ (lv_sub hl [2, 3, 1, 0] rfl)
    ·
      refine lv_bipush (v := (-3)) hx hb dX1_restore_23 (by decide) ?_
      exact ret_wi hx hb hr hlocks dX1_restore_25 hS (⟨_, _, held, hRel.eq (by simp [restS, c_6, c_20, hck]), hP⟩) (by simp [restR, gd, c_6, c_20, hck])
  ·
    refine lv_bipush (v := (-2)) hx hb dX1_restore_9 (by decide) ?_
    exact ret_wi hx hb hr hlocks dX1_restore_11 hS (⟨_, _, held, hRel.eq (by simp [restS, c_6]), hP⟩) (by simp [restR, gd, c_6])
