theorem nf_X2_layPieces : nfOk yX2_layPieces 1 := by unfold nfOk; decide +kernel
set_option maxHeartbeats 4000000 in
set_option maxRecDepth 100000 in
theorem c_X2_layPieces (l : Launch) (D : va_G) (cI cZ : ClassId) (μ : Nat → Nat) (σ : Nat → Nat → Bool) (M : Nat → Nat → Int32) (V : Nat → Int32) (sl : Nat) (hsl : sl < 4) : Wr l yX2_layPieces wsX2_layPieces ({ frames := 4, cells := 0, slots := 0, locals := 93 }) [.ref (μ 0), .int (nI sl)] (MB D cI cZ μ σ M V) (some (.int (nI ((lay (σ sl) 2401).2.1)))) (MLy D cI cZ μ σ (σ sl) (M 5)) (xA 13 μ) := by
  refine met_in RX2 (by decide) rfl rfl (Nat.le_of_ble_eq_true rfl) ?_
  intro p e s m below meth c ls S hr hlocks hl hB
  have hx := S.1
  have hb := S.2.1
  have hml := S.2.2.1
  have hown := S.2.2.2.1
  have hts := S.2.2.2.2
  have hl : lv_has ls 5 [(0, .ref (μ 0)), (1, .int (nI sl))] := hl
  obtain ⟨⟨hRel, hPt, hKg, hP⟩, hMK⟩ := hB
  have hK := hMK.1
  have hS : va_S (xA 13 μ) s.heap s.heap [] := va_S.rf
  refine lv_aload_n hx hb dX2_layPieces_0 rfl (lv_at hl 0 rfl) ?_
  refine wr_V S hl (c_X2_clearPieces l D cI cZ μ σ M V) MB.hb gX2_layPieces_X2_clearPieces rfl rfl nf_X2_clearPieces rfl rfl dX2_layPieces_1 (MP.rc0 hMK hP) (MB.at hMK ⟨hRel, hPt, hKg, hP⟩) hS (fun _ h => h) (fun H locs hPP hS _ hkp => ?_)
  obtain ⟨M_1, V_1, ⟨h5_1, hc_1⟩, hRel, hPt, hKg, hP⟩ := hPP
  refine W.eq (g2 := F0 m 4 ls []) rfl ?_
  refine lv_aload_n hx hb dX2_layPieces_4 rfl (lv_at hl 0 rfl) ?_
  refine lv_iconst (v := nI 0) hx hb dX2_layPieces_5 (by decide) ?_
  refine va_put (D := D) (ci := 2) (v := .int (nI 0)) (ty := .int) (C := RX2) (T := TX2) (N := 15) hx hb hts (by decide +kernel) tyX2 tyX2_ok nmX2 hown hK hP hMK.D hS 0 rfl rfl 14 (by decide) (hts (.fieldLink RX2 113 "SevenKeysModel" "most" "I") (by decide +kernel)) (fun _ h9 => h9) rfl (by decide +kernel) rfl rfl (Nat.le_of_ble_eq_true rfl) dX2_layPieces_6 (fun H locs hP hD hS => ?_)
  have hP : va_P D vwCl (mW cI cZ μ M_1 (va_up V_1 2 (nI 0))) H := hP
  refine lv_iconst (v := nI 0) hx hb dX2_layPieces_9 (by decide) ?_
  refine lv_istore_n (lv' := [(2, .int (nI 0)), (0, .ref (μ 0)), (1, .int (nI sl))]) hx hb dX2_layPieces_10 rfl hl (by decide) rfl (fun ls hl => ?_)
  refine lv_iconst (v := nI 0) hx hb dX2_layPieces_11 (by decide) ?_
  refine lv_istore_n (lv' := [(3, .int (nI 0)), (2, .int (nI 0)), (0, .ref (μ 0)), (1, .int (nI sl))]) hx hb dX2_layPieces_12 rfl hl (by decide) rfl (fun ls hl => ?_)
  have loop_13 : ∀ (n : Nat) (i : Nat) (M1 : Nat → Nat → Int32) (V1 : Nat → Int32), (i ≤ 2401) → (∀ k, k < 2401 → M1 10 k = if (lay (σ sl) i).1.1 k = 0 then -6 else nI ((lay (σ sl) i).1.2.1 k)) → (∀ k, k < 2401 → (lay (σ sl) i).1.1 k ≠ 0 → M1 11 k = nI ((lay (σ sl) i).1.1 k - 1)) → (V1 2 = nI (lay (σ sl) i).2.2) → (M1 5 = M 5) → 2401 - i < n → ∀ (x2 x3 : Int32), x2 = nI ((lay (σ sl) i).2.1) → x3 = nI i → ∀ (H : Heap) (locs : List Loc), va_S (xA 13 μ) s.heap H locs → MP D cI cZ μ σ M1 V1 H → ∀ ls : Array Slot, lv_has ls 5 [(0, .ref (μ 0)), (1, .int (nI sl)), (2, .int x2), (3, .int x3)] → W p l e (headSpec wsX2_layPieces ({ frames := 4, cells := 0, slots := 0, locals := 93 })).room s m [.ref (μ 0), .int (nI sl)].toArray below meth c H locs 0 0 (MQ below (qW (some (.int (nI ((lay (σ sl) 2401).2.1)))) (MLy D cI cZ μ σ (σ sl) (M 5)) (xA 13 μ)) [.ref (μ 0), .int (nI sl)].toArray s 0 0 (xA 13 μ)) (F0 m 13 ls []) := by
    intro n
    induction n with
    | zero => intro i M1 V1 hi hq1 hq2 hv h5 hm; exact absurd hm (Nat.not_lt_zero _)
    | succ n ih_13 =>
      intro i M1 V1 hi hq1 hq2 hv h5 hm_13 x2 x3 e2 e3 H locs hS hPP ls hl
      subst e2
      subst e3
      obtain ⟨hRel, hPt, hKg, hP⟩ := hPP
      refine lv_iload_n hx hb dX2_layPieces_13 rfl (lv_at hl 3 rfl) ?_
      refine lv_sipush (v := nI 2401) hx hb dX2_layPieces_14 (by decide) ?_
      refine nv_icmp_ge (tgt := 78) hx hb dX2_layPieces_17 (by decide) (by omega) (by omega) (fun c_17 => ?_) (fun c_17 => ?_)
      ·
        refine lv_iload_n hx hb dX2_layPieces_78 rfl (lv_at hl 2 rfl) ?_
        have hi2 : i = 2401 := by omega
        subst hi2
        exact ret_wi hx hb hr hlocks dX2_layPieces_79 hS (⟨_, _, ⟨h5, hv, hq1⟩, hRel, hPt, hKg, hP⟩) (by rfl)
      ·
        refine lv_aload_n hx hb dX2_layPieces_20 rfl (lv_at hl 0 rfl) ?_
        refine lv_iload_n hx hb dX2_layPieces_21 rfl (lv_at hl 1 rfl) ?_
        refine lv_iload_n hx hb dX2_layPieces_22 rfl (lv_at hl 3 rfl) ?_
        have hlo := lay_ok (A := σ sl) hi
        have hlp := lay_pc (A := σ sl) i hi
        refine rd_V S hl (c_X2_isIn l D cI cZ μ σ M1 V1 sl i (by omega) (by omega)) MB.hb gX2_layPieces_X2_isIn rfl rfl nf_X2_isIn rfl rfl dX2_layPieces_23 (MP.rc0 hMK hP) (MB.at hMK ⟨hRel, hPt, hKg, hP⟩) ?_
        refine nv_ifz_eq (tgt := 72) hx hb dX2_layPieces_26 (by decide) (fun c_26 => ?_) (fun c_26 => ?_)
        ·
          have hE : lay (σ sl) (i + 1) = lay (σ sl) i := lay_f (fun q => absurd (q.1.symm.trans c_26) (by decide))
          refine lv_iinc (v := nI (i + 1)) (lv' := [(3, .int (nI (i + 1))), (0, .ref (μ 0)), (1, .int (nI sl)), (2, .int (nI ((lay (σ sl) i).2.1)))]) hx hb dX2_layPieces_72 hl (k := 3) rfl (inc_nI _) (by decide) rfl (fun ls hl => ?_)
          refine lv_goto (tgt := 13) hx hb dX2_layPieces_75 (by decide) ?_
          exact ih_13 (i + 1) M1 V1 (by omega) (by first | (rw [hE]; exact hq1) | (rw [hE]; exact hrM_42.1)) (by first | (rw [hE]; exact hq2) | (rw [hE]; exact hrM_42.2.1)) (by first | (rw [hE]; exact hv) | (rw [hE]; exact congrArg nI (Nat.max_eq_left (by omega)).symm) | (rw [hE]; exact congrArg nI (Nat.max_eq_right (by omega)).symm)) (by first | exact h5 | exact h5_42.trans h5) (by omega) _ _ (by rw [hE]) (by first | rfl | exact congrArg nI (by omega)) _ _ hS ⟨hRel, hPt, hKg, hP⟩ _ (lv_sub hl [1, 2, 3, 0] rfl)
        ·
          have hge := rM_ge (hq1 i (by omega)) (show (lay (σ sl) i).1.2.1 i < 2 ^ 31 by have := hlp i; omega)
          refine lv_aload_n hx hb dX2_layPieces_29 rfl (lv_at hl 0 rfl) ?_
          refine va_get (D := D) (ci := 2) (v := .ref (μ 10)) (C := RX2) (T := TX2) (N := 15) hx hb hts (by decide +kernel) hown hK hP 0 rfl rfl 10 (by decide) (hts (.fieldLink RX2 38 "SevenKeysModel" "pieces" "[I") (by decide +kernel)) (fun _ h9 => h9) rfl dX2_layPieces_30 ?_
          refine lv_iload_n hx hb dX2_layPieces_33 rfl (lv_at hl 3 rfl) ?_
          refine nv_iald hx hb hK hP 10 0 rfl rfl (by omega) (by decide) dX2_layPieces_34 ?_
          refine lv_if_ge (tgt := 72) hx hb dX2_layPieces_35 (by decide) (fun c_35 => ?_) (fun c_35 => ?_)
          ·
            have hE : lay (σ sl) (i + 1) = lay (σ sl) i := lay_f (fun q => hge.mp c_35 q.2)
            refine lv_iinc (v := nI (i + 1)) (lv' := [(3, .int (nI (i + 1))), (0, .ref (μ 0)), (1, .int (nI sl)), (2, .int (nI ((lay (σ sl) i).2.1)))]) hx hb dX2_layPieces_72 hl (k := 3) rfl (inc_nI _) (by decide) rfl (fun ls hl => ?_)
            refine lv_goto (tgt := 13) hx hb dX2_layPieces_75 (by decide) ?_
            exact ih_13 (i + 1) M1 V1 (by omega) (by first | (rw [hE]; exact hq1) | (rw [hE]; exact hrM_42.1)) (by first | (rw [hE]; exact hq2) | (rw [hE]; exact hrM_42.2.1)) (by first | (rw [hE]; exact hv) | (rw [hE]; exact congrArg nI (Nat.max_eq_left (by omega)).symm) | (rw [hE]; exact congrArg nI (Nat.max_eq_right (by omega)).symm)) (by first | exact h5 | exact h5_42.trans h5) (by omega) _ _ (by rw [hE]) (by first | rfl | exact congrArg nI (by omega)) _ _ hS ⟨hRel, hPt, hKg, hP⟩ _ (lv_sub hl [1, 2, 3, 0] rfl)
          ·
            have hst : σ sl i = true ∧ (lay (σ sl) i).1.1 i = 0 := ⟨c_26, Classical.byContradiction (fun q => c_35 (hge.mpr q))⟩
            have hE := lay_t hst
            have hwt := (wf_flood (A := σ sl) (pn := (lay (σ sl) i).2.1) (pc := (lay (σ sl) i).1.2.1) (q := (lay (σ sl) i).1.2.2.1) (by omega) hst.2 hlo.1).tail
            refine lv_aload_n hx hb dX2_layPieces_38 rfl (lv_at hl 0 rfl) ?_
            refine lv_iload_n hx hb dX2_layPieces_39 rfl (lv_at hl 1 rfl) ?_
            refine lv_iload_n hx hb dX2_layPieces_40 rfl (lv_at hl 3 rfl) ?_
            refine lv_iload_n hx hb dX2_layPieces_41 rfl (lv_at hl 2 rfl) ?_
            refine wr_V S hl (c_X2_spread l D cI cZ μ σ M1 V1 sl ((lay (σ sl) i).2.1) ((lay (σ sl) i).1.1) ((lay (σ sl) i).1.2.1) ((lay (σ sl) i).1.2.2.1) i (by omega) (by exact hq1) (by exact hq2) (by exact hlo.1) (by exact hst.2) (by omega) (by omega) (by exact hlp)) MB.hb gX2_layPieces_X2_spread rfl rfl nf_X2_spread rfl rfl dX2_layPieces_42 (MP.rc0 hMK hP) (MB.at hMK ⟨hRel, hPt, hKg, hP⟩) hS (fun _ h => h) (fun H locs hPP hS _ hkp => ?_)
            obtain ⟨M_42, V_42, ⟨h5_42, h2_42, hrM_42⟩, hRel, hPt, hKg, hP⟩ := hPP
            refine W.eq (g2 := F0 m 45 ls [.int (nI ((flood (σ sl) ((lay (σ sl) i).2.1) ((lay (σ sl) i).1.1) ((lay (σ sl) i).1.2.1) ((lay (σ sl) i).1.2.2.1) i).2.2.2))]) rfl ?_
            refine lv_istore (lv' := [(4, .int (nI ((flood (σ sl) ((lay (σ sl) i).2.1) ((lay (σ sl) i).1.1) ((lay (σ sl) i).1.2.1) ((lay (σ sl) i).1.2.2.1) i).2.2.2))), (0, .ref (μ 0)), (1, .int (nI sl)), (2, .int (nI ((lay (σ sl) i).2.1))), (3, .int (nI i))]) hx hb dX2_layPieces_45 hl (by decide) rfl (fun ls hl => ?_)
            refine lv_aload_n hx hb dX2_layPieces_47 rfl (lv_at hl 1 rfl) ?_
            refine lv_iload hx hb dX2_layPieces_48 (lv_at hl 0 rfl) ?_
            refine lv_aload_n hx hb dX2_layPieces_50 rfl (lv_at hl 1 rfl) ?_
            refine va_get (D := D) (ci := 2) (v := .int (V_42 2)) (C := RX2) (T := TX2) (N := 15) hx hb hts (by decide +kernel) hown hK hP 0 rfl rfl 14 (by decide) (hts (.fieldLink RX2 113 "SevenKeysModel" "most" "I") (by decide +kernel)) (fun _ h9 => h9) rfl dX2_layPieces_51 ?_
            refine nv_as (nI ((lay (σ sl) i).2.2)) (by exact h2_42.trans hv) ?_
            refine nv_icmp_le (tgt := 62) hx hb dX2_layPieces_54 (by decide) (by omega) (by omega) (fun c_54 => ?_) (fun c_54 => ?_)
            ·
              refine lv_aload_n hx hb dX2_layPieces_62 rfl (lv_at hl 1 rfl) ?_
              refine va_get (D := D) (ci := 2) (v := .int (V_42 2)) (C := RX2) (T := TX2) (N := 15) hx hb hts (by decide +kernel) hown hK hP 0 rfl rfl 14 (by decide) (hts (.fieldLink RX2 113 "SevenKeysModel" "most" "I") (by decide +kernel)) (fun _ h9 => h9) rfl dX2_layPieces_63 ?_
              refine nv_as (nI ((lay (σ sl) i).2.2)) (by exact h2_42.trans hv) ?_
              refine va_put (D := D) (ci := 2) (v := .int (nI ((lay (σ sl) i).2.2))) (ty := .int) (C := RX2) (T := TX2) (N := 15) hx hb hts (by decide +kernel) tyX2 tyX2_ok nmX2 hown hK hP hMK.D hS 0 rfl rfl 14 (by decide) (hts (.fieldLink RX2 113 "SevenKeysModel" "most" "I") (by decide +kernel)) (fun _ h9 => h9) rfl (by decide +kernel) rfl rfl (Nat.le_of_ble_eq_true rfl) dX2_layPieces_66 (fun H locs hP hD hS => ?_)
              have hP : va_P D vwCl (mW cI cZ μ M_42 (va_up V_42 2 (nI ((lay (σ sl) i).2.2)))) H := hP
              refine lv_iinc (v := nI ((lay (σ sl) i).2.1 + 1)) (lv' := [(2, .int (nI ((lay (σ sl) i).2.1 + 1))), (4, .int (nI ((flood (σ sl) ((lay (σ sl) i).2.1) ((lay (σ sl) i).1.1) ((lay (σ sl) i).1.2.1) ((lay (σ sl) i).1.2.2.1) i).2.2.2))), (0, .ref (μ 0)), (1, .int (nI sl)), (3, .int (nI i))]) hx hb dX2_layPieces_69 hl (k := 3) rfl (inc_nI _) (by decide) rfl (fun ls hl => ?_)
              refine lv_iinc (v := nI (i + 1)) (lv' := [(3, .int (nI (i + 1))), (2, .int (nI ((lay (σ sl) i).2.1 + 1))), (4, .int (nI ((flood (σ sl) ((lay (σ sl) i).2.1) ((lay (σ sl) i).1.1) ((lay (σ sl) i).1.2.1) ((lay (σ sl) i).1.2.2.1) i).2.2.2))), (0, .ref (μ 0)), (1, .int (nI sl))]) hx hb dX2_layPieces_72 hl (k := 4) rfl (inc_nI _) (by decide) rfl (fun ls hl => ?_)
              refine lv_goto (tgt := 13) hx hb dX2_layPieces_75 (by decide) ?_
              exact ih_13 (i + 1) M_42 (va_up V_42 2 (nI ((lay (σ sl) i).2.2))) (by omega) (by first | (rw [hE]; exact hq1) | (rw [hE]; exact hrM_42.1)) (by first | (rw [hE]; exact hq2) | (rw [hE]; exact hrM_42.2.1)) (by first | (rw [hE]; exact hv) | (rw [hE]; exact congrArg nI (Nat.max_eq_left (by omega)).symm) | (rw [hE]; exact congrArg nI (Nat.max_eq_right (by omega)).symm)) (by first | exact h5 | exact h5_42.trans h5) (by omega) _ _ (by rw [hE]) (by first | rfl | exact congrArg nI (by omega)) _ _ hS ⟨hRel, hPt, hKg, hP⟩ _ (lv_sub hl [3, 4, 1, 0] rfl)
            ·
              refine lv_iload hx hb dX2_layPieces_57 (lv_at hl 0 rfl) ?_
              refine lv_goto (tgt := 66) hx hb dX2_layPieces_59 (by decide) ?_
              refine va_put (D := D) (ci := 2) (v := .int (nI ((flood (σ sl) ((lay (σ sl) i).2.1) ((lay (σ sl) i).1.1) ((lay (σ sl) i).1.2.1) ((lay (σ sl) i).1.2.2.1) i).2.2.2))) (ty := .int) (C := RX2) (T := TX2) (N := 15) hx hb hts (by decide +kernel) tyX2 tyX2_ok nmX2 hown hK hP hMK.D hS 0 rfl rfl 14 (by decide) (hts (.fieldLink RX2 113 "SevenKeysModel" "most" "I") (by decide +kernel)) (fun _ h9 => h9) rfl (by decide +kernel) rfl rfl (Nat.le_of_ble_eq_true rfl) dX2_layPieces_66 (fun H locs hP hD hS => ?_)
              have hP : va_P D vwCl (mW cI cZ μ M_42 (va_up V_42 2 (nI ((flood (σ sl) ((lay (σ sl) i).2.1) ((lay (σ sl) i).1.1) ((lay (σ sl) i).1.2.1) ((lay (σ sl) i).1.2.2.1) i).2.2.2)))) H := hP
              refine lv_iinc (v := nI ((lay (σ sl) i).2.1 + 1)) (lv' := [(2, .int (nI ((lay (σ sl) i).2.1 + 1))), (4, .int (nI ((flood (σ sl) ((lay (σ sl) i).2.1) ((lay (σ sl) i).1.1) ((lay (σ sl) i).1.2.1) ((lay (σ sl) i).1.2.2.1) i).2.2.2))), (0, .ref (μ 0)), (1, .int (nI sl)), (3, .int (nI i))]) hx hb dX2_layPieces_69 hl (k := 3) rfl (inc_nI _) (by decide) rfl (fun ls hl => ?_)
              refine lv_iinc (v := nI (i + 1)) (lv' := [(3, .int (nI (i + 1))), (2, .int (nI ((lay (σ sl) i).2.1 + 1))), (4, .int (nI ((flood (σ sl) ((lay (σ sl) i).2.1) ((lay (σ sl) i).1.1) ((lay (σ sl) i).1.2.1) ((lay (σ sl) i).1.2.2.1) i).2.2.2))), (0, .ref (μ 0)), (1, .int (nI sl))]) hx hb dX2_layPieces_72 hl (k := 4) rfl (inc_nI _) (by decide) rfl (fun ls hl => ?_)
              refine lv_goto (tgt := 13) hx hb dX2_layPieces_75 (by decide) ?_
              exact ih_13 (i + 1) M_42 (va_up V_42 2 (nI ((flood (σ sl) ((lay (σ sl) i).2.1) ((lay (σ sl) i).1.1) ((lay (σ sl) i).1.2.1) ((lay (σ sl) i).1.2.2.1) i).2.2.2))) (by omega) (by first | (rw [hE]; exact hq1) | (rw [hE]; exact hrM_42.1)) (by first | (rw [hE]; exact hq2) | (rw [hE]; exact hrM_42.2.1)) (by first | (rw [hE]; exact hv) | (rw [hE]; exact congrArg nI (Nat.max_eq_left (by omega)).symm) | (rw [hE]; exact congrArg nI (Nat.max_eq_right (by omega)).symm)) (by first | exact h5 | exact h5_42.trans h5) (by omega) _ _ (by rw [hE]) (by first | rfl | exact congrArg nI (by omega)) _ _ hS ⟨hRel, hPt, hKg, hP⟩ _ (lv_sub hl [3, 4, 1, 0] rfl)
  exact loop_13 (2401 - 0 + 1) 0 M_1 (va_up V_1 2 (nI 0)) (by omega) (by intro k hk; rw [show (lay (σ sl) 0).1.1 k = 0 from rfl, if_pos rfl]; exact hc_1 k hk) (by exact fun k hk h => absurd rfl h) (by rfl) (by exact h5_1) (Nat.lt_succ_self _) _ _ (by rfl) rfl _ _ hS ⟨hRel, hPt, hKg, hP⟩ _ (lv_sub hl [2, 3, 1, 0] rfl)
theorem nf_X2_endOf : nfOk yX2_endOf 2 := by unfold nfOk; decide +kernel
set_option maxHeartbeats 4000000 in
set_option maxRecDepth 100000 in
theorem c_X2_endOf (l : Launch) (D : va_G) (cI cZ : ClassId) (μ : Nat → Nat) (σ : Nat → Nat → Bool) (M : Nat → Nat → Int32) (V : Nat → Int32) (sl : Nat) (lb : Bool) (hsl : sl < 4) : Rd l yX2_endOf wsX2_endOf ({ frames := 1, cells := 0, slots := 0, locals := 22 }) [.ref (μ 0), .int (nI sl), .int (bI lb)] (MB D cI cZ μ σ M V) (oI (eO (σ sl) lb 2401)) := by
  refine met_in RX2 (by decide) rfl rfl (Nat.le_of_ble_eq_true rfl) ?_
  intro p e s m below meth c ls S hr hlocks hl hB
  have hx := S.1
  have hb := S.2.1
  have hml := S.2.2.1
  have hown := S.2.2.2.1
  have hts := S.2.2.2.2
  have hl : lv_has ls 6 [(0, .ref (μ 0)), (1, .int (nI sl)), (2, .int (bI lb))] := hl
  obtain ⟨⟨hRel, hPt, hKg, hP⟩, hMK⟩ := hB
  have hK := hMK.1
  have hS : va_S (xA 13 μ) s.heap s.heap [] := va_S.rf
  refine lv_bipush (v := (-6)) hx hb dX2_endOf_0 (by decide) ?_
  refine lv_istore_n (lv' := [(3, .int (-6)), (0, .ref (μ 0)), (1, .int (nI sl)), (2, .int (bI lb))]) hx hb dX2_endOf_2 rfl hl (by decide) rfl (fun ls hl => ?_)
  refine lv_iconst (v := nI 0) hx hb dX2_endOf_3 (by decide) ?_
  refine lv_istore (lv' := [(4, .int (nI 0)), (3, .int (-6)), (0, .ref (μ 0)), (1, .int (nI sl)), (2, .int (bI lb))]) hx hb dX2_endOf_4 hl (by decide) rfl (fun ls hl => ?_)
  have loop_6 : ∀ (n : Nat) (i : Nat), (i ≤ 2401) → 2401 - i < n → ∀ (x3 x4 : Int32), x3 = oI (eO (σ sl) lb i) → x4 = nI i → ∀ ls : Array Slot, lv_has ls 6 [(0, .ref (μ 0)), (1, .int (nI sl)), (2, .int (bI lb)), (3, .int x3), (4, .int x4)] → W p l e (headSpec wsX2_endOf ({ frames := 1, cells := 0, slots := 0, locals := 22 })).room s m [.ref (μ 0), .int (nI sl), .int (bI lb)].toArray below meth c s.heap [] 0 0 (MQ below (vp_Si (fun r => r = oI (eO (σ sl) lb 2401))) [.ref (μ 0), .int (nI sl), .int (bI lb)].toArray s 0 0 (fun _ => False)) (F0 m 6 ls []) := by
    intro n
    induction n with
    | zero => intro i hi hm; exact absurd hm (Nat.not_lt_zero _)
    | succ n ih_6 =>
      intro i hi hm_6 x3 x4 e3 e4 ls hl
      subst e3
      subst e4
      refine lv_iload hx hb dX2_endOf_6 (lv_at hl 4 rfl) ?_
      refine lv_sipush (v := nI 2401) hx hb dX2_endOf_8 (by decide) ?_
      refine nv_icmp_ge (tgt := 54) hx hb dX2_endOf_11 (by decide) (by omega) (by omega) (fun c_11 => ?_) (fun c_11 => ?_)
      ·
        refine lv_iload_n hx hb dX2_endOf_54 rfl (lv_at hl 3 rfl) ?_
        exact ret_i hx hb hr hlocks dX2_endOf_55 (by rw [show i = 2401 by omega])
      ·
        refine lv_iload_n hx hb dX2_endOf_14 rfl (lv_at hl 2 rfl) ?_
        refine nv_ifz_eq (tgt := 23) hx hb dX2_endOf_15 (by decide) (fun c_15 => ?_) (fun c_15 => ?_)
        ·
          refine lv_sipush (v := nI 2400) hx hb dX2_endOf_23 (by decide) ?_
          refine lv_iload hx hb dX2_endOf_26 (lv_at hl 4 rfl) ?_
          refine lv_isub hx hb dX2_endOf_28 ?_
          refine nv_as (nI (2400 - i)) (by exact pk_sub (by omega)) ?_
          refine lv_istore (lv' := [(5, .int (nI (2400 - i))), (0, .ref (μ 0)), (1, .int (nI sl)), (2, .int (bI lb)), (3, .int (oI (eO (σ sl) lb i))), (4, .int (nI i))]) hx hb dX2_endOf_29 hl (by decide) rfl (fun ls hl => ?_)
          refine lv_aload_n hx hb dX2_endOf_31 rfl (lv_at hl 1 rfl) ?_
          refine lv_iload_n hx hb dX2_endOf_32 rfl (lv_at hl 2 rfl) ?_
          refine lv_iload hx hb dX2_endOf_33 (lv_at hl 0 rfl) ?_
          refine rd_V S hl (c_X2_isIn l D cI cZ μ σ M V sl (2400 - i) (by omega) (by omega)) MB.hb gX2_endOf_X2_isIn rfl rfl nf_X2_isIn rfl rfl dX2_endOf_35 (MP.rc0 hMK hP) (MB.at hMK ⟨hRel, hPt, hKg, hP⟩) ?_
          refine nv_ifz_eq (tgt := 46) hx hb dX2_endOf_38 (by decide) (fun c_38 => ?_) (fun c_38 => ?_)
          ·
            refine lv_iload_n hx hb dX2_endOf_46 rfl (lv_at hl 4 rfl) ?_
            refine lv_istore_n (lv' := [(3, .int (oI (eO (σ sl) lb i))), (5, .int (nI (2400 - i))), (0, .ref (μ 0)), (1, .int (nI sl)), (2, .int (bI lb)), (4, .int (nI i))]) hx hb dX2_endOf_47 rfl hl (by decide) rfl (fun ls hl => ?_)
            refine lv_iinc (v := nI (i + 1)) (lv' := [(4, .int (nI (i + 1))), (3, .int (oI (eO (σ sl) lb i))), (5, .int (nI (2400 - i))), (0, .ref (μ 0)), (1, .int (nI sl)), (2, .int (bI lb))]) hx hb dX2_endOf_48 hl (k := 5) rfl (inc_nI _) (by decide) rfl (fun ls hl => ?_)
            refine lv_goto (tgt := 6) hx hb dX2_endOf_51 (by decide) ?_
            exact ih_6 (i + 1) (by omega) (by omega) _ _ (by unfold eO; rw [c_15]; first | (show _ = oI (lst (σ sl) (i + 1)); rw [lst, c_38]; rfl) | (show _ = oI (loK (σ sl) (i + 1)); rw [loK, c_38]; rfl)) (by first | rfl | exact congrArg nI (by omega)) _ (lv_sub hl [3, 4, 5, 1, 0] rfl)
          ·
            refine lv_iload hx hb dX2_endOf_41 (lv_at hl 0 rfl) ?_
            refine lv_goto (tgt := 47) hx hb dX2_endOf_43 (by decide) ?_
            refine lv_istore_n (lv' := [(3, .int (nI (2400 - i))), (5, .int (nI (2400 - i))), (0, .ref (μ 0)), (1, .int (nI sl)), (2, .int (bI lb)), (4, .int (nI i))]) hx hb dX2_endOf_47 rfl hl (by decide) rfl (fun ls hl => ?_)
            refine lv_iinc (v := nI (i + 1)) (lv' := [(4, .int (nI (i + 1))), (3, .int (nI (2400 - i))), (5, .int (nI (2400 - i))), (0, .ref (μ 0)), (1, .int (nI sl)), (2, .int (bI lb))]) hx hb dX2_endOf_48 hl (k := 5) rfl (inc_nI _) (by decide) rfl (fun ls hl => ?_)
            refine lv_goto (tgt := 6) hx hb dX2_endOf_51 (by decide) ?_
            exact ih_6 (i + 1) (by omega) (by omega) _ _ (by unfold eO; rw [c_15]; first | (show _ = oI (lst (σ sl) (i + 1)); rw [lst, c_38]; rfl) | (show _ = oI (loK (σ sl) (i + 1)); rw [loK, c_38]; rfl)) (by first | rfl | exact congrArg nI (by omega)) _ (lv_sub hl [3, 4, 5, 1, 0] rfl)
        ·
          refine lv_iload hx hb dX2_endOf_18 (lv_at hl 4 rfl) ?_
          refine lv_goto (tgt := 29) hx hb dX2_endOf_20 (by decide) ?_
          refine lv_istore (lv' := [(5, .int (nI i)), (0, .ref (μ 0)), (1, .int (nI sl)), (2, .int (bI lb)), (3, .int (oI (eO (σ sl) lb i))), (4, .int (nI i))]) hx hb dX2_endOf_29 hl (by decide) rfl (fun ls hl => ?_)
          refine lv_aload_n hx hb dX2_endOf_31 rfl (lv_at hl 1 rfl) ?_
          refine lv_iload_n hx hb dX2_endOf_32 rfl (lv_at hl 2 rfl) ?_
          refine lv_iload hx hb dX2_endOf_33 (lv_at hl 0 rfl) ?_
          refine rd_V S hl (c_X2_isIn l D cI cZ μ σ M V sl i (by omega) (by omega)) MB.hb gX2_endOf_X2_isIn rfl rfl nf_X2_isIn rfl rfl dX2_endOf_35 (MP.rc0 hMK hP) (MB.at hMK ⟨hRel, hPt, hKg, hP⟩) ?_
          refine nv_ifz_eq (tgt := 46) hx hb dX2_endOf_38 (by decide) (fun c_38 => ?_) (fun c_38 => ?_)
          ·
            refine lv_iload_n hx hb dX2_endOf_46 rfl (lv_at hl 4 rfl) ?_
            refine lv_istore_n (lv' := [(3, .int (oI (eO (σ sl) lb i))), (5, .int (nI i)), (0, .ref (μ 0)), (1, .int (nI sl)), (2, .int (bI lb)), (4, .int (nI i))]) hx hb dX2_endOf_47 rfl hl (by decide) rfl (fun ls hl => ?_)
            refine lv_iinc (v := nI (i + 1)) (lv' := [(4, .int (nI (i + 1))), (3, .int (oI (eO (σ sl) lb i))), (5, .int (nI i)), (0, .ref (μ 0)), (1, .int (nI sl)), (2, .int (bI lb))]) hx hb dX2_endOf_48 hl (k := 5) rfl (inc_nI _) (by decide) rfl (fun ls hl => ?_)
            refine lv_goto (tgt := 6) hx hb dX2_endOf_51 (by decide) ?_
            exact ih_6 (i + 1) (by omega) (by omega) _ _ (by unfold eO; rw [c_15]; first | (show _ = oI (lst (σ sl) (i + 1)); rw [lst, c_38]; rfl) | (show _ = oI (loK (σ sl) (i + 1)); rw [loK, c_38]; rfl)) (by first | rfl | exact congrArg nI (by omega)) _ (lv_sub hl [3, 4, 5, 1, 0] rfl)
          ·
            refine lv_iload hx hb dX2_endOf_41 (lv_at hl 0 rfl) ?_
            refine lv_goto (tgt := 47) hx hb dX2_endOf_43 (by decide) ?_
            refine lv_istore_n (lv' := [(3, .int (nI i)), (5, .int (nI i)), (0, .ref (μ 0)), (1, .int (nI sl)), (2, .int (bI lb)), (4, .int (nI i))]) hx hb dX2_endOf_47 rfl hl (by decide) rfl (fun ls hl => ?_)
            refine lv_iinc (v := nI (i + 1)) (lv' := [(4, .int (nI (i + 1))), (3, .int (nI i)), (5, .int (nI i)), (0, .ref (μ 0)), (1, .int (nI sl)), (2, .int (bI lb))]) hx hb dX2_endOf_48 hl (k := 5) rfl (inc_nI _) (by decide) rfl (fun ls hl => ?_)
            refine lv_goto (tgt := 6) hx hb dX2_endOf_51 (by decide) ?_
            exact ih_6 (i + 1) (by omega) (by omega) _ _ (by unfold eO; rw [c_15]; first | (show _ = oI (lst (σ sl) (i + 1)); rw [lst, c_38]; rfl) | (show _ = oI (loK (σ sl) (i + 1)); rw [loK, c_38]; rfl)) (by first | rfl | exact congrArg nI (by omega)) _ (lv_sub hl [3, 4, 5, 1, 0] rfl)
  exact loop_6 (2401 - 0 + 1) 0 (by omega) (Nat.lt_succ_self _) _ _ (by cases lb <;> rfl) rfl _ (lv_sub hl [2, 3, 4, 1, 0] rfl)
theorem nf_X2_about : nfOk yX2_about 2 := by unfold nfOk; decide +kernel
set_option maxHeartbeats 4000000 in
set_option maxRecDepth 100000 in
theorem c_X2_about (l : Launch) (D : va_G) (cI cZ : ClassId) (μ : Nat → Nat) (σ : Nat → Nat → Bool) (M : Nat → Nat → Int32) (V : Nat → Int32) (a : Int32) (x : Int32) : Wr l yX2_about wsX2_about ({ frames := 5, cells := 0, slots := 0, locals := 117 }) [.ref (μ 0), .int a, .int x] (MB D cI cZ μ σ M V) (some (.int (aboutR σ a x))) (MS D cI cZ μ σ (M 5)) (xA 13 μ) := by
  refine met_in RX2 (by decide) rfl rfl (Nat.le_of_ble_eq_true rfl) ?_
  intro p e s m below meth c ls S hr hlocks hl hB
  have hx := S.1
  have hb := S.2.1
  have hml := S.2.2.1
  have hown := S.2.2.2.1
  have hts := S.2.2.2.2
  have hl : lv_has ls 3 [(0, .ref (μ 0)), (1, .int a), (2, .int x)] := hl
  obtain ⟨⟨hRel, hPt, hKg, hP⟩, hMK⟩ := hB
  have hK := hMK.1
  have hS : va_S (xA 13 μ) s.heap s.heap [] := va_S.rf
  refine lv_iload_n hx hb dX2_about_0 rfl (lv_at hl 1 rfl) ?_
  refine rd_S S hl (c_X2_isSlot l a) HB.tt gX2_about_X2_isSlot rfl nf_X2_isSlot rfl rfl dX2_about_1  (fun _ _ _ => trivial) ?_
  refine nv_ifz_ne (tgt := 9) hx hb dX2_about_4 (by decide) (fun c_4 => ?_) (fun c_4 => ?_)
  ·
    obtain ⟨sl, hsl, hxsl⟩ := wI_nat c_4 (by decide)
    subst hxsl
    have hcsl : (nI sl).toNatClampNeg = sl := nI_clamp (by omega)
    refine lv_iload_n hx hb dX2_about_9 rfl (lv_at hl 2 rfl) ?_
    rcases sw_6 x with rfl | rfl | rfl | rfl | rfl | rfl | rfl | ho
    ·
      refine lv_tableIn (off := 42) (tgt := 52) hx hb dX2_about_10 (by decide) (by decide) (by decide) (by decide) ?_
      refine lv_aload_n hx hb dX2_about_52 rfl (lv_at hl 0 rfl) ?_
      refine lv_iload_n hx hb dX2_about_53 rfl (lv_at hl 1 rfl) ?_
      refine rd_V S hl (c_X2_many l D cI cZ μ σ M V sl (by omega)) MB.hb gX2_about_X2_many rfl rfl nf_X2_many rfl rfl dX2_about_54 (MP.rc0 hMK hP) (MB.at hMK ⟨hRel, hPt, hKg, hP⟩) ?_
      exact ret_wi hx hb hr hlocks dX2_about_57 hS (⟨_, _, rfl, hRel, hPt, hKg, hP⟩) (by unfold aboutR gs; rw [show isS (nI sl) = true from c_4, show cl (nI sl) = sl from hcsl]; show _ = aboutF (σ sl) (nI 0); unfold aboutF; rw [if_pos rfl])
    ·
      refine lv_tableIn (off := 48) (tgt := 58) hx hb dX2_about_10 (by decide) (by decide) (by decide) (by decide) ?_
      refine lv_aload_n hx hb dX2_about_58 rfl (lv_at hl 0 rfl) ?_
      refine lv_iload_n hx hb dX2_about_59 rfl (lv_at hl 1 rfl) ?_
      refine wr_V S hl (c_X2_pack l D cI cZ μ σ M V sl (by omega)) MB.hb gX2_about_X2_pack rfl rfl nf_X2_pack rfl rfl dX2_about_60 (MP.rc0 hMK hP) (MB.at hMK ⟨hRel, hPt, hKg, hP⟩) hS (fun _ h => h) (fun H locs hPP hS _ hkp => ?_)
      obtain ⟨M_60, V_60, ⟨h5_60, hv_60, hpk_60⟩, hRel, hPt, hKg, hP⟩ := hPP
      refine W.eq (g2 := F0 m 63 ls []) rfl ?_
      refine lv_aload_n hx hb dX2_about_63 rfl (lv_at hl 0 rfl) ?_
      refine va_get (D := D) (ci := 2) (v := .int (V_60 0)) (C := RX2) (T := TX2) (N := 15) hx hb hts (by decide +kernel) hown hK hP 0 rfl rfl 9 (by decide) (hts (.fieldLink RX2 100 "SevenKeysModel" "packs" "I") (by decide +kernel)) (fun _ h9 => h9) rfl dX2_about_64 ?_
      refine nv_as (nI (pkC (σ sl))) (by exact hv_60) ?_
      exact ret_wi hx hb hr hlocks dX2_about_67 hS (⟨_, _, h5_60, hRel, hPt, hKg, hP⟩) (by unfold aboutR gs; rw [show isS (nI sl) = true from c_4, show cl (nI sl) = sl from hcsl]; show _ = aboutF (σ sl) (nI 1); unfold aboutF; rw [if_neg (by decide), if_pos rfl])
    ·
      refine lv_tableIn (off := 58) (tgt := 68) hx hb dX2_about_10 (by decide) (by decide) (by decide) (by decide) ?_
      refine lv_aload_n hx hb dX2_about_68 rfl (lv_at hl 0 rfl) ?_
      refine lv_iload_n hx hb dX2_about_69 rfl (lv_at hl 1 rfl) ?_
      refine rd_V S hl (c_X2_border l D cI cZ μ σ M V sl (by omega)) MB.hb gX2_about_X2_border rfl rfl nf_X2_border rfl rfl dX2_about_70 (MP.rc0 hMK hP) (MB.at hMK ⟨hRel, hPt, hKg, hP⟩) ?_
      exact ret_wi hx hb hr hlocks dX2_about_73 hS (⟨_, _, rfl, hRel, hPt, hKg, hP⟩) (by unfold aboutR gs; rw [show isS (nI sl) = true from c_4, show cl (nI sl) = sl from hcsl]; show _ = aboutF (σ sl) (nI 2); unfold aboutF; rw [if_neg (by decide), if_neg (by decide), if_pos rfl])
    ·
      refine lv_tableIn (off := 64) (tgt := 74) hx hb dX2_about_10 (by decide) (by decide) (by decide) (by decide) ?_
      refine lv_aload_n hx hb dX2_about_74 rfl (lv_at hl 0 rfl) ?_
      refine lv_iload_n hx hb dX2_about_75 rfl (lv_at hl 1 rfl) ?_
      refine wr_V S hl (c_X2_layPieces l D cI cZ μ σ M V sl (by omega)) MB.hb gX2_about_X2_layPieces rfl rfl nf_X2_layPieces rfl rfl dX2_about_76 (MP.rc0 hMK hP) (MB.at hMK ⟨hRel, hPt, hKg, hP⟩) hS (fun _ h => h) (fun H locs hPP hS _ hkp => ?_)
      obtain ⟨M_76, V_76, ⟨h5_76, hv_76, hq_76⟩, hRel, hPt, hKg, hP⟩ := hPP
      refine W.eq (g2 := F0 m 79 ls [.int (nI ((lay (σ sl) 2401).2.1))]) rfl ?_
      exact ret_wi hx hb hr hlocks dX2_about_79 hS (⟨_, _, h5_76, hRel, hPt, hKg, hP⟩) (by unfold aboutR gs; rw [show isS (nI sl) = true from c_4, show cl (nI sl) = sl from hcsl]; show _ = aboutF (σ sl) (nI 3); unfold aboutF; rw [if_neg (by decide), if_neg (by decide), if_neg (by decide), if_pos rfl])
    ·
      refine lv_tableIn (off := 70) (tgt := 80) hx hb dX2_about_10 (by decide) (by decide) (by decide) (by decide) ?_
      refine lv_aload_n hx hb dX2_about_80 rfl (lv_at hl 0 rfl) ?_
      refine lv_iload_n hx hb dX2_about_81 rfl (lv_at hl 1 rfl) ?_
      refine wr_V S hl (c_X2_layPieces l D cI cZ μ σ M V sl (by omega)) MB.hb gX2_about_X2_layPieces rfl rfl nf_X2_layPieces rfl rfl dX2_about_82 (MP.rc0 hMK hP) (MB.at hMK ⟨hRel, hPt, hKg, hP⟩) hS (fun _ h => h) (fun H locs hPP hS _ hkp => ?_)
      obtain ⟨M_82, V_82, ⟨h5_82, hv_82, hq_82⟩, hRel, hPt, hKg, hP⟩ := hPP
      refine W.eq (g2 := F0 m 85 ls [.int (nI ((lay (σ sl) 2401).2.1))]) rfl ?_
      refine lv_pop hx hb dX2_about_85 rfl ?_
      refine lv_aload_n hx hb dX2_about_86 rfl (lv_at hl 0 rfl) ?_
      refine va_get (D := D) (ci := 2) (v := .int (V_82 2)) (C := RX2) (T := TX2) (N := 15) hx hb hts (by decide +kernel) hown hK hP 0 rfl rfl 14 (by decide) (hts (.fieldLink RX2 113 "SevenKeysModel" "most" "I") (by decide +kernel)) (fun _ h9 => h9) rfl dX2_about_87 ?_
      refine nv_as (nI ((lay (σ sl) 2401).2.2)) (by exact hv_82) ?_
      exact ret_wi hx hb hr hlocks dX2_about_90 hS (⟨_, _, h5_82, hRel, hPt, hKg, hP⟩) (by unfold aboutR gs; rw [show isS (nI sl) = true from c_4, show cl (nI sl) = sl from hcsl]; show _ = aboutF (σ sl) (nI 4); unfold aboutF; rw [if_neg (by decide), if_neg (by decide), if_neg (by decide), if_neg (by decide), if_pos rfl])
    ·
      refine lv_tableIn (off := 81) (tgt := 91) hx hb dX2_about_10 (by decide) (by decide) (by decide) (by decide) ?_
      refine lv_aload_n hx hb dX2_about_91 rfl (lv_at hl 0 rfl) ?_
      refine lv_iload_n hx hb dX2_about_92 rfl (lv_at hl 1 rfl) ?_
      refine lv_iconst (v := nI 0) hx hb dX2_about_93 (by decide) ?_
      refine rd_V S hl (c_X2_endOf l D cI cZ μ σ M V sl false (by omega)) MB.hb gX2_about_X2_endOf rfl rfl nf_X2_endOf rfl rfl dX2_about_94 (MP.rc0 hMK hP) (MB.at hMK ⟨hRel, hPt, hKg, hP⟩) ?_
      exact ret_wi hx hb hr hlocks dX2_about_97 hS (⟨_, _, rfl, hRel, hPt, hKg, hP⟩) (by unfold aboutR gs; rw [show isS (nI sl) = true from c_4, show cl (nI sl) = sl from hcsl]; show _ = aboutF (σ sl) (nI 5); unfold aboutF; rw [if_neg (by decide), if_neg (by decide), if_neg (by decide), if_neg (by decide), if_neg (by decide), if_pos rfl]; rfl)
    ·
      refine lv_tableIn (off := 88) (tgt := 98) hx hb dX2_about_10 (by decide) (by decide) (by decide) (by decide) ?_
      refine lv_aload_n hx hb dX2_about_98 rfl (lv_at hl 0 rfl) ?_
      refine lv_iload_n hx hb dX2_about_99 rfl (lv_at hl 1 rfl) ?_
      refine lv_iconst (v := nI 1) hx hb dX2_about_100 (by decide) ?_
      refine rd_V S hl (c_X2_endOf l D cI cZ μ σ M V sl true (by omega)) MB.hb gX2_about_X2_endOf rfl rfl nf_X2_endOf rfl rfl dX2_about_101 (MP.rc0 hMK hP) (MB.at hMK ⟨hRel, hPt, hKg, hP⟩) ?_
      exact ret_wi hx hb hr hlocks dX2_about_104 hS (⟨_, _, rfl, hRel, hPt, hKg, hP⟩) (by unfold aboutR gs; rw [show isS (nI sl) = true from c_4, show cl (nI sl) = sl from hcsl]; show _ = aboutF (σ sl) (nI 6); unfold aboutF; rw [if_neg (by decide), if_neg (by decide), if_neg (by decide), if_neg (by decide), if_neg (by decide), if_neg (by decide), if_pos rfl]; rfl)
    ·
      refine lv_tableOut (tgt := 105) hx hb dX2_about_10 ho (by decide) ?_
      refine lv_bipush (v := (-2)) hx hb dX2_about_105 (by decide) ?_
      exact ret_wi hx hb hr hlocks dX2_about_107 hS (⟨_, _, rfl, hRel, hPt, hKg, hP⟩) (by unfold aboutR gs; rw [show isS (nI sl) = true from c_4]; show _ = aboutF _ _; unfold aboutF; rw [if_neg (sw_ne (by omega) ho (by omega) (by omega)), if_neg (sw_ne (by omega) ho (by omega) (by omega)), if_neg (sw_ne (by omega) ho (by omega) (by omega)), if_neg (sw_ne (by omega) ho (by omega) (by omega)), if_neg (sw_ne (by omega) ho (by omega) (by omega)), if_neg (sw_ne (by omega) ho (by omega) (by omega)), if_neg (sw_ne (by omega) ho (by omega) (by omega))])
  ·
    refine lv_iconst (v := (-1)) hx hb dX2_about_7 (by decide) ?_
    exact ret_wi hx hb hr hlocks dX2_about_8 hS (⟨_, _, rfl, hRel, hPt, hKg, hP⟩) (by first | (simp [aboutR, gd, gs, c_4]; done))
theorem nf_X2_packed : nfOk yX2_packed 3 := by unfold nfOk; decide +kernel
set_option maxHeartbeats 4000000 in
set_option maxRecDepth 100000 in
theorem c_X2_packed (l : Launch) (D : va_G) (cI cZ : ClassId) (μ : Nat → Nat) (σ : Nat → Nat → Bool) (M : Nat → Nat → Int32) (V : Nat → Int32) (a : Int32) (x : Int32) (y : Int32) : Wr l yX2_packed wsX2_packed ({ frames := 3, cells := 0, slots := 0, locals := 70 }) [.ref (μ 0), .int a, .int x, .int y] (MB D cI cZ μ σ M V) (some (.int (packedR σ a x y))) (MS D cI cZ μ σ (M 5)) (xA 13 μ) := by
  refine met_in RX2 (by decide) rfl rfl (Nat.le_of_ble_eq_true rfl) ?_
  intro p e s m below meth c ls S hr hlocks hl hB
  have hx := S.1
  have hb := S.2.1
  have hml := S.2.2.1
  have hown := S.2.2.2.1
  have hts := S.2.2.2.2
  have hl : lv_has ls 4 [(0, .ref (μ 0)), (1, .int a), (2, .int x), (3, .int y)] := hl
  obtain ⟨⟨hRel, hPt, hKg, hP⟩, hMK⟩ := hB
  have hK := hMK.1
  have hS : va_S (xA 13 μ) s.heap s.heap [] := va_S.rf
  refine lv_iload_n hx hb dX2_packed_0 rfl (lv_at hl 1 rfl) ?_
  refine rd_S S hl (c_X2_isSlot l a) HB.tt gX2_packed_X2_isSlot rfl nf_X2_isSlot rfl rfl dX2_packed_1  (fun _ _ _ => trivial) ?_
  refine nv_ifz_ne (tgt := 9) hx hb dX2_packed_4 (by decide) (fun c_4 => ?_) (fun c_4 => ?_)
  ·
    obtain ⟨sl, hsl, hxsl⟩ := wI_nat c_4 (by decide)
    subst hxsl
    have hcsl : (nI sl).toNatClampNeg = sl := nI_clamp (by omega)
    refine lv_iload_n hx hb dX2_packed_9 rfl (lv_at hl 3 rfl) ?_
    refine lv_iconst (v := nI 0) hx hb dX2_packed_10 (by decide) ?_
    refine lv_iconst (v := nI 1) hx hb dX2_packed_11 (by decide) ?_
    refine rd_S S hl (c_X2_in l y (nI 0) (nI 1)) HB.tt gX2_packed_X2_in rfl nf_X2_in rfl rfl dX2_packed_12  (fun _ _ _ => trivial) ?_
    refine nv_ifz_ne (tgt := 21) hx hb dX2_packed_15 (by decide) (fun c_15 => ?_) (fun c_15 => ?_)
    ·
      obtain ⟨w, hw, hxw⟩ := wI_nat c_15 (by decide)
      subst hxw
      have hcw : (nI w).toNatClampNeg = w := nI_clamp (by omega)
      refine lv_aload_n hx hb dX2_packed_21 rfl (lv_at hl 0 rfl) ?_
      refine lv_iload_n hx hb dX2_packed_22 rfl (lv_at hl 1 rfl) ?_
      refine wr_V S hl (c_X2_pack l D cI cZ μ σ M V sl (by omega)) MB.hb gX2_packed_X2_pack rfl rfl nf_X2_pack rfl rfl dX2_packed_23 (MP.rc0 hMK hP) (MB.at hMK ⟨hRel, hPt, hKg, hP⟩) hS (fun _ h => h) (fun H locs hPP hS _ hkp => ?_)
      obtain ⟨M_23, V_23, ⟨h5_23, hv_23, hpk_23⟩, hRel, hPt, hKg, hP⟩ := hPP
      refine W.eq (g2 := F0 m 26 ls []) rfl ?_
      refine lv_iload_n hx hb dX2_packed_26 rfl (lv_at hl 2 rfl) ?_
      refine lv_iconst (v := nI 0) hx hb dX2_packed_27 (by decide) ?_
      refine lv_aload_n hx hb dX2_packed_28 rfl (lv_at hl 0 rfl) ?_
      refine va_get (D := D) (ci := 2) (v := .int (V_23 0)) (C := RX2) (T := TX2) (N := 15) hx hb hts (by decide +kernel) hown hK hP 0 rfl rfl 9 (by decide) (hts (.fieldLink RX2 100 "SevenKeysModel" "packs" "I") (by decide +kernel)) (fun _ h9 => h9) rfl dX2_packed_29 ?_
      refine nv_as (nI (pkC (σ sl))) (by exact hv_23) ?_
      refine lv_iconst (v := nI 1) hx hb dX2_packed_32 (by decide) ?_
      refine lv_isub hx hb dX2_packed_33 ?_
      refine rd_S S hl (c_X2_in l x (nI 0) ((nI (pkC (σ sl))) - (nI 1))) HB.tt gX2_packed_X2_in rfl nf_X2_in rfl rfl dX2_packed_34  (fun _ _ _ => trivial) ?_
      refine nv_ifz_ne (tgt := 45) hx hb dX2_packed_37 (by decide) (fun c_37 => ?_) (fun c_37 => ?_)
      ·
        have hcl : pkC (σ sl) ≤ 2401 := fb_ct_le _ _
        obtain ⟨j, hj, hxj⟩ := in_pk (by omega) c_37
        subst hxj
        obtain ⟨k, hk1, hk2, hk3, hk4⟩ := pk_hit hj
        have hpp := hpk_23 k hk1 hk2
        rw [hk3] at hpp
        refine lv_iload_n hx hb dX2_packed_45 rfl (lv_at hl 3 rfl) ?_
        refine lv_if_ne (tgt := 58) hx hb dX2_packed_46 (by decide) (fun c_46 => ?_) (fun c_46 => ?_)
        ·
          have hw0 : w ≠ 0 := fun q => c_46 (by rw [q]; rfl)
          refine lv_aload_n hx hb dX2_packed_58 rfl (lv_at hl 0 rfl) ?_
          refine va_get (D := D) (ci := 2) (v := .ref (μ 9)) (C := RX2) (T := TX2) (N := 15) hx hb hts (by decide +kernel) hown hK hP 0 rfl rfl 8 (by decide) (hts (.fieldLink RX2 35 "SevenKeysModel" "levels" "[I") (by decide +kernel)) (fun _ h9 => h9) rfl dX2_packed_59 ?_
          refine lv_iload_n hx hb dX2_packed_62 rfl (lv_at hl 2 rfl) ?_
          refine nv_iald hx hb hK hP 9 0 rfl rfl (by omega) (by decide) dX2_packed_63 ?_
          refine nv_as (nI (lev (σ sl) k)) (by exact hpp.2) ?_
          exact ret_wi hx hb hr hlocks dX2_packed_64 hS (⟨_, _, h5_23, hRel, hPt, hKg, hP⟩) (by first | (unfold packedR gs; rw [show isS (nI sl) = true from c_4, c_15, show cl (nI sl) = sl from hcsl, show cl (nI w) = w from hcw, hno]; rfl) | (unfold packedR gs; rw [show isS (nI sl) = true from c_4, c_15, show cl (nI sl) = sl from hcsl, show cl (nI w) = w from hcw, hk4]; simp [hw0]))
        ·
          have hw0 : w = 0 := nz0 c_46 (by omega)
          refine lv_aload_n hx hb dX2_packed_49 rfl (lv_at hl 0 rfl) ?_
          refine va_get (D := D) (ci := 2) (v := .ref (μ 8)) (C := RX2) (T := TX2) (N := 15) hx hb hts (by decide +kernel) hown hK hP 0 rfl rfl 7 (by decide) (hts (.fieldLink RX2 32 "SevenKeysModel" "patches" "[I") (by decide +kernel)) (fun _ h9 => h9) rfl dX2_packed_50 ?_
          refine lv_iload_n hx hb dX2_packed_53 rfl (lv_at hl 2 rfl) ?_
          refine nv_iald hx hb hK hP 8 0 rfl rfl (by omega) (by decide) dX2_packed_54 ?_
          refine nv_as (nI k) (by exact hpp.1) ?_
          refine lv_goto (tgt := 64) hx hb dX2_packed_55 (by decide) ?_
          exact ret_wi hx hb hr hlocks dX2_packed_64 hS (⟨_, _, h5_23, hRel, hPt, hKg, hP⟩) (by first | (unfold packedR gs; rw [show isS (nI sl) = true from c_4, c_15, show cl (nI sl) = sl from hcsl, show cl (nI w) = w from hcw, hno]; rfl) | (unfold packedR gs; rw [show isS (nI sl) = true from c_4, c_15, show cl (nI sl) = sl from hcsl, show cl (nI w) = w from hcw, hk4]; simp [hw0]))
      ·
        have hno := pk_out c_37
        refine lv_bipush (v := (-6)) hx hb dX2_packed_40 (by decide) ?_
        refine lv_goto (tgt := 64) hx hb dX2_packed_42 (by decide) ?_
        exact ret_wi hx hb hr hlocks dX2_packed_64 hS (⟨_, _, h5_23, hRel, hPt, hKg, hP⟩) (by first | (unfold packedR gs; rw [show isS (nI sl) = true from c_4, c_15, show cl (nI sl) = sl from hcsl, show cl (nI w) = w from hcw, hno]; rfl) | (unfold packedR gs; rw [show isS (nI sl) = true from c_4, c_15, show cl (nI sl) = sl from hcsl, show cl (nI w) = w from hcw, hk4]; simp [hw0]))
    ·
      refine lv_bipush (v := (-2)) hx hb dX2_packed_18 (by decide) ?_
      exact ret_wi hx hb hr hlocks dX2_packed_20 hS (⟨_, _, rfl, hRel, hPt, hKg, hP⟩) (by first | (simp [packedR, gd, gs, c_4, c_15]; done) | (simp [packedR, gd, gs, c_4]; done))
  ·
    refine lv_iconst (v := (-1)) hx hb dX2_packed_7 (by decide) ?_
    exact ret_wi hx hb hr hlocks dX2_packed_8 hS (⟨_, _, rfl, hRel, hPt, hKg, hP⟩) (by first | (simp [packedR, gd, gs, c_4, c_15]; done) | (simp [packedR, gd, gs, c_4]; done))
theorem nf_X2_piece : nfOk yX2_piece 2 := by unfold nfOk; decide +kernel
set_option maxHeartbeats 4000000 in
set_option maxRecDepth 100000 in
theorem c_X2_piece (l : Launch) (D : va_G) (cI cZ : ClassId) (μ : Nat → Nat) (σ : Nat → Nat → Bool) (M : Nat → Nat → Int32) (V : Nat → Int32) (a : Int32) (x : Int32) : Wr l yX2_piece wsX2_piece ({ frames := 5, cells := 0, slots := 0, locals := 117 }) [.ref (μ 0), .int a, .int x] (MB D cI cZ μ σ M V) (some (.int (pieceR σ a x))) (MS D cI cZ μ σ (M 5)) (xA 13 μ) := by
  refine met_in RX2 (by decide) rfl rfl (Nat.le_of_ble_eq_true rfl) ?_
  intro p e s m below meth c ls S hr hlocks hl hB
  have hx := S.1
  have hb := S.2.1
  have hml := S.2.2.1
  have hown := S.2.2.2.1
  have hts := S.2.2.2.2
  have hl : lv_has ls 3 [(0, .ref (μ 0)), (1, .int a), (2, .int x)] := hl
  obtain ⟨⟨hRel, hPt, hKg, hP⟩, hMK⟩ := hB
  have hK := hMK.1
  have hS : va_S (xA 13 μ) s.heap s.heap [] := va_S.rf
  refine lv_iload_n hx hb dX2_piece_0 rfl (lv_at hl 1 rfl) ?_
  refine rd_S S hl (c_X2_isSlot l a) HB.tt gX2_piece_X2_isSlot rfl nf_X2_isSlot rfl rfl dX2_piece_1  (fun _ _ _ => trivial) ?_
  refine nv_ifz_ne (tgt := 9) hx hb dX2_piece_4 (by decide) (fun c_4 => ?_) (fun c_4 => ?_)
  ·
    obtain ⟨sl, hsl, hxsl⟩ := wI_nat c_4 (by decide)
    subst hxsl
    have hcsl : (nI sl).toNatClampNeg = sl := nI_clamp (by omega)
    refine lv_iload_n hx hb dX2_piece_9 rfl (lv_at hl 2 rfl) ?_
    refine rd_S S hl (c_X2_isKey l x) HB.tt gX2_piece_X2_isKey rfl nf_X2_isKey rfl rfl dX2_piece_10  (fun _ _ _ => trivial) ?_
    refine nv_ifz_ne (tgt := 19) hx hb dX2_piece_13 (by decide) (fun c_13 => ?_) (fun c_13 => ?_)
    ·
      obtain ⟨k, hk, hxk⟩ := wI_nat c_13 (by decide)
      subst hxk
      have hck : (nI k).toNatClampNeg = k := nI_clamp (by omega)
      refine lv_aload_n hx hb dX2_piece_19 rfl (lv_at hl 0 rfl) ?_
      refine lv_iload_n hx hb dX2_piece_20 rfl (lv_at hl 1 rfl) ?_
      refine wr_V S hl (c_X2_layPieces l D cI cZ μ σ M V sl (by omega)) MB.hb gX2_piece_X2_layPieces rfl rfl nf_X2_layPieces rfl rfl dX2_piece_21 (MP.rc0 hMK hP) (MB.at hMK ⟨hRel, hPt, hKg, hP⟩) hS (fun _ h => h) (fun H locs hPP hS _ hkp => ?_)
      obtain ⟨M_21, V_21, ⟨h5_21, hv_21, hq_21⟩, hRel, hPt, hKg, hP⟩ := hPP
      refine W.eq (g2 := F0 m 24 ls [.int (nI ((lay (σ sl) 2401).2.1))]) rfl ?_
      refine lv_pop hx hb dX2_piece_24 rfl ?_
      refine lv_aload_n hx hb dX2_piece_25 rfl (lv_at hl 0 rfl) ?_
      refine va_get (D := D) (ci := 2) (v := .ref (μ 10)) (C := RX2) (T := TX2) (N := 15) hx hb hts (by decide +kernel) hown hK hP 0 rfl rfl 10 (by decide) (hts (.fieldLink RX2 38 "SevenKeysModel" "pieces" "[I") (by decide +kernel)) (fun _ h9 => h9) rfl dX2_piece_26 ?_
      refine lv_iload_n hx hb dX2_piece_29 rfl (lv_at hl 2 rfl) ?_
      refine nv_iald hx hb hK hP 10 0 rfl rfl (by omega) (by decide) dX2_piece_30 ?_
      refine nv_as (if (lay (σ sl) 2401).1.1 k = 0 then -6 else nI ((lay (σ sl) 2401).1.2.1 k)) (by exact hq_21 k (by omega)) ?_
      exact ret_wi hx hb hr hlocks dX2_piece_31 hS (⟨_, _, h5_21, hRel, hPt, hKg, hP⟩) (by unfold pieceR gs; rw [show isS (nI sl) = true from c_4, show isK (nI k) = true from c_13, show cl (nI sl) = sl from hcsl, show cl (nI k) = k from hck]; exact pc_leaf (by omega))
    ·
      refine lv_bipush (v := (-2)) hx hb dX2_piece_16 (by decide) ?_
      exact ret_wi hx hb hr hlocks dX2_piece_18 hS (⟨_, _, rfl, hRel, hPt, hKg, hP⟩) (by first | (simp [pieceR, gd, gs, c_4, c_13]; done) | (simp [pieceR, gd, gs, c_4]; done))
  ·
    refine lv_iconst (v := (-1)) hx hb dX2_piece_7 (by decide) ?_
    exact ret_wi hx hb hr hlocks dX2_piece_8 hS (⟨_, _, rfl, hRel, hPt, hKg, hP⟩) (by first | (simp [pieceR, gd, gs, c_4, c_13]; done) | (simp [pieceR, gd, gs, c_4]; done))
theorem nf_X2_way : nfOk yX2_way 3 := by unfold nfOk; decide +kernel
set_option maxHeartbeats 4000000 in
set_option maxRecDepth 100000 in
theorem c_X2_way (l : Launch) (D : va_G) (cI cZ : ClassId) (μ : Nat → Nat) (σ : Nat → Nat → Bool) (M : Nat → Nat → Int32) (V : Nat → Int32) (a : Int32) (x : Int32) (y : Int32) : Wr l yX2_way wsX2_way ({ frames := 4, cells := 0, slots := 0, locals := 93 }) [.ref (μ 0), .int a, .int x, .int y] (MB D cI cZ μ σ M V) (some (.int (wayR σ a x y))) (MS D cI cZ μ σ (M 5)) (xA 13 μ) := by
  refine met_in RX2 (by decide) rfl rfl (Nat.le_of_ble_eq_true rfl) ?_
  intro p e s m below meth c ls S hr hlocks hl hB
  have hx := S.1
  have hb := S.2.1
  have hml := S.2.2.1
  have hown := S.2.2.2.1
  have hts := S.2.2.2.2
  have hl : lv_has ls 4 [(0, .ref (μ 0)), (1, .int a), (2, .int x), (3, .int y)] := hl
  obtain ⟨⟨hRel, hPt, hKg, hP⟩, hMK⟩ := hB
  have hK := hMK.1
  have hS : va_S (xA 13 μ) s.heap s.heap [] := va_S.rf
  refine lv_iload_n hx hb dX2_way_0 rfl (lv_at hl 1 rfl) ?_
  refine rd_S S hl (c_X2_isSlot l a) HB.tt gX2_way_X2_isSlot rfl nf_X2_isSlot rfl rfl dX2_way_1  (fun _ _ _ => trivial) ?_
  refine nv_ifz_ne (tgt := 9) hx hb dX2_way_4 (by decide) (fun c_4 => ?_) (fun c_4 => ?_)
  ·
    obtain ⟨sl, hsl, hxsl⟩ := wI_nat c_4 (by decide)
    subst hxsl
    have hcsl : (nI sl).toNatClampNeg = sl := nI_clamp (by omega)
    refine lv_iload_n hx hb dX2_way_9 rfl (lv_at hl 2 rfl) ?_
    refine rd_S S hl (c_X2_isKey l x) HB.tt gX2_way_X2_isKey rfl nf_X2_isKey rfl rfl dX2_way_10  (fun _ _ _ => trivial) ?_
    refine nv_ifz_eq (tgt := 23) hx hb dX2_way_13 (by decide) (fun c_13 => ?_) (fun c_13 => ?_)
    ·
      refine lv_bipush (v := (-2)) hx hb dX2_way_23 (by decide) ?_
      exact ret_wi hx hb hr hlocks dX2_way_25 hS (⟨_, _, rfl, hRel, hPt, hKg, hP⟩) (by first | (simp [wayR, gd, gs, c_4, c_13, c_20]; done) | (simp [wayR, gd, gs, c_4, c_13]; done) | (simp [wayR, gd, gs, c_4]; done))
    ·
      obtain ⟨j, hj, hxj⟩ := wI_nat c_13 (by decide)
      subst hxj
      have hcj : (nI j).toNatClampNeg = j := nI_clamp (by omega)
      refine lv_iload_n hx hb dX2_way_16 rfl (lv_at hl 3 rfl) ?_
      refine rd_S S hl (c_X2_isKey l y) HB.tt gX2_way_X2_isKey rfl nf_X2_isKey rfl rfl dX2_way_17  (fun _ _ _ => trivial) ?_
      refine nv_ifz_ne (tgt := 26) hx hb dX2_way_20 (by decide) (fun c_20 => ?_) (fun c_20 => ?_)
      ·
        obtain ⟨k, hk, hxk⟩ := wI_nat c_20 (by decide)
        subst hxk
        have hck : (nI k).toNatClampNeg = k := nI_clamp (by omega)
        refine lv_aload_n hx hb dX2_way_26 rfl (lv_at hl 0 rfl) ?_
        refine lv_iload_n hx hb dX2_way_27 rfl (lv_at hl 1 rfl) ?_
        refine lv_iload_n hx hb dX2_way_28 rfl (lv_at hl 2 rfl) ?_
        refine rd_V S hl (c_X2_isIn l D cI cZ μ σ M V sl j (by omega) (by omega)) MB.hb gX2_way_X2_isIn rfl rfl nf_X2_isIn rfl rfl dX2_way_29 (MP.rc0 hMK hP) (MB.at hMK ⟨hRel, hPt, hKg, hP⟩) ?_
        refine nv_ifz_eq (tgt := 44) hx hb dX2_way_32 (by decide) (fun c_32 => ?_) (fun c_32 => ?_)
        ·
          refine lv_bipush (v := (-6)) hx hb dX2_way_44 (by decide) ?_
          exact ret_wi hx hb hr hlocks dX2_way_46 hS (⟨_, _, rfl, hRel, hPt, hKg, hP⟩) (by first | (simp [wayR, gs, c_4, c_13, c_20, hcsl, hcj, hck, c_32, c_41]; done) | (simp [wayR, gs, c_4, c_13, c_20, hcsl, hcj, hck, c_32]; done))
        ·
          refine lv_aload_n hx hb dX2_way_35 rfl (lv_at hl 0 rfl) ?_
          refine lv_iload_n hx hb dX2_way_36 rfl (lv_at hl 1 rfl) ?_
          refine lv_iload_n hx hb dX2_way_37 rfl (lv_at hl 3 rfl) ?_
          refine rd_V S hl (c_X2_isIn l D cI cZ μ σ M V sl k (by omega) (by omega)) MB.hb gX2_way_X2_isIn rfl rfl nf_X2_isIn rfl rfl dX2_way_38 (MP.rc0 hMK hP) (MB.at hMK ⟨hRel, hPt, hKg, hP⟩) ?_
          refine nv_ifz_ne (tgt := 47) hx hb dX2_way_41 (by decide) (fun c_41 => ?_) (fun c_41 => ?_)
          ·
            refine lv_aload_n hx hb dX2_way_47 rfl (lv_at hl 0 rfl) ?_
            refine wr_V S hl (c_X2_clearPieces l D cI cZ μ σ M V) MB.hb gX2_way_X2_clearPieces rfl rfl nf_X2_clearPieces rfl rfl dX2_way_48 (MP.rc0 hMK hP) (MB.at hMK ⟨hRel, hPt, hKg, hP⟩) hS (fun _ h => h) (fun H locs hPP hS _ hkp => ?_)
            obtain ⟨M_48, V_48, ⟨h5_48, hc_48⟩, hRel, hPt, hKg, hP⟩ := hPP
            refine W.eq (g2 := F0 m 51 ls []) rfl ?_
            refine lv_aload_n hx hb dX2_way_51 rfl (lv_at hl 0 rfl) ?_
            refine lv_iload_n hx hb dX2_way_52 rfl (lv_at hl 1 rfl) ?_
            refine lv_iload_n hx hb dX2_way_53 rfl (lv_at hl 2 rfl) ?_
            refine lv_iconst (v := nI 0) hx hb dX2_way_54 (by decide) ?_
            refine wr_V S hl (c_X2_spread l D cI cZ μ σ M_48 V_48 sl 0 (fun _ => 0) (fun _ => 0) (fun _ => 0) j (by omega) (by exact fun k hk => hc_48 k hk) (by exact fun _ _ h => absurd rfl h) (by exact fun _ => Nat.zero_le _) (by rfl) (by omega) (by omega) (by exact fun _ => Nat.zero_le _)) MB.hb gX2_way_X2_spread rfl rfl nf_X2_spread rfl rfl dX2_way_55 (MP.rc0 hMK hP) (MB.at hMK ⟨hRel, hPt, hKg, hP⟩) hS (fun _ h => h) (fun H locs hPP hS _ hkp => ?_)
            obtain ⟨M_55, V_55, ⟨h5_55, h2_55, hrM_55⟩, hRel, hPt, hKg, hP⟩ := hPP
            refine W.eq (g2 := F0 m 58 ls [.int (nI ((flood (σ sl) 0 (fun _ => 0) (fun _ => 0) (fun _ => 0) j).2.2.2))]) rfl ?_
            refine lv_pop hx hb dX2_way_58 rfl ?_
            refine lv_aload_n hx hb dX2_way_59 rfl (lv_at hl 0 rfl) ?_
            refine va_get (D := D) (ci := 2) (v := .ref (μ 10)) (C := RX2) (T := TX2) (N := 15) hx hb hts (by decide +kernel) hown hK hP 0 rfl rfl 10 (by decide) (hts (.fieldLink RX2 38 "SevenKeysModel" "pieces" "[I") (by decide +kernel)) (fun _ h9 => h9) rfl dX2_way_60 ?_
            refine lv_iload_n hx hb dX2_way_63 rfl (lv_at hl 3 rfl) ?_
            refine nv_iald hx hb hK hP 10 0 rfl rfl (by omega) (by decide) dX2_way_64 ?_
            have hrr : M_55 10 k = if (fl1 (σ sl) j).1 k = 0 then -6 else nI ((fl1 (σ sl) j).2.1 k) := hrM_55.1 k (by omega)
            have hpb : pcB 2401 (fl1 (σ sl) j) := pcB_fld (Nat.zero_le _) _ _ _ (pcB_fl0 (fun _ => Nat.zero_le _) (Nat.zero_le _))
            have hge := rM_ge hrr (Nat.lt_of_le_of_lt (hpb k) (by decide))
            refine lv_if_ge (tgt := 73) hx hb dX2_way_65 (by decide) (fun c_65 => ?_) (fun c_65 => ?_)
            ·
              have hk0 := hge.mp c_65
              refine lv_aload_n hx hb dX2_way_73 rfl (lv_at hl 0 rfl) ?_
              refine va_get (D := D) (ci := 2) (v := .ref (μ 11)) (C := RX2) (T := TX2) (N := 15) hx hb hts (by decide +kernel) hown hK hP 0 rfl rfl 11 (by decide) (hts (.fieldLink RX2 41 "SevenKeysModel" "steps" "[I") (by decide +kernel)) (fun _ h9 => h9) rfl dX2_way_74 ?_
              refine lv_iload_n hx hb dX2_way_77 rfl (lv_at hl 3 rfl) ?_
              refine nv_iald hx hb hK hP 11 0 rfl rfl (by omega) (by decide) dX2_way_78 ?_
              refine nv_as (nI ((fl1 (σ sl) j).1 k - 1)) (by exact hrM_55.2.1 k (by omega) hk0) ?_
              exact ret_wi hx hb hr hlocks dX2_way_79 hS (⟨_, _, h5_55.trans h5_48, hRel, hPt, hKg, hP⟩) (by simp [wayR, gs, c_4, c_13, c_20, hcsl, hcj, hck, c_32, c_41, hk0])
            ·
              have hk0 : (fl1 (σ sl) j).1 k = 0 := Classical.byContradiction (fun q => c_65 (hge.mpr q))
              refine lv_bipush (v := (-6)) hx hb dX2_way_68 (by decide) ?_
              refine lv_goto (tgt := 79) hx hb dX2_way_70 (by decide) ?_
              exact ret_wi hx hb hr hlocks dX2_way_79 hS (⟨_, _, h5_55.trans h5_48, hRel, hPt, hKg, hP⟩) (by simp [wayR, gs, c_4, c_13, c_20, hcsl, hcj, hck, c_32, c_41, hk0])
          ·
            refine lv_bipush (v := (-6)) hx hb dX2_way_44 (by decide) ?_
            exact ret_wi hx hb hr hlocks dX2_way_46 hS (⟨_, _, rfl, hRel, hPt, hKg, hP⟩) (by first | (simp [wayR, gs, c_4, c_13, c_20, hcsl, hcj, hck, c_32, c_41]; done) | (simp [wayR, gs, c_4, c_13, c_20, hcsl, hcj, hck, c_32]; done))
      ·
        refine lv_bipush (v := (-2)) hx hb dX2_way_23 (by decide) ?_
        exact ret_wi hx hb hr hlocks dX2_way_25 hS (⟨_, _, rfl, hRel, hPt, hKg, hP⟩) (by first | (simp [wayR, gd, gs, c_4, c_13, c_20]; done) | (simp [wayR, gd, gs, c_4, c_13]; done) | (simp [wayR, gd, gs, c_4]; done))
  ·
    refine lv_iconst (v := (-1)) hx hb dX2_way_7 (by decide) ?_
    exact ret_wi hx hb hr hlocks dX2_way_8 hS (⟨_, _, rfl, hRel, hPt, hKg, hP⟩) (by first | (simp [wayR, gd, gs, c_4, c_13, c_20]; done) | (simp [wayR, gd, gs, c_4, c_13]; done) | (simp [wayR, gd, gs, c_4]; done))
