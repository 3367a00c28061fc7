theorem nf_X0_cellByFigures : nfOk yX0_cellByFigures 1 := by unfold nfOk; decide +kernel
set_option maxHeartbeats 4000000 in
set_option maxRecDepth 100000 in
theorem c_X0_cellByFigures (l : Launch) (ta : Nat) (tb : Nat) (k : Nat) (hk : k < 2401) : Rd l yX0_cellByFigures wsX0_cellByFigures ({ frames := 1, cells := 0, slots := 0, locals := 21 }) [.int (nI k)] (fun U => SAB ta tb (fun _ => False) U U.heap) (nI (cellN k)) := by
  refine met_in RX0 (by decide) rfl rfl (Nat.le_of_ble_eq_true rfl) ?_
  intro p e s m below meth c ls S hr hlocks hl hB
  have hx := S.1
  have hb := S.2.1
  have hml := S.2.2.1
  have hown := S.2.2.2.1
  have hts := S.2.2.2.2
  have hl : lv_has ls 7 [(0, .int (nI k))] := hl
  have hS : va_S (fun _ => False) s.heap s.heap [] := va_S.rf
  obtain ⟨hZa, hTa, hZb, hTb, hNw⟩ := hB
  refine lv_iconst (v := nI 0) hx hb dX0_cellByFigures_0 (by decide) ?_
  refine lv_istore_n (lv' := [(1, .int (nI 0)), (0, .int (nI k))]) hx hb dX0_cellByFigures_1 rfl hl (by decide) rfl (fun ls hl => ?_)
  refine lv_iconst (v := nI 0) hx hb dX0_cellByFigures_2 (by decide) ?_
  refine lv_istore_n (lv' := [(2, .int (nI 0)), (1, .int (nI 0)), (0, .int (nI k))]) hx hb dX0_cellByFigures_3 rfl hl (by decide) rfl (fun ls hl => ?_)
  refine lv_sipush (v := nI 343) hx hb dX0_cellByFigures_4 (by decide) ?_
  refine lv_istore_n (lv' := [(3, .int (nI 343)), (2, .int (nI 0)), (1, .int (nI 0)), (0, .int (nI k))]) hx hb dX0_cellByFigures_7 rfl hl (by decide) rfl (fun ls hl => ?_)
  have loop_8 : ∀ (n : Nat) (t : Nat), (t ≤ 4) → 4 - t < n → ∀ (x1 x2 x3 : Int32), x1 = iI (pts k t).1 → x2 = iI (pts k t).2 → x3 = nI (343 / 7 ^ t) → ∀ ls : Array Slot, lv_has ls 7 [(0, .int (nI k)), (1, .int x1), (2, .int x2), (3, .int x3)] → W p l e (headSpec wsX0_cellByFigures ({ frames := 1, cells := 0, slots := 0, locals := 21 })).room s m [.int (nI k)].toArray below meth c s.heap [] 0 0 (MQ below (vp_Si (fun r => r = nI (cellN k))) [.int (nI k)].toArray s 0 0 (fun _ => False)) (F0 m 8 ls []) := by
    intro n
    induction n with
    | zero => intro t ht hm; exact absurd hm (Nat.not_lt_zero _)
    | succ n ih_8 =>
      intro t ht hm_8 x1 x2 x3 e1 e2 e3 ls hl
      subst e1
      subst e2
      subst e3
      refine lv_iload_n hx hb dX0_cellByFigures_8 rfl (lv_at hl 3 rfl) ?_
      refine lv_if_le (tgt := 66) hx hb dX0_cellByFigures_9 (by decide) (fun c_9 => ?_) (fun c_9 => ?_)
      ·
        have ht4 := pl_le c_9 ht
        subst ht4
        refine lv_iload_n hx hb dX0_cellByFigures_66 rfl (lv_at hl 1 rfl) ?_
        refine lv_iload_n hx hb dX0_cellByFigures_67 rfl (lv_at hl 2 rfl) ?_
        refine rd_S S hl (c_X0_cellAt l (iI (pts k 4).1) (iI (pts k 4).2)) HB.tt gX0_cellByFigures_X0_cellAt rfl nf_X0_cellAt rfl rfl dX0_cellByFigures_68  (fun _ _ _ => trivial) ?_
        exact ret_i hx hb hr hlocks dX0_cellByFigures_71 (by exact ce_leaf hk)
      ·
        have hp := pl_gt c_9 ht
        refine lv_iload_n hx hb dX0_cellByFigures_12 rfl (lv_at hl 0 rfl) ?_
        refine lv_iload_n hx hb dX0_cellByFigures_13 rfl (lv_at hl 3 rfl) ?_
        refine lv_idiv hx hb dX0_cellByFigures_14 hp.2.2.2 ?_
        refine nv_as (nI (k / (343 / 7 ^ t))) (by exact fg_val (by omega) hp.2.1 hp.2.2.1) ?_
        refine lv_bipush (v := nI 7) hx hb dX0_cellByFigures_15 (by decide) ?_
        have hfl := fg_le k t
        refine lv_irem hx hb dX0_cellByFigures_17 (by decide) ?_
        refine nv_as (nI ((k / (343 / 7 ^ t)) % 7)) (pk_rem (by omega) (by omega) (by omega)) ?_
        refine lv_istore (lv' := [(4, .int (nI ((k / (343 / 7 ^ t)) % 7))), (0, .int (nI k)), (1, .int (iI (pts k t).1)), (2, .int (iI (pts k t).2)), (3, .int (nI (343 / 7 ^ t)))]) hx hb dX0_cellByFigures_18 hl (by decide) rfl (fun ls hl => ?_)
        refine lv_iconst (v := nI 2) hx hb dX0_cellByFigures_20 (by decide) ?_
        refine lv_iload_n hx hb dX0_cellByFigures_21 rfl (lv_at hl 2 rfl) ?_
        refine lv_imul hx hb dX0_cellByFigures_22 ?_
        refine nv_as (iI (2 * (pts k t).1)) (by exact i2 _) ?_
        refine lv_iload_n hx hb dX0_cellByFigures_23 rfl (lv_at hl 3 rfl) ?_
        refine lv_isub hx hb dX0_cellByFigures_24 ?_
        refine nv_as (iI (2 * (pts k t).1 - (pts k t).2)) (by exact iI_sub _ _) ?_
        refine lv_istore (lv' := [(5, .int (iI (2 * (pts k t).1 - (pts k t).2))), (4, .int (nI ((k / (343 / 7 ^ t)) % 7))), (0, .int (nI k)), (1, .int (iI (pts k t).1)), (2, .int (iI (pts k t).2)), (3, .int (nI (343 / 7 ^ t)))]) hx hb dX0_cellByFigures_25 hl (by decide) rfl (fun ls hl => ?_)
        refine lv_iload_n hx hb dX0_cellByFigures_27 rfl (lv_at hl 3 rfl) ?_
        refine lv_iconst (v := nI 3) hx hb dX0_cellByFigures_28 (by decide) ?_
        refine lv_iload_n hx hb dX0_cellByFigures_29 rfl (lv_at hl 4 rfl) ?_
        refine lv_imul hx hb dX0_cellByFigures_30 ?_
        refine nv_as (iI (3 * (pts k t).2)) (by exact i3 _) ?_
        refine lv_iadd hx hb dX0_cellByFigures_31 ?_
        refine nv_as (iI ((pts k t).1 + 3 * (pts k t).2)) (by exact iI_add _ _) ?_
        refine lv_istore (lv' := [(6, .int (iI ((pts k t).1 + 3 * (pts k t).2))), (5, .int (iI (2 * (pts k t).1 - (pts k t).2))), (4, .int (nI ((k / (343 / 7 ^ t)) % 7))), (0, .int (nI k)), (1, .int (iI (pts k t).1)), (2, .int (iI (pts k t).2)), (3, .int (nI (343 / 7 ^ t)))]) hx hb dX0_cellByFigures_32 hl (by decide) rfl (fun ls hl => ?_)
        refine lv_iload hx hb dX0_cellByFigures_34 (lv_at hl 1 rfl) ?_
        refine va_gets hx hb hZa hS hown (hts (.fieldLink RX0 28 "SevenKeys$Sheet" "SIDE_A" "[I") (by decide +kernel)) (fun _ h9 => h9) dX0_cellByFigures_36 ?_
        refine lv_iload hx hb dX0_cellByFigures_39 (lv_at hl 2 rfl) ?_
        refine rd_SN S hl (c_X1_valueAt l ta 7 (fun j => iI (sA j)) (nI ((k / (343 / 7 ^ t)) % 7)) (by decide)) TB_hb gX0_cellByFigures_X1_valueAt_n31 rfl nf_X1_valueAt rfl rfl dX0_cellByFigures_41 hNw (hts (.initialized RX1) (by decide +kernel)) (hts (.static yX1_valueAt) (by decide +kernel))  (TB_T hTa hS) ?_
        refine nv_as (iI (sA (k / (343 / 7 ^ t) % 7))) (by exact vAt_in (fg_lt k t) (by decide)) ?_
        refine lv_iadd hx hb dX0_cellByFigures_44 ?_
        refine nv_as (iI (2 * (pts k t).1 - (pts k t).2 + sA (k / (343 / 7 ^ t) % 7))) (by exact iI_add _ _) ?_
        refine lv_istore_n (lv' := [(1, .int (iI (2 * (pts k t).1 - (pts k t).2 + sA (k / (343 / 7 ^ t) % 7)))), (6, .int (iI ((pts k t).1 + 3 * (pts k t).2))), (5, .int (iI (2 * (pts k t).1 - (pts k t).2))), (4, .int (nI ((k / (343 / 7 ^ t)) % 7))), (0, .int (nI k)), (2, .int (iI (pts k t).2)), (3, .int (nI (343 / 7 ^ t)))]) hx hb dX0_cellByFigures_45 rfl hl (by decide) rfl (fun ls hl => ?_)
        refine lv_iload hx hb dX0_cellByFigures_46 (lv_at hl 1 rfl) ?_
        refine va_gets hx hb hZb hS hown (hts (.fieldLink RX0 35 "SevenKeys$Sheet" "SIDE_B" "[I") (by decide +kernel)) (fun _ h9 => h9) dX0_cellByFigures_48 ?_
        refine lv_iload hx hb dX0_cellByFigures_51 (lv_at hl 3 rfl) ?_
        refine rd_SN S hl (c_X1_valueAt l tb 7 (fun j => iI (sB j)) (nI ((k / (343 / 7 ^ t)) % 7)) (by decide)) TB_hb gX0_cellByFigures_X1_valueAt_n31 rfl nf_X1_valueAt rfl rfl dX0_cellByFigures_53 hNw (hts (.initialized RX1) (by decide +kernel)) (hts (.static yX1_valueAt) (by decide +kernel))  (TB_T hTb hS) ?_
        refine nv_as (iI (sB (k / (343 / 7 ^ t) % 7))) (by exact vAt_in (fg_lt k t) (by decide)) ?_
        refine lv_iadd hx hb dX0_cellByFigures_56 ?_
        refine nv_as (iI ((pts k t).1 + 3 * (pts k t).2 + sB (k / (343 / 7 ^ t) % 7))) (by exact iI_add _ _) ?_
        refine lv_istore_n (lv' := [(2, .int (iI ((pts k t).1 + 3 * (pts k t).2 + sB (k / (343 / 7 ^ t) % 7)))), (1, .int (iI (2 * (pts k t).1 - (pts k t).2 + sA (k / (343 / 7 ^ t) % 7)))), (6, .int (iI ((pts k t).1 + 3 * (pts k t).2))), (5, .int (iI (2 * (pts k t).1 - (pts k t).2))), (4, .int (nI ((k / (343 / 7 ^ t)) % 7))), (0, .int (nI k)), (3, .int (nI (343 / 7 ^ t)))]) hx hb dX0_cellByFigures_57 rfl hl (by decide) rfl (fun ls hl => ?_)
        refine lv_iload_n hx hb dX0_cellByFigures_58 rfl (lv_at hl 6 rfl) ?_
        refine lv_bipush (v := nI 7) hx hb dX0_cellByFigures_59 (by decide) ?_
        have hpd := hp.2.2.1
        refine lv_idiv hx hb dX0_cellByFigures_61 (by decide) ?_
        refine nv_as (nI ((343 / 7 ^ t) / 7)) (pk_div (by omega) (by omega) (by omega)) ?_
        refine lv_istore_n (lv' := [(3, .int (nI ((343 / 7 ^ t) / 7))), (2, .int (iI ((pts k t).1 + 3 * (pts k t).2 + sB (k / (343 / 7 ^ t) % 7)))), (1, .int (iI (2 * (pts k t).1 - (pts k t).2 + sA (k / (343 / 7 ^ t) % 7)))), (6, .int (iI ((pts k t).1 + 3 * (pts k t).2))), (5, .int (iI (2 * (pts k t).1 - (pts k t).2))), (4, .int (nI ((k / (343 / 7 ^ t)) % 7))), (0, .int (nI k))]) hx hb dX0_cellByFigures_62 rfl hl (by decide) rfl (fun ls hl => ?_)
        refine lv_goto (tgt := 8) hx hb dX0_cellByFigures_63 (by decide) ?_
        exact ih_8 (t + 1) (by omega) (by omega) _ _ _ (by rfl) (by rfl) (by exact pl_div hp.1) _ (lv_sub hl [6, 2, 1, 0] rfl)
  exact loop_8 (4 - 0 + 1) 0 (by omega) (Nat.lt_succ_self _) _ _ _ (by rfl) (by rfl) (by rfl) _ (lv_sub hl [3, 2, 1, 0] rfl)
