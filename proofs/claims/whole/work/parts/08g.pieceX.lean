theorem nf_X1_countPieces : nfOk yX1_countPieces 1 := by unfold nfOk; decide +kernel
set_option maxHeartbeats 4000000 in
set_option maxRecDepth 100000 in
theorem c_X1_countPieces (l : Launch) (D : va_G) (cI cZ : ClassId) (ρ : Nat → Nat) (ts : Nat) (σ : Nat → Nat → Bool) (κ : Int32) (mk : Nat → Int32) (qu : Nat → Int32) (sl : Nat) (hsl : sl < 4) : Wr l yX1_countPieces wsX1_countPieces ({ frames := 5, cells := 0, slots := 0, locals := 115 }) [.ref (ρ 0), .int (nI sl)] (XB D cI cZ ρ ts σ κ mk qu) (some (.int (nI ((lay (σ sl) 2401).2.1)))) (XS D cI ρ σ κ) (xA 7 ρ) := by
  refine met_in RX1 (by decide) rfl rfl (Nat.le_of_ble_eq_true rfl) ?_
  intro p e s m below meth c ls S hr hlocks hl hB
  have hx := S.1
  have hb := S.2.1
  have hml := S.2.2.1
  have hown := S.2.2.2.1
  have hts := S.2.2.2.2
  have hl : lv_has ls 4 [(0, .ref (ρ 0)), (1, .int (nI sl))] := hl
  obtain ⟨⟨held, hRel, hP⟩, hXK⟩ := hB
  have hK := hXK.1
  have hS : va_S (xA 7 ρ) s.heap s.heap [] := va_S.rf
  refine lv_aload_n hx hb dX1_countPieces_0 rfl (lv_at hl 0 rfl) ?_
  refine va_get (D := D) (ci := 1) (v := .ref (ρ 3)) (C := RX1) (T := TX1) (N := 5) hx hb hts (by decide +kernel) hown hK hP 0 rfl rfl 3 (by decide) (hts (.fieldLink RX1 24 "SevenKeys" "marks" "[I") (by decide +kernel)) (fun _ h9 => h9) rfl dX1_countPieces_1 ?_
  refine lv_iconst (v := nI 0) hx hb dX1_countPieces_4 (by decide) ?_
  refine wr_S S hl (c_J7_fill_53178 l D cI cZ (ρ 3) 2401 mk (nI 0) (by decide)) FB.hb gX1_countPieces_J7_fill_53178 rfl nf_J7_fill_53178 rfl rfl dX1_countPieces_5  (FB.at hK hP 3 rfl) hS (fun q h => ⟨3, by omega, h⟩) (fun H locs hPP hS _ hkp => ?_)
  have hP : va_P D vwCl (xW cI ρ held κ (fun _ => nI 0) qu) H := xfill hXK.2.1 hP hPP hkp
  refine W.eq (g2 := F0 m 8 ls []) rfl ?_
  refine lv_iconst (v := nI 0) hx hb dX1_countPieces_8 (by decide) ?_
  refine lv_istore_n (lv' := [(2, .int (nI 0)), (0, .ref (ρ 0)), (1, .int (nI sl))]) hx hb dX1_countPieces_9 rfl hl (by decide) rfl (fun ls hl => ?_)
  refine lv_iconst (v := nI 0) hx hb dX1_countPieces_10 (by decide) ?_
  refine lv_istore_n (lv' := [(3, .int (nI 0)), (2, .int (nI 0)), (0, .ref (ρ 0)), (1, .int (nI sl))]) hx hb dX1_countPieces_11 rfl hl (by decide) rfl (fun ls hl => ?_)
  have loop_12 : ∀ (n : Nat) (i : Nat) (m1 : Nat → Int32) (q1 : Nat → Int32), (i ≤ 2401) → (∀ k, k < 2401 → m1 k = nI ((lay (σ sl) i).1.1 k)) → 2401 - i < n → ∀ (x2 x3 : Int32), x2 = nI ((lay (σ sl) i).2.1) → x3 = nI i → ∀ (H : Heap) (locs : List Loc), va_S (xA 7 ρ) s.heap H locs → XP D cI ρ σ κ m1 q1 H → ∀ ls : Array Slot, lv_has ls 4 [(0, .ref (ρ 0)), (1, .int (nI sl)), (2, .int x2), (3, .int x3)] → W p l e (headSpec wsX1_countPieces ({ frames := 5, cells := 0, slots := 0, locals := 115 })).room s m [.ref (ρ 0), .int (nI sl)].toArray below meth c H locs 0 0 (MQ below (qW (some (.int (nI ((lay (σ sl) 2401).2.1)))) (XS D cI ρ σ κ) (xA 7 ρ)) [.ref (ρ 0), .int (nI sl)].toArray s 0 0 (xA 7 ρ)) (F0 m 12 ls []) := by
    intro n
    induction n with
    | zero => intro i m1 q1 hi hm hm; exact absurd hm (Nat.not_lt_zero _)
    | succ n ih_12 =>
      intro i m1 q1 hi hm hm_12 x2 x3 e2 e3 H locs hS hPP ls hl
      subst e2
      subst e3
      obtain ⟨held, hRel, hP⟩ := hPP
      refine lv_iload_n hx hb dX1_countPieces_12 rfl (lv_at hl 3 rfl) ?_
      refine lv_sipush (v := nI 2401) hx hb dX1_countPieces_13 (by decide) ?_
      refine nv_icmp_ge (tgt := 44) hx hb dX1_countPieces_16 (by decide) (by omega) (by omega) (fun c_16 => ?_) (fun c_16 => ?_)
      ·
        refine lv_iload_n hx hb dX1_countPieces_44 rfl (lv_at hl 2 rfl) ?_
        exact ret_wi hx hb hr hlocks dX1_countPieces_45 hS (⟨_, _, held, hRel, hP⟩) (by rw [show i = 2401 by omega])
      ·
        refine lv_aload_n hx hb dX1_countPieces_19 rfl (lv_at hl 0 rfl) ?_
        refine lv_iload_n hx hb dX1_countPieces_20 rfl (lv_at hl 1 rfl) ?_
        refine lv_iload_n hx hb dX1_countPieces_21 rfl (lv_at hl 3 rfl) ?_
        have hlo := lay_ok (A := σ sl) hi
        have hbl : (lay (σ sl) i).1.1 i < 2 ^ 31 := Nat.lt_of_le_of_lt (hlo.1 i) (Nat.lt_of_le_of_lt (ctL_le _) (by decide))
        refine rd_V S hl (c_X1_startsPiece l D cI cZ ρ ts σ κ m1 q1 sl (some i) (by omega) (by exact fun j h => by first | exact nbo_lt h | (cases h <;> omega))) XB.hb gX1_countPieces_X1_startsPiece rfl rfl nf_X1_startsPiece rfl rfl dX1_countPieces_22 (XP.rc0 hXK hP) (XB.at hXK hS ⟨held, hRel, hP⟩) ?_
        refine nv_ifz_eq (tgt := 38) hx hb dX1_countPieces_25 (by decide) (fun c_25 => ?_) (fun c_25 => ?_)
        ·
          have hE := lay_f (st_f (hm i (by omega)) hbl c_25)
          refine lv_iinc (v := nI (i + 1)) (lv' := [(3, .int (nI (i + 1))), (0, .ref (ρ 0)), (1, .int (nI sl)), (2, .int (nI ((lay (σ sl) i).2.1)))]) hx hb dX1_countPieces_38 hl (k := 3) rfl (inc_nI _) (by decide) rfl (fun ls hl => ?_)
          refine lv_goto (tgt := 12) hx hb dX1_countPieces_41 (by decide) ?_
          exact ih_12 (i + 1) m1 q1 (by omega) (by first | (rw [hE]; exact hm) | (rw [hE]; exact hrX_31.1)) (by omega) _ _ (by rw [hE]) (by first | rfl | exact congrArg nI (by omega)) _ _ hS ⟨held, hRel, hP⟩ _ (lv_sub hl [1, 2, 3, 0] rfl)
        ·
          have hst := st_t (hm i (by omega)) hbl c_25
          have hE := lay_t hst
          refine lv_aload_n hx hb dX1_countPieces_28 rfl (lv_at hl 0 rfl) ?_
          refine lv_iload_n hx hb dX1_countPieces_29 rfl (lv_at hl 1 rfl) ?_
          refine lv_iload_n hx hb dX1_countPieces_30 rfl (lv_at hl 3 rfl) ?_
          refine wr_V S hl (c_X1_flood l D cI cZ ρ ts σ κ m1 q1 sl ((lay (σ sl) i).2.1) ((lay (σ sl) i).1.1) ((lay (σ sl) i).1.2.1) ((lay (σ sl) i).1.2.2.1) i (by omega) (by exact hm) (by exact (lay_ok hi).1) (by exact hst.2) (by omega)) XB.hb gX1_countPieces_X1_flood rfl rfl nf_X1_flood rfl rfl dX1_countPieces_31 (XP.rc0 hXK hP) (XB.at hXK hS ⟨held, hRel, hP⟩) hS (fun _ h => h) (fun H locs hPP hS _ hkp => ?_)
          obtain ⟨m_31, q_31, hrX_31, held, hRel, hP⟩ := hPP
          refine W.eq (g2 := F0 m 34 ls [.int (nI ((flood (σ sl) ((lay (σ sl) i).2.1) ((lay (σ sl) i).1.1) ((lay (σ sl) i).1.2.1) ((lay (σ sl) i).1.2.2.1) i).2.2.2))]) rfl ?_
          refine lv_pop hx hb dX1_countPieces_34 rfl ?_
          refine lv_iinc (v := nI ((lay (σ sl) i).2.1 + 1)) (lv' := [(2, .int (nI ((lay (σ sl) i).2.1 + 1))), (0, .ref (ρ 0)), (1, .int (nI sl)), (3, .int (nI i))]) hx hb dX1_countPieces_35 hl (k := 2) rfl (inc_nI _) (by decide) rfl (fun ls hl => ?_)
          refine lv_iinc (v := nI (i + 1)) (lv' := [(3, .int (nI (i + 1))), (2, .int (nI ((lay (σ sl) i).2.1 + 1))), (0, .ref (ρ 0)), (1, .int (nI sl))]) hx hb dX1_countPieces_38 hl (k := 3) rfl (inc_nI _) (by decide) rfl (fun ls hl => ?_)
          refine lv_goto (tgt := 12) hx hb dX1_countPieces_41 (by decide) ?_
          exact ih_12 (i + 1) m_31 q_31 (by omega) (by first | (rw [hE]; exact hm) | (rw [hE]; exact hrX_31.1)) (by omega) _ _ (by rw [hE]) (by first | rfl | exact congrArg nI (by omega)) _ _ hS ⟨held, hRel, hP⟩ _ (lv_sub hl [2, 3, 1, 0] rfl)
  exact loop_12 (2401 - 0 + 1) 0 (fun _ => nI 0) qu (by omega) (by exact fun _ _ => rfl) (Nat.lt_succ_self _) _ _ (by rfl) rfl _ _ hS ⟨held, hRel, hP⟩ _ (lv_sub hl [2, 3, 1, 0] rfl)
theorem nf_X1_greatestPiece : nfOk yX1_greatestPiece 1 := by unfold nfOk; decide +kernel
set_option maxHeartbeats 4000000 in
set_option maxRecDepth 100000 in
theorem c_X1_greatestPiece (l : Launch) (D : va_G) (cI cZ : ClassId) (ρ : Nat → Nat) (ts : Nat) (σ : Nat → Nat → Bool) (κ : Int32) (mk : Nat → Int32) (qu : Nat → Int32) (sl : Nat) (hsl : sl < 4) : Wr l yX1_greatestPiece wsX1_greatestPiece ({ frames := 5, cells := 0, slots := 0, locals := 115 }) [.ref (ρ 0), .int (nI sl)] (XB D cI cZ ρ ts σ κ mk qu) (some (.int (nI ((lay (σ sl) 2401).2.2)))) (XS D cI ρ σ κ) (xA 7 ρ) := by
  refine met_in RX1 (by decide) rfl rfl (Nat.le_of_ble_eq_true rfl) ?_
  intro p e s m below meth c ls S hr hlocks hl hB
  have hx := S.1
  have hb := S.2.1
  have hml := S.2.2.1
  have hown := S.2.2.2.1
  have hts := S.2.2.2.2
  have hl : lv_has ls 4 [(0, .ref (ρ 0)), (1, .int (nI sl))] := hl
  obtain ⟨⟨held, hRel, hP⟩, hXK⟩ := hB
  have hK := hXK.1
  have hS : va_S (xA 7 ρ) s.heap s.heap [] := va_S.rf
  refine lv_aload_n hx hb dX1_greatestPiece_0 rfl (lv_at hl 0 rfl) ?_
  refine va_get (D := D) (ci := 1) (v := .ref (ρ 3)) (C := RX1) (T := TX1) (N := 5) hx hb hts (by decide +kernel) hown hK hP 0 rfl rfl 3 (by decide) (hts (.fieldLink RX1 24 "SevenKeys" "marks" "[I") (by decide +kernel)) (fun _ h9 => h9) rfl dX1_greatestPiece_1 ?_
  refine lv_iconst (v := nI 0) hx hb dX1_greatestPiece_4 (by decide) ?_
  refine wr_S S hl (c_J7_fill_53178 l D cI cZ (ρ 3) 2401 mk (nI 0) (by decide)) FB.hb gX1_greatestPiece_J7_fill_53178 rfl nf_J7_fill_53178 rfl rfl dX1_greatestPiece_5  (FB.at hK hP 3 rfl) hS (fun q h => ⟨3, by omega, h⟩) (fun H locs hPP hS _ hkp => ?_)
  have hP : va_P D vwCl (xW cI ρ held κ (fun _ => nI 0) qu) H := xfill hXK.2.1 hP hPP hkp
  refine W.eq (g2 := F0 m 8 ls []) rfl ?_
  refine lv_iconst (v := nI 0) hx hb dX1_greatestPiece_8 (by decide) ?_
  refine lv_istore_n (lv' := [(2, .int (nI 0)), (0, .ref (ρ 0)), (1, .int (nI sl))]) hx hb dX1_greatestPiece_9 rfl hl (by decide) rfl (fun ls hl => ?_)
  refine lv_iconst (v := nI 0) hx hb dX1_greatestPiece_10 (by decide) ?_
  refine lv_istore_n (lv' := [(3, .int (nI 0)), (2, .int (nI 0)), (0, .ref (ρ 0)), (1, .int (nI sl))]) hx hb dX1_greatestPiece_11 rfl hl (by decide) rfl (fun ls hl => ?_)
  have loop_12 : ∀ (n : Nat) (i : Nat) (m1 : Nat → Int32) (q1 : Nat → Int32), (i ≤ 2401) → (∀ k, k < 2401 → m1 k = nI ((lay (σ sl) i).1.1 k)) → 2401 - i < n → ∀ (x2 x3 : Int32), x2 = nI ((lay (σ sl) i).2.2) → x3 = nI i → ∀ (H : Heap) (locs : List Loc), va_S (xA 7 ρ) s.heap H locs → XP D cI ρ σ κ m1 q1 H → ∀ ls : Array Slot, lv_has ls 4 [(0, .ref (ρ 0)), (1, .int (nI sl)), (2, .int x2), (3, .int x3)] → W p l e (headSpec wsX1_greatestPiece ({ frames := 5, cells := 0, slots := 0, locals := 115 })).room s m [.ref (ρ 0), .int (nI sl)].toArray below meth c H locs 0 0 (MQ below (qW (some (.int (nI ((lay (σ sl) 2401).2.2)))) (XS D cI ρ σ κ) (xA 7 ρ)) [.ref (ρ 0), .int (nI sl)].toArray s 0 0 (xA 7 ρ)) (F0 m 12 ls []) := by
    intro n
    induction n with
    | zero => intro i m1 q1 hi hm hm; exact absurd hm (Nat.not_lt_zero _)
    | succ n ih_12 =>
      intro i m1 q1 hi hm hm_12 x2 x3 e2 e3 H locs hS hPP ls hl
      subst e2
      subst e3
      obtain ⟨held, hRel, hP⟩ := hPP
      refine lv_iload_n hx hb dX1_greatestPiece_12 rfl (lv_at hl 3 rfl) ?_
      refine lv_sipush (v := nI 2401) hx hb dX1_greatestPiece_13 (by decide) ?_
      refine nv_icmp_ge (tgt := 45) hx hb dX1_greatestPiece_16 (by decide) (by omega) (by omega) (fun c_16 => ?_) (fun c_16 => ?_)
      ·
        refine lv_iload_n hx hb dX1_greatestPiece_45 rfl (lv_at hl 2 rfl) ?_
        exact ret_wi hx hb hr hlocks dX1_greatestPiece_46 hS (⟨_, _, held, hRel, hP⟩) (by rw [show i = 2401 by omega])
      ·
        refine lv_aload_n hx hb dX1_greatestPiece_19 rfl (lv_at hl 0 rfl) ?_
        refine lv_iload_n hx hb dX1_greatestPiece_20 rfl (lv_at hl 1 rfl) ?_
        refine lv_iload_n hx hb dX1_greatestPiece_21 rfl (lv_at hl 3 rfl) ?_
        have hlo := lay_ok (A := σ sl) hi
        have hbl : (lay (σ sl) i).1.1 i < 2 ^ 31 := Nat.lt_of_le_of_lt (hlo.1 i) (Nat.lt_of_le_of_lt (ctL_le _) (by decide))
        refine rd_V S hl (c_X1_startsPiece l D cI cZ ρ ts σ κ m1 q1 sl (some i) (by omega) (by exact fun j h => by first | exact nbo_lt h | (cases h <;> omega))) XB.hb gX1_greatestPiece_X1_startsPiece rfl rfl nf_X1_startsPiece rfl rfl dX1_greatestPiece_22 (XP.rc0 hXK hP) (XB.at hXK hS ⟨held, hRel, hP⟩) ?_
        refine nv_ifz_eq (tgt := 39) hx hb dX1_greatestPiece_25 (by decide) (fun c_25 => ?_) (fun c_25 => ?_)
        ·
          have hE := lay_f (st_f (hm i (by omega)) hbl c_25)
          refine lv_iinc (v := nI (i + 1)) (lv' := [(3, .int (nI (i + 1))), (0, .ref (ρ 0)), (1, .int (nI sl)), (2, .int (nI ((lay (σ sl) i).2.2)))]) hx hb dX1_greatestPiece_39 hl (k := 3) rfl (inc_nI _) (by decide) rfl (fun ls hl => ?_)
          refine lv_goto (tgt := 12) hx hb dX1_greatestPiece_42 (by decide) ?_
          exact ih_12 (i + 1) m1 q1 (by omega) (by first | (rw [hE]; exact hm) | (rw [hE]; exact hrX_32.1)) (by omega) _ _ (by rw [hE]) (by first | rfl | exact congrArg nI (by omega)) _ _ hS ⟨held, hRel, hP⟩ _ (lv_sub hl [1, 2, 3, 0] rfl)
        ·
          have hst := st_t (hm i (by omega)) hbl c_25
          have hE := lay_t hst
          refine lv_iload_n hx hb dX1_greatestPiece_28 rfl (lv_at hl 2 rfl) ?_
          refine lv_aload_n hx hb dX1_greatestPiece_29 rfl (lv_at hl 0 rfl) ?_
          refine lv_iload_n hx hb dX1_greatestPiece_30 rfl (lv_at hl 1 rfl) ?_
          refine lv_iload_n hx hb dX1_greatestPiece_31 rfl (lv_at hl 3 rfl) ?_
          refine wr_V S hl (c_X1_flood l D cI cZ ρ ts σ κ m1 q1 sl ((lay (σ sl) i).2.1) ((lay (σ sl) i).1.1) ((lay (σ sl) i).1.2.1) ((lay (σ sl) i).1.2.2.1) i (by omega) (by exact hm) (by exact (lay_ok hi).1) (by exact hst.2) (by omega)) XB.hb gX1_greatestPiece_X1_flood rfl rfl nf_X1_flood rfl rfl dX1_greatestPiece_32 (XP.rc0 hXK hP) (XB.at hXK hS ⟨held, hRel, hP⟩) hS (fun _ h => h) (fun H locs hPP hS _ hkp => ?_)
          obtain ⟨m_32, q_32, hrX_32, held, hRel, hP⟩ := hPP
          refine W.eq (g2 := F0 m 35 ls [.int (nI ((flood (σ sl) ((lay (σ sl) i).2.1) ((lay (σ sl) i).1.1) ((lay (σ sl) i).1.2.1) ((lay (σ sl) i).1.2.2.1) i).2.2.2)), .int (nI ((lay (σ sl) i).2.2))]) rfl ?_
          have hwt := (wf_flood (A := σ sl) (pn := (lay (σ sl) i).2.1) (pc := (lay (σ sl) i).1.2.1) (q := (lay (σ sl) i).1.2.2.1) (by omega) hst.2 hlo.1).tail
          refine va_mmax hx hb (hml.trans hl.1.symm) hown (hts (.methodLink RX1 155 Lib.Math.max.name) (by decide +kernel)) (hts (.static Lib.Math.max.name) (by decide +kernel)) (hts (.initialized "java/lang/Math") (by decide +kernel)) (hts (.code Lib.Math.max.name Lib.Math.max.code 2 (some .int)) (by decide +kernel)) (Nat.le_of_ble_eq_true rfl) (Nat.le_of_ble_eq_true rfl) (Nat.le_of_ble_eq_true rfl) (Nat.le_of_ble_eq_true rfl) dX1_greatestPiece_35 ?_
          refine nv_as (nI (max (lay (σ sl) i).2.2 (lyF (σ sl) i).2.2.2)) (by exact mx_nI (by omega) (by omega)) ?_
          refine lv_istore_n (lv' := [(2, .int (nI (max (lay (σ sl) i).2.2 (lyF (σ sl) i).2.2.2))), (0, .ref (ρ 0)), (1, .int (nI sl)), (3, .int (nI i))]) hx hb dX1_greatestPiece_38 rfl hl (by decide) rfl (fun ls hl => ?_)
          refine lv_iinc (v := nI (i + 1)) (lv' := [(3, .int (nI (i + 1))), (2, .int (nI (max (lay (σ sl) i).2.2 (lyF (σ sl) i).2.2.2))), (0, .ref (ρ 0)), (1, .int (nI sl))]) hx hb dX1_greatestPiece_39 hl (k := 3) rfl (inc_nI _) (by decide) rfl (fun ls hl => ?_)
          refine lv_goto (tgt := 12) hx hb dX1_greatestPiece_42 (by decide) ?_
          exact ih_12 (i + 1) m_32 q_32 (by omega) (by first | (rw [hE]; exact hm) | (rw [hE]; exact hrX_32.1)) (by omega) _ _ (by rw [hE]) (by first | rfl | exact congrArg nI (by omega)) _ _ hS ⟨held, hRel, hP⟩ _ (lv_sub hl [2, 3, 1, 0] rfl)
  exact loop_12 (2401 - 0 + 1) 0 (fun _ => nI 0) qu (by omega) (by exact fun _ _ => rfl) (Nat.lt_succ_self _) _ _ (by rfl) rfl _ _ hS ⟨held, hRel, hP⟩ _ (lv_sub hl [2, 3, 1, 0] rfl)
theorem nf_X1_piece : nfOk yX1_piece 2 := by unfold nfOk; decide +kernel
set_option maxHeartbeats 4000000 in
set_option maxRecDepth 100000 in
theorem c_X1_piece (l : Launch) (D : va_G) (cI cZ : ClassId) (ρ : Nat → Nat) (ts : Nat) (σ : Nat → Nat → Bool) (κ : Int32) (mk : Nat → Int32) (qu : Nat → Int32) (a : Int32) (x : Int32) : Wr l yX1_piece wsX1_piece ({ frames := 5, cells := 0, slots := 0, locals := 115 }) [.ref (ρ 0), .int a, .int x] (XB D cI cZ ρ ts σ κ mk qu) (some (.int (pieceR σ a x))) (XS D cI ρ σ κ) (xA 7 ρ) := by
  refine met_in RX1 (by decide) rfl rfl (Nat.le_of_ble_eq_true rfl) ?_
  intro p e s m below meth c ls S hr hlocks hl hB
  have hx := S.1
  have hb := S.2.1
  have hml := S.2.2.1
  have hown := S.2.2.2.1
  have hts := S.2.2.2.2
  have hl : lv_has ls 5 [(0, .ref (ρ 0)), (1, .int a), (2, .int x)] := hl
  obtain ⟨⟨held, hRel, hP⟩, hXK⟩ := hB
  have hK := hXK.1
  have hS : va_S (xA 7 ρ) s.heap s.heap [] := va_S.rf
  refine lv_iload_n hx hb dX1_piece_0 rfl (lv_at hl 1 rfl) ?_
  refine rd_S S hl (c_X1_isSlot l a) HB.tt gX1_piece_X1_isSlot rfl nf_X1_isSlot rfl rfl dX1_piece_1  (fun _ _ _ => trivial) ?_
  refine nv_ifz_ne (tgt := 9) hx hb dX1_piece_4 (by decide) (fun c_4 => ?_) (fun c_4 => ?_)
  ·
    obtain ⟨sl, hsl, hxsl⟩ := wI_nat c_4 (by decide)
    subst hxsl
    have hcsl : (nI sl).toNatClampNeg = sl := nI_clamp (by omega)
    refine lv_iload_n hx hb dX1_piece_9 rfl (lv_at hl 2 rfl) ?_
    refine rd_S S hl (c_X1_isKey l x) HB.tt gX1_piece_X1_isKey rfl nf_X1_isKey rfl rfl dX1_piece_10  (fun _ _ _ => trivial) ?_
    refine nv_ifz_ne (tgt := 19) hx hb dX1_piece_13 (by decide) (fun c_13 => ?_) (fun c_13 => ?_)
    ·
      obtain ⟨k, hk, hxk⟩ := wI_nat c_13 (by decide)
      subst hxk
      have hck : (nI k).toNatClampNeg = k := nI_clamp (by omega)
      refine lv_aload_n hx hb dX1_piece_19 rfl (lv_at hl 0 rfl) ?_
      refine lv_iload_n hx hb dX1_piece_20 rfl (lv_at hl 1 rfl) ?_
      refine lv_iload_n hx hb dX1_piece_21 rfl (lv_at hl 2 rfl) ?_
      refine rd_V S hl (c_X1_holds l D cI cZ ρ ts σ κ mk qu sl (some k) (by omega) (by exact fun j h => by first | exact nbo_lt h | (cases h <;> omega))) XB.hb gX1_piece_X1_holds rfl rfl nf_X1_holds rfl rfl dX1_piece_22 (XP.rc0 hXK hP) (XB.at hXK hS ⟨held, hRel, hP⟩) ?_
      refine nv_as (bI (σ sl k)) rfl ?_
      refine nv_ifz_ne (tgt := 31) hx hb dX1_piece_25 (by decide) (fun c_25 => ?_) (fun c_25 => ?_)
      ·
        refine lv_aload_n hx hb dX1_piece_31 rfl (lv_at hl 0 rfl) ?_
        refine va_get (D := D) (ci := 1) (v := .ref (ρ 3)) (C := RX1) (T := TX1) (N := 5) hx hb hts (by decide +kernel) hown hK hP 0 rfl rfl 3 (by decide) (hts (.fieldLink RX1 24 "SevenKeys" "marks" "[I") (by decide +kernel)) (fun _ h9 => h9) rfl dX1_piece_32 ?_
        refine lv_iconst (v := nI 0) hx hb dX1_piece_35 (by decide) ?_
        refine wr_S S hl (c_J7_fill_53178 l D cI cZ (ρ 3) 2401 mk (nI 0) (by decide)) FB.hb gX1_piece_J7_fill_53178 rfl nf_J7_fill_53178 rfl rfl dX1_piece_36  (FB.at hK hP 3 rfl) hS (fun q h => ⟨3, by omega, h⟩) (fun H locs hPP hS _ hkp => ?_)
        have hP : va_P D vwCl (xW cI ρ held κ (fun _ => nI 0) qu) H := xfill hXK.2.1 hP hPP hkp
        refine W.eq (g2 := F0 m 39 ls []) rfl ?_
        refine lv_iconst (v := nI 0) hx hb dX1_piece_39 (by decide) ?_
        refine lv_istore_n (lv' := [(3, .int (nI 0)), (0, .ref (ρ 0)), (1, .int (nI sl)), (2, .int (nI k))]) hx hb dX1_piece_40 rfl hl (by decide) rfl (fun ls hl => ?_)
        refine lv_iconst (v := nI 0) hx hb dX1_piece_41 (by decide) ?_
        refine lv_istore (lv' := [(4, .int (nI 0)), (3, .int (nI 0)), (0, .ref (ρ 0)), (1, .int (nI sl)), (2, .int (nI k))]) hx hb dX1_piece_42 hl (by decide) rfl (fun ls hl => ?_)
        have loop_44 : ∀ (n : Nat) (i : Nat) (m1 : Nat → Int32) (q1 : Nat → Int32), (i ≤ k) → (∀ k, k < 2401 → m1 k = nI ((lay (σ sl) i).1.1 k)) → ((lay (σ sl) i).1.1 k = 0) → k - i < n → ∀ (x3 x4 : Int32), x3 = nI ((lay (σ sl) i).2.1) → x4 = nI i → ∀ (H : Heap) (locs : List Loc), va_S (xA 7 ρ) s.heap H locs → XP D cI ρ σ κ m1 q1 H → ∀ ls : Array Slot, lv_has ls 5 [(0, .ref (ρ 0)), (1, .int (nI sl)), (2, .int (nI k)), (3, .int x3), (4, .int x4)] → W p l e (headSpec wsX1_piece ({ frames := 5, cells := 0, slots := 0, locals := 115 })).room s m [.ref (ρ 0), .int (nI sl), .int (nI k)].toArray below meth c H locs 0 0 (MQ below (qW (some (.int (pieceR σ (nI sl) (nI k)))) (XS D cI ρ σ κ) (xA 7 ρ)) [.ref (ρ 0), .int (nI sl), .int (nI k)].toArray s 0 0 (xA 7 ρ)) (F0 m 44 ls []) := by
          intro n
          induction n with
          | zero => intro i m1 q1 hi hm hnk hm; exact absurd hm (Nat.not_lt_zero _)
          | succ n ih_44 =>
            intro i m1 q1 hi hm hnk hm_44 x3 x4 e3 e4 H locs hS hPP ls hl
            subst e3
            subst e4
            obtain ⟨held, hRel, hP⟩ := hPP
            refine lv_iload hx hb dX1_piece_44 (lv_at hl 4 rfl) ?_
            refine lv_iload_n hx hb dX1_piece_46 rfl (lv_at hl 2 rfl) ?_
            refine nv_icmp_ge (tgt := 87) hx hb dX1_piece_47 (by decide) (by omega) (by omega) (fun c_47 => ?_) (fun c_47 => ?_)
            ·
              refine lv_iload_n hx hb dX1_piece_87 rfl (lv_at hl 3 rfl) ?_
              have hik : i = k := by omega
              subst hik
              have hpc := lay_piece (by omega) ⟨c_25, hnk⟩ hnk flood_seed.1
              exact ret_wi hx hb hr hlocks dX1_piece_88 hS (⟨_, _, held, hRel, hP⟩) (by simp [pieceR, gs, c_4, c_13, hcsl, hck, c_25, hpc.2])
            ·
              refine lv_aload_n hx hb dX1_piece_50 rfl (lv_at hl 0 rfl) ?_
              refine lv_iload_n hx hb dX1_piece_51 rfl (lv_at hl 1 rfl) ?_
              refine lv_iload hx hb dX1_piece_52 (lv_at hl 4 rfl) ?_
              have hlo := lay_ok (A := σ sl) (i := i) (by omega)
              have hbl : (lay (σ sl) i).1.1 i < 2 ^ 31 := Nat.lt_of_le_of_lt (hlo.1 i) (Nat.lt_of_le_of_lt (ctL_le _) (by decide))
              refine rd_V S hl (c_X1_startsPiece l D cI cZ ρ ts σ κ m1 q1 sl (some i) (by omega) (by exact fun j h => by first | exact nbo_lt h | (cases h <;> omega))) XB.hb gX1_piece_X1_startsPiece rfl rfl nf_X1_startsPiece rfl rfl dX1_piece_54 (XP.rc0 hXK hP) (XB.at hXK hS ⟨held, hRel, hP⟩) ?_
              refine nv_ifz_eq (tgt := 81) hx hb dX1_piece_57 (by decide) (fun c_57 => ?_) (fun c_57 => ?_)
              ·
                have hE := lay_f (st_f (hm i (by omega)) hbl c_57)
                refine lv_iinc (v := nI (i + 1)) (lv' := [(4, .int (nI (i + 1))), (0, .ref (ρ 0)), (1, .int (nI sl)), (2, .int (nI k)), (3, .int (nI ((lay (σ sl) i).2.1)))]) hx hb dX1_piece_81 hl (k := 4) rfl (inc_nI _) (by decide) rfl (fun ls hl => ?_)
                refine lv_goto (tgt := 44) hx hb dX1_piece_84 (by decide) ?_
                exact ih_44 (i + 1) m1 q1 (by omega) (by first | (rw [hE]; exact hm) | (rw [hE]; exact hrX_64.1)) (by first | (rw [hE]; exact hnk) | (rw [hE]; exact hk0)) (by omega) _ _ (by rw [hE]) (by first | rfl | exact congrArg nI (by omega)) _ _ hS ⟨held, hRel, hP⟩ _ (lv_sub hl [1, 2, 3, 4, 0] rfl)
              ·
                have hst := st_t (hm i (by omega)) hbl c_57
                have hE := lay_t hst
                refine lv_aload_n hx hb dX1_piece_60 rfl (lv_at hl 0 rfl) ?_
                refine lv_iload_n hx hb dX1_piece_61 rfl (lv_at hl 1 rfl) ?_
                refine lv_iload hx hb dX1_piece_62 (lv_at hl 4 rfl) ?_
                refine wr_V S hl (c_X1_flood l D cI cZ ρ ts σ κ m1 q1 sl ((lay (σ sl) i).2.1) ((lay (σ sl) i).1.1) ((lay (σ sl) i).1.2.1) ((lay (σ sl) i).1.2.2.1) i (by omega) (by exact hm) (by exact hlo.1) (by exact hst.2) (by omega)) XB.hb gX1_piece_X1_flood rfl rfl nf_X1_flood rfl rfl dX1_piece_64 (XP.rc0 hXK hP) (XB.at hXK hS ⟨held, hRel, hP⟩) hS (fun _ h => h) (fun H locs hPP hS _ hkp => ?_)
                obtain ⟨m_64, q_64, hrX_64, held, hRel, hP⟩ := hPP
                refine W.eq (g2 := F0 m 67 ls [.int (nI ((flood (σ sl) ((lay (σ sl) i).2.1) ((lay (σ sl) i).1.1) ((lay (σ sl) i).1.2.1) ((lay (σ sl) i).1.2.2.1) i).2.2.2))]) rfl ?_
                refine lv_pop hx hb dX1_piece_67 rfl ?_
                refine lv_aload_n hx hb dX1_piece_68 rfl (lv_at hl 0 rfl) ?_
                refine lv_iload_n hx hb dX1_piece_69 rfl (lv_at hl 2 rfl) ?_
                have hwf := wf_flood (A := σ sl) (pn := (lay (σ sl) i).2.1) (pc := (lay (σ sl) i).1.2.1) (q := (lay (σ sl) i).1.2.2.1) (by omega) hst.2 hlo.1
                have hmk : mkd m_64 (some k) = decide ((lyF (σ sl) i).1 k ≠ 0) := mkd_n (hrX_64.1 k (by omega)) (Nat.lt_of_le_of_lt (hwf.lab k) (by decide))
                refine rd_V S hl (c_X1_isMarked l D cI cZ ρ ts σ κ m_64 q_64 (some k) (by exact fun j h => by first | exact nbo_lt h | (cases h <;> omega))) XB.hb gX1_piece_X1_isMarked rfl rfl nf_X1_isMarked rfl rfl dX1_piece_70 (XP.rc0 hXK hP) (XB.at hXK hS ⟨held, hRel, hP⟩) ?_
                refine nv_ifz_eq (tgt := 78) hx hb dX1_piece_73 (by decide) (fun c_73 => ?_) (fun c_73 => ?_)
                ·
                  have hk0 : (lyF (σ sl) i).1 k = 0 := by have q := hmk.symm.trans c_73; simpa using q
                  refine lv_iinc (v := nI ((lay (σ sl) i).2.1 + 1)) (lv' := [(3, .int (nI ((lay (σ sl) i).2.1 + 1))), (0, .ref (ρ 0)), (1, .int (nI sl)), (2, .int (nI k)), (4, .int (nI i))]) hx hb dX1_piece_78 hl (k := 3) rfl (inc_nI _) (by decide) rfl (fun ls hl => ?_)
                  refine lv_iinc (v := nI (i + 1)) (lv' := [(4, .int (nI (i + 1))), (3, .int (nI ((lay (σ sl) i).2.1 + 1))), (0, .ref (ρ 0)), (1, .int (nI sl)), (2, .int (nI k))]) hx hb dX1_piece_81 hl (k := 4) rfl (inc_nI _) (by decide) rfl (fun ls hl => ?_)
                  refine lv_goto (tgt := 44) hx hb dX1_piece_84 (by decide) ?_
                  exact ih_44 (i + 1) m_64 q_64 (by omega) (by first | (rw [hE]; exact hm) | (rw [hE]; exact hrX_64.1)) (by first | (rw [hE]; exact hnk) | (rw [hE]; exact hk0)) (by omega) _ _ (by rw [hE]) (by first | rfl | exact congrArg nI (by omega)) _ _ hS ⟨held, hRel, hP⟩ _ (lv_sub hl [2, 3, 4, 1, 0] rfl)
                ·
                  have hk1 : (lyF (σ sl) i).1 k ≠ 0 := by have q := hmk.symm.trans c_73; simpa using q
                  refine lv_iload_n hx hb dX1_piece_76 rfl (lv_at hl 3 rfl) ?_
                  have hpc := lay_piece (by omega) hst hnk hk1
                  exact ret_wi hx hb hr hlocks dX1_piece_77 hS (⟨_, _, held, hRel, hP⟩) (by simp [pieceR, gs, c_4, c_13, hcsl, hck, c_25, hpc.2])
        exact loop_44 (k - 0 + 1) 0 (fun _ => nI 0) qu (by omega) (by exact fun _ _ => rfl) (by rfl) (Nat.lt_succ_self _) _ _ (by rfl) rfl _ _ hS ⟨held, hRel, hP⟩ _ (lv_sub hl [2, 3, 4, 1, 0] rfl)
      ·
        refine lv_bipush (v := (-6)) hx hb dX1_piece_28 (by decide) ?_
        exact ret_wi hx hb hr hlocks dX1_piece_30 hS (⟨_, _, held, hRel, hP⟩) (by first | (simp [pieceR, gd, gs, c_4, c_13, hcsl, hck, c_25]; done) | (simp [pieceR, gd, gs, c_4, c_13, hcsl, hck]; done) | (simp [pieceR, gd, gs, c_4, c_13, hcsl]; done) | (simp [pieceR, gd, gs, c_4, c_13]; done) | (simp [pieceR, gd, gs, c_4]; done))
    ·
      refine lv_bipush (v := (-2)) hx hb dX1_piece_16 (by decide) ?_
      exact ret_wi hx hb hr hlocks dX1_piece_18 hS (⟨_, _, held, hRel, hP⟩) (by first | (simp [pieceR, gd, gs, c_4, c_13, c_25]; done) | (simp [pieceR, gd, gs, c_4, c_13]; done) | (simp [pieceR, gd, gs, c_4]; done))
  ·
    refine lv_iconst (v := (-1)) hx hb dX1_piece_7 (by decide) ?_
    exact ret_wi hx hb hr hlocks dX1_piece_8 hS (⟨_, _, held, hRel, hP⟩) (by first | (simp [pieceR, gd, gs, c_4, c_13, c_25]; done) | (simp [pieceR, gd, gs, c_4, c_13]; done) | (simp [pieceR, gd, gs, c_4]; done))
theorem nf_X1_way : nfOk yX1_way 3 := by unfold nfOk; decide +kernel
set_option maxHeartbeats 4000000 in
set_option maxRecDepth 100000 in
theorem c_X1_way (l : Launch) (D : va_G) (cI cZ : ClassId) (ρ : Nat → Nat) (ts : Nat) (σ : Nat → Nat → Bool) (κ : Int32) (mk : Nat → Int32) (qu : Nat → Int32) (a : Int32) (x : Int32) (y : Int32) : Wr l yX1_way wsX1_way ({ frames := 5, cells := 0, slots := 0, locals := 115 }) [.ref (ρ 0), .int a, .int x, .int y] (XB D cI cZ ρ ts σ κ mk qu) (some (.int (wayR σ a x y))) (XS D cI ρ σ κ) (xA 7 ρ) := by
  refine met_in RX1 (by decide) rfl rfl (Nat.le_of_ble_eq_true rfl) ?_
  intro p e s m below meth c ls S hr hlocks hl hB
  have hx := S.1
  have hb := S.2.1
  have hml := S.2.2.1
  have hown := S.2.2.2.1
  have hts := S.2.2.2.2
  have hl : lv_has ls 4 [(0, .ref (ρ 0)), (1, .int a), (2, .int x), (3, .int y)] := hl
  obtain ⟨⟨held, hRel, hP⟩, hXK⟩ := hB
  have hK := hXK.1
  have hS : va_S (xA 7 ρ) s.heap s.heap [] := va_S.rf
  refine lv_iload_n hx hb dX1_way_0 rfl (lv_at hl 1 rfl) ?_
  refine rd_S S hl (c_X1_isSlot l a) HB.tt gX1_way_X1_isSlot rfl nf_X1_isSlot rfl rfl dX1_way_1  (fun _ _ _ => trivial) ?_
  refine nv_ifz_ne (tgt := 9) hx hb dX1_way_4 (by decide) (fun c_4 => ?_) (fun c_4 => ?_)
  ·
    obtain ⟨sl, hsl, hxsl⟩ := wI_nat c_4 (by decide)
    subst hxsl
    have hcsl : (nI sl).toNatClampNeg = sl := nI_clamp (by omega)
    refine lv_iload_n hx hb dX1_way_9 rfl (lv_at hl 2 rfl) ?_
    refine rd_S S hl (c_X1_isKey l x) HB.tt gX1_way_X1_isKey rfl nf_X1_isKey rfl rfl dX1_way_10  (fun _ _ _ => trivial) ?_
    refine nv_ifz_eq (tgt := 23) hx hb dX1_way_13 (by decide) (fun c_13 => ?_) (fun c_13 => ?_)
    ·
      refine lv_bipush (v := (-2)) hx hb dX1_way_23 (by decide) ?_
      exact ret_wi hx hb hr hlocks dX1_way_25 hS (⟨_, _, held, hRel, hP⟩) (by first | (simp [wayR, gd, gs, c_4, c_13, c_20]; done) | (simp [wayR, gd, gs, c_4, c_13]; done) | (simp [wayR, gd, gs, c_4]; done))
    ·
      obtain ⟨j, hj, hxj⟩ := wI_nat c_13 (by decide)
      subst hxj
      have hcj : (nI j).toNatClampNeg = j := nI_clamp (by omega)
      refine lv_iload_n hx hb dX1_way_16 rfl (lv_at hl 3 rfl) ?_
      refine rd_S S hl (c_X1_isKey l y) HB.tt gX1_way_X1_isKey rfl nf_X1_isKey rfl rfl dX1_way_17  (fun _ _ _ => trivial) ?_
      refine nv_ifz_ne (tgt := 26) hx hb dX1_way_20 (by decide) (fun c_20 => ?_) (fun c_20 => ?_)
      ·
        obtain ⟨k, hk, hxk⟩ := wI_nat c_20 (by decide)
        subst hxk
        have hck : (nI k).toNatClampNeg = k := nI_clamp (by omega)
        refine lv_aload_n hx hb dX1_way_26 rfl (lv_at hl 0 rfl) ?_
        refine lv_iload_n hx hb dX1_way_27 rfl (lv_at hl 1 rfl) ?_
        refine lv_iload_n hx hb dX1_way_28 rfl (lv_at hl 2 rfl) ?_
        refine rd_V S hl (c_X1_holds l D cI cZ ρ ts σ κ mk qu sl (some j) (by omega) (by exact fun j h => by first | exact nbo_lt h | (cases h <;> omega))) XB.hb gX1_way_X1_holds rfl rfl nf_X1_holds rfl rfl dX1_way_29 (XP.rc0 hXK hP) (XB.at hXK hS ⟨held, hRel, hP⟩) ?_
        refine nv_as (bI (σ sl j)) rfl ?_
        refine nv_ifz_eq (tgt := 44) hx hb dX1_way_32 (by decide) (fun c_32 => ?_) (fun c_32 => ?_)
        ·
          refine lv_bipush (v := (-6)) hx hb dX1_way_44 (by decide) ?_
          exact ret_wi hx hb hr hlocks dX1_way_46 hS (⟨_, _, held, hRel, hP⟩) (by first | (simp [wayR, gs, c_4, c_13, c_20, hcsl, hcj, hck, c_32, c_41]; done) | (simp [wayR, gs, c_4, c_13, c_20, hcsl, hcj, hck, c_32]; done))
        ·
          refine lv_aload_n hx hb dX1_way_35 rfl (lv_at hl 0 rfl) ?_
          refine lv_iload_n hx hb dX1_way_36 rfl (lv_at hl 1 rfl) ?_
          refine lv_iload_n hx hb dX1_way_37 rfl (lv_at hl 3 rfl) ?_
          refine rd_V S hl (c_X1_holds l D cI cZ ρ ts σ κ mk qu sl (some k) (by omega) (by exact fun j h => by first | exact nbo_lt h | (cases h <;> omega))) XB.hb gX1_way_X1_holds rfl rfl nf_X1_holds rfl rfl dX1_way_38 (XP.rc0 hXK hP) (XB.at hXK hS ⟨held, hRel, hP⟩) ?_
          refine nv_as (bI (σ sl k)) rfl ?_
          refine nv_ifz_ne (tgt := 47) hx hb dX1_way_41 (by decide) (fun c_41 => ?_) (fun c_41 => ?_)
          ·
            refine lv_aload_n hx hb dX1_way_47 rfl (lv_at hl 0 rfl) ?_
            refine va_get (D := D) (ci := 1) (v := .ref (ρ 3)) (C := RX1) (T := TX1) (N := 5) hx hb hts (by decide +kernel) hown hK hP 0 rfl rfl 3 (by decide) (hts (.fieldLink RX1 24 "SevenKeys" "marks" "[I") (by decide +kernel)) (fun _ h9 => h9) rfl dX1_way_48 ?_
            refine lv_iconst (v := nI 0) hx hb dX1_way_51 (by decide) ?_
            refine wr_S S hl (c_J7_fill_53178 l D cI cZ (ρ 3) 2401 mk (nI 0) (by decide)) FB.hb gX1_way_J7_fill_53178 rfl nf_J7_fill_53178 rfl rfl dX1_way_52  (FB.at hK hP 3 rfl) hS (fun q h => ⟨3, by omega, h⟩) (fun H locs hPP hS _ hkp => ?_)
            have hP : va_P D vwCl (xW cI ρ held κ (fun _ => nI 0) qu) H := xfill hXK.2.1 hP hPP hkp
            refine W.eq (g2 := F0 m 55 ls []) rfl ?_
            refine lv_aload_n hx hb dX1_way_55 rfl (lv_at hl 0 rfl) ?_
            refine lv_iload_n hx hb dX1_way_56 rfl (lv_at hl 1 rfl) ?_
            refine lv_iload_n hx hb dX1_way_57 rfl (lv_at hl 2 rfl) ?_
            refine wr_V S hl (c_X1_flood l D cI cZ ρ ts σ κ (fun _ => nI 0) qu sl 0 (fun _ => 0) (fun _ => 0) (fun _ => 0) j (by omega) (by exact fun _ _ => rfl) (by exact fun _ => Nat.zero_le _) (by rfl) (by omega)) XB.hb gX1_way_X1_flood rfl rfl nf_X1_flood rfl rfl dX1_way_58 (XP.rc0 hXK hP) (XB.at hXK hS ⟨held, hRel, hP⟩) hS (fun _ h => h) (fun H locs hPP hS _ hkp => ?_)
            obtain ⟨m_58, q_58, hrX_58, held, hRel, hP⟩ := hPP
            refine W.eq (g2 := F0 m 61 ls [.int (nI ((flood (σ sl) 0 (fun _ => 0) (fun _ => 0) (fun _ => 0) j).2.2.2))]) rfl ?_
            refine lv_pop hx hb dX1_way_61 rfl ?_
            refine lv_aload_n hx hb dX1_way_62 rfl (lv_at hl 0 rfl) ?_
            refine lv_iload_n hx hb dX1_way_63 rfl (lv_at hl 3 rfl) ?_
            have hwf := wf_flood (A := σ sl) (pn := 0) (lab := fun _ => 0) (pc := fun _ => 0) (q := fun _ => 0) (seed := j) (by omega) rfl (fun _ => Nat.zero_le _)
            have hmv := hrX_58.1 k (by omega)
            have hlk := hwf.lab k
            have hmk : mkd m_58 (some k) = decide ((fl1 (σ sl) j).1 k ≠ 0) := mkd_n hmv (Nat.lt_of_le_of_lt hlk (by decide))
            refine rd_V S hl (c_X1_isMarked l D cI cZ ρ ts σ κ m_58 q_58 (some k) (by exact fun j h => by first | exact nbo_lt h | (cases h <;> omega))) XB.hb gX1_way_X1_isMarked rfl rfl nf_X1_isMarked rfl rfl dX1_way_64 (XP.rc0 hXK hP) (XB.at hXK hS ⟨held, hRel, hP⟩) ?_
            refine nv_ifz_eq (tgt := 83) hx hb dX1_way_67 (by decide) (fun c_67 => ?_) (fun c_67 => ?_)
            ·
              have hk0 : (fl1 (σ sl) j).1 k = 0 := by have q := hmk.symm.trans c_67; simpa using q
              refine lv_bipush (v := (-6)) hx hb dX1_way_83 (by decide) ?_
              exact ret_wi hx hb hr hlocks dX1_way_85 hS (⟨_, _, held, hRel, hP⟩) (by simp [wayR, gs, c_4, c_13, c_20, hcsl, hcj, hck, c_32, c_41, hk0])
            ·
              have hk0 : (fl1 (σ sl) j).1 k ≠ 0 := by have q := hmk.symm.trans c_67; simpa using q
              refine lv_aload_n hx hb dX1_way_70 rfl (lv_at hl 0 rfl) ?_
              refine va_get (D := D) (ci := 1) (v := .ref (ρ 3)) (C := RX1) (T := TX1) (N := 5) hx hb hts (by decide +kernel) hown hK hP 0 rfl rfl 3 (by decide) (hts (.fieldLink RX1 24 "SevenKeys" "marks" "[I") (by decide +kernel)) (fun _ h9 => h9) rfl dX1_way_71 ?_
              refine lv_iload_n hx hb dX1_way_74 rfl (lv_at hl 3 rfl) ?_
              refine rd_S S hl (c_X1_valueAt l (ρ 3) 2401 m_58 (nI k) (by decide)) TB_hb gX1_way_X1_valueAt rfl nf_X1_valueAt rfl rfl dX1_way_75  (TB_P hK hP 3 rfl (by decide)) ?_
              refine nv_as (nI ((fl1 (σ sl) j).1 k)) (by rw [vAt_in (by omega) (by decide)]; exact hmv) ?_
              refine lv_iconst (v := nI 1) hx hb dX1_way_78 (by decide) ?_
              refine lv_isub hx hb dX1_way_79 ?_
              refine nv_as (nI ((fl1 (σ sl) j).1 k - 1)) (by exact pk_sub (Nat.pos_of_ne_zero hk0)) ?_
              refine lv_goto (tgt := 85) hx hb dX1_way_80 (by decide) ?_
              exact ret_wi hx hb hr hlocks dX1_way_85 hS (⟨_, _, held, hRel, hP⟩) (by simp [wayR, gs, c_4, c_13, c_20, hcsl, hcj, hck, c_32, c_41, hk0])
          ·
            refine lv_bipush (v := (-6)) hx hb dX1_way_44 (by decide) ?_
            exact ret_wi hx hb hr hlocks dX1_way_46 hS (⟨_, _, held, hRel, hP⟩) (by first | (simp [wayR, gs, c_4, c_13, c_20, hcsl, hcj, hck, c_32, c_41]; done) | (simp [wayR, gs, c_4, c_13, c_20, hcsl, hcj, hck, c_32]; done))
      ·
        refine lv_bipush (v := (-2)) hx hb dX1_way_23 (by decide) ?_
        exact ret_wi hx hb hr hlocks dX1_way_25 hS (⟨_, _, held, hRel, hP⟩) (by first | (simp [wayR, gd, gs, c_4, c_13, c_20]; done) | (simp [wayR, gd, gs, c_4, c_13]; done) | (simp [wayR, gd, gs, c_4]; done))
  ·
    refine lv_iconst (v := (-1)) hx hb dX1_way_7 (by decide) ?_
    exact ret_wi hx hb hr hlocks dX1_way_8 hS (⟨_, _, held, hRel, hP⟩) (by first | (simp [wayR, gd, gs, c_4, c_13, c_20]; done) | (simp [wayR, gd, gs, c_4, c_13]; done) | (simp [wayR, gd, gs, c_4]; done))
