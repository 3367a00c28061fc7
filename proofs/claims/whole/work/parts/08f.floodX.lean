theorem nf_X1_isMarked : nfOk yX1_isMarked 1 := by unfold nfOk; decide +kernel
set_option maxHeartbeats 4000000 in
set_option maxRecDepth 100000 in
theorem c_X1_isMarked (l : Launch) (D : va_G) (cI cZ : ClassId) (ρ : Nat → Nat) (ts : Nat) (σ : Nat → Nat → Bool) (κ : Int32) (mk : Nat → Int32) (qu : Nat → Int32) (o : Option Nat) (ho : ∀ j, o = some j → j < 2401) : Rd l yX1_isMarked wsX1_isMarked ({ frames := 1, cells := 0, slots := 0, locals := 21 }) [.ref (ρ 0), .int (oI o)] (XB D cI cZ ρ ts σ κ mk qu) (bI (mkd mk o)) := by
  refine met_in RX1 (by decide) rfl rfl (Nat.le_of_ble_eq_true rfl) ?_
  intro p e s m below meth c ls S hr hlocks hl hB
  have hx := S.1
  have hb := S.2.1
  have hml := S.2.2.1
  have hown := S.2.2.2.1
  have hts := S.2.2.2.2
  have hl : lv_has ls 2 [(0, .ref (ρ 0)), (1, .int (oI o))] := hl
  obtain ⟨⟨held, hRel, hP⟩, hXK⟩ := hB
  have hK := hXK.1
  have hS : va_S (xA 7 ρ) s.heap s.heap [] := va_S.rf
  refine lv_aload_n hx hb dX1_isMarked_0 rfl (lv_at hl 0 rfl) ?_
  refine va_get (D := D) (ci := 1) (v := .ref (ρ 3)) (C := RX1) (T := TX1) (N := 5) hx hb hts (by decide +kernel) hown hK hP 0 rfl rfl 3 (by decide) (hts (.fieldLink RX1 24 "SevenKeys" "marks" "[I") (by decide +kernel)) (fun _ h9 => h9) rfl dX1_isMarked_1 ?_
  refine lv_iload_n hx hb dX1_isMarked_4 rfl (lv_at hl 1 rfl) ?_
  refine rd_S S hl (c_X1_valueAt l (ρ 3) 2401 mk (oI o) (by decide)) TB_hb gX1_isMarked_X1_valueAt rfl nf_X1_valueAt rfl rfl dX1_isMarked_5  (TB_P hK hP 3 rfl (by decide)) ?_
  refine nv_as (vO mk o) (by exact vAt_o ho) ?_
  refine lv_if_le (tgt := 15) hx hb dX1_isMarked_8 (by decide) (fun c_8 => ?_) (fun c_8 => ?_)
  ·
    refine lv_iconst (v := nI 0) hx hb dX1_isMarked_15 (by decide) ?_
    exact ret_z hx hb hr hlocks dX1_isMarked_16 (by first | (show bI true = _; exact congrArg bI (decide_eq_true (Int32.not_le.mp c_8)).symm) | (show bI false = _; exact congrArg bI (decide_eq_false (Int32.not_lt.mpr c_8)).symm))
  ·
    refine lv_iconst (v := nI 1) hx hb dX1_isMarked_11 (by decide) ?_
    refine lv_goto (tgt := 16) hx hb dX1_isMarked_12 (by decide) ?_
    exact ret_z hx hb hr hlocks dX1_isMarked_16 (by first | (show bI true = _; exact congrArg bI (decide_eq_true (Int32.not_le.mp c_8)).symm) | (show bI false = _; exact congrArg bI (decide_eq_false (Int32.not_lt.mpr c_8)).symm))
theorem nf_X1_mark : nfOk yX1_mark 2 := by unfold nfOk; decide +kernel
set_option maxHeartbeats 4000000 in
set_option maxRecDepth 100000 in
theorem c_X1_mark (l : Launch) (D : va_G) (cI cZ : ClassId) (ρ : Nat → Nat) (ts : Nat) (σ : Nat → Nat → Bool) (κ : Int32) (mk : Nat → Int32) (qu : Nat → Int32) (k : Nat) (v : Int32) (hk : k < 2401) : Wr l yX1_mark wsX1_mark ({ frames := 0, cells := 0, slots := 0, locals := 0 }) [.ref (ρ 0), .int (nI k), .int v] (XB D cI cZ ρ ts σ κ mk qu) none (XP D cI ρ σ κ (upd mk k v) qu) (xA 7 ρ) := by
  refine met_in RX1 (by decide) rfl rfl (Nat.le_of_ble_eq_true rfl) ?_
  intro p e s m below meth c ls S hr hlocks hl hB
  have hx := S.1
  have hb := S.2.1
  have hml := S.2.2.1
  have hown := S.2.2.2.1
  have hts := S.2.2.2.2
  have hl : lv_has ls 3 [(0, .ref (ρ 0)), (1, .int (nI k)), (2, .int v)] := hl
  obtain ⟨⟨held, hRel, hP⟩, hXK⟩ := hB
  have hK := hXK.1
  have hS : va_S (xA 7 ρ) s.heap s.heap [] := va_S.rf
  refine lv_iconst (v := nI 0) hx hb dX1_mark_0 (by decide) ?_
  refine lv_iload_n hx hb dX1_mark_1 rfl (lv_at hl 1 rfl) ?_
  refine nv_icmp_gt (tgt := 21) hx hb dX1_mark_2 (by decide) (by omega) (by omega) (fun c_2 => ?_) (fun c_2 => ?_)
  ·
    omega
  ·
    refine lv_iload_n hx hb dX1_mark_5 rfl (lv_at hl 1 rfl) ?_
    refine lv_aload_n hx hb dX1_mark_6 rfl (lv_at hl 0 rfl) ?_
    refine va_get (D := D) (ci := 1) (v := .ref (ρ 3)) (C := RX1) (T := TX1) (N := 5) hx hb hts (by decide +kernel) hown hK hP 0 rfl rfl 3 (by decide) (hts (.fieldLink RX1 24 "SevenKeys" "marks" "[I") (by decide +kernel)) (fun _ h9 => h9) rfl dX1_mark_7 ?_
    refine va_alen hx hb hK hP 3 0 rfl rfl (v := nI 2401) rfl dX1_mark_10 ?_
    refine nv_icmp_ge (tgt := 21) hx hb dX1_mark_11 (by decide) (by omega) (by omega) (fun c_11 => ?_) (fun c_11 => ?_)
    ·
      omega
    ·
      refine lv_aload_n hx hb dX1_mark_14 rfl (lv_at hl 0 rfl) ?_
      refine va_get (D := D) (ci := 1) (v := .ref (ρ 3)) (C := RX1) (T := TX1) (N := 5) hx hb hts (by decide +kernel) hown hK hP 0 rfl rfl 3 (by decide) (hts (.fieldLink RX1 24 "SevenKeys" "marks" "[I") (by decide +kernel)) (fun _ h9 => h9) rfl dX1_mark_15 ?_
      refine lv_iload_n hx hb dX1_mark_18 rfl (lv_at hl 1 rfl) ?_
      refine lv_iload_n hx hb dX1_mark_19 rfl (lv_at hl 2 rfl) ?_
      refine nv_iast hx hb hK hP hXK.D hS 3 0 rfl rfl (by omega) (by decide) dX1_mark_20 (fun H locs hP hS => ?_)
      have hP : va_P D vwCl (xW cI ρ held κ (upd mk k v) qu) H := hP
      exact ret_wv hx hb hr hlocks dX1_mark_21 hS (⟨held, hRel, hP⟩)
theorem nf_X1_startsPiece : nfOk yX1_startsPiece 2 := by unfold nfOk; decide +kernel
set_option maxHeartbeats 4000000 in
set_option maxRecDepth 100000 in
theorem c_X1_startsPiece (l : Launch) (D : va_G) (cI cZ : ClassId) (ρ : Nat → Nat) (ts : Nat) (σ : Nat → Nat → Bool) (κ : Int32) (mk : Nat → Int32) (qu : Nat → Int32) (sl : Nat) (o : Option Nat) (hsl : sl < 4) (ho : ∀ j, o = some j → j < 2401) : Rd l yX1_startsPiece wsX1_startsPiece ({ frames := 2, cells := 0, slots := 0, locals := 42 }) [.ref (ρ 0), .int (nI sl), .int (oI o)] (XB D cI cZ ρ ts σ κ mk qu) (bI (inS (σ sl) o && !mkd mk o)) := by
  refine met_in RX1 (by decide) rfl rfl (Nat.le_of_ble_eq_true rfl) ?_
  intro p e s m below meth c ls S hr hlocks hl hB
  have hx := S.1
  have hb := S.2.1
  have hml := S.2.2.1
  have hown := S.2.2.2.1
  have hts := S.2.2.2.2
  have hl : lv_has ls 3 [(0, .ref (ρ 0)), (1, .int (nI sl)), (2, .int (oI o))] := hl
  obtain ⟨⟨held, hRel, hP⟩, hXK⟩ := hB
  have hK := hXK.1
  have hS : va_S (xA 7 ρ) s.heap s.heap [] := va_S.rf
  refine lv_aload_n hx hb dX1_startsPiece_0 rfl (lv_at hl 0 rfl) ?_
  refine lv_iload_n hx hb dX1_startsPiece_1 rfl (lv_at hl 1 rfl) ?_
  refine lv_iload_n hx hb dX1_startsPiece_2 rfl (lv_at hl 2 rfl) ?_
  refine rd_V S hl (c_X1_holds l D cI cZ ρ ts σ κ mk qu sl o (by omega) (by exact ho)) XB.hb gX1_startsPiece_X1_holds rfl rfl nf_X1_holds rfl rfl dX1_startsPiece_3 (XP.rc0 hXK hP) (XB.at hXK hS ⟨held, hRel, hP⟩) ?_
  refine nv_ifz_eq (tgt := 21) hx hb dX1_startsPiece_6 (by decide) (fun c_6 => ?_) (fun c_6 => ?_)
  ·
    refine lv_iconst (v := nI 0) hx hb dX1_startsPiece_21 (by decide) ?_
    exact ret_z hx hb hr hlocks dX1_startsPiece_22 (by rw [c_6]; rfl)
  ·
    refine lv_aload_n hx hb dX1_startsPiece_9 rfl (lv_at hl 0 rfl) ?_
    refine lv_iload_n hx hb dX1_startsPiece_10 rfl (lv_at hl 2 rfl) ?_
    refine rd_V S hl (c_X1_isMarked l D cI cZ ρ ts σ κ mk qu o (by exact ho)) XB.hb gX1_startsPiece_X1_isMarked rfl rfl nf_X1_isMarked rfl rfl dX1_startsPiece_11 (XP.rc0 hXK hP) (XB.at hXK hS ⟨held, hRel, hP⟩) ?_
    refine nv_ifz_ne (tgt := 21) hx hb dX1_startsPiece_14 (by decide) (fun c_14 => ?_) (fun c_14 => ?_)
    ·
      refine lv_iconst (v := nI 0) hx hb dX1_startsPiece_21 (by decide) ?_
      exact ret_z hx hb hr hlocks dX1_startsPiece_22 (by rw [c_6, c_14]; rfl)
    ·
      refine lv_iconst (v := nI 1) hx hb dX1_startsPiece_17 (by decide) ?_
      refine lv_goto (tgt := 22) hx hb dX1_startsPiece_18 (by decide) ?_
      exact ret_z hx hb hr hlocks dX1_startsPiece_22 (by rw [c_6, c_14]; rfl)
theorem nf_X1_enqueue : nfOk yX1_enqueue 2 := by unfold nfOk; decide +kernel
set_option maxHeartbeats 4000000 in
set_option maxRecDepth 100000 in
theorem c_X1_enqueue (l : Launch) (D : va_G) (cI cZ : ClassId) (ρ : Nat → Nat) (ts : Nat) (σ : Nat → Nat → Bool) (κ : Int32) (mk : Nat → Int32) (qu : Nat → Int32) (k : Nat) (t : Nat) (ht : t < 2401) : Wr l yX1_enqueue wsX1_enqueue ({ frames := 0, cells := 0, slots := 0, locals := 0 }) [.ref (ρ 0), .int (nI k), .int (nI t)] (XB D cI cZ ρ ts σ κ mk qu) (some (.int (nI (t + 1)))) (XP D cI ρ σ κ mk (upd qu t (nI k))) (xA 7 ρ) := by
  refine met_in RX1 (by decide) rfl rfl (Nat.le_of_ble_eq_true rfl) ?_
  intro p e s m below meth c ls S hr hlocks hl hB
  have hx := S.1
  have hb := S.2.1
  have hml := S.2.2.1
  have hown := S.2.2.2.1
  have hts := S.2.2.2.2
  have hl : lv_has ls 3 [(0, .ref (ρ 0)), (1, .int (nI k)), (2, .int (nI t))] := hl
  obtain ⟨⟨held, hRel, hP⟩, hXK⟩ := hB
  have hK := hXK.1
  have hS : va_S (xA 7 ρ) s.heap s.heap [] := va_S.rf
  refine lv_iload_n hx hb dX1_enqueue_0 rfl (lv_at hl 2 rfl) ?_
  refine lv_if_lt (tgt := 13) hx hb dX1_enqueue_1 (by decide) (fun c_1 => ?_) (fun c_1 => ?_)
  ·
    exact absurd c_1 (nI_pos (by omega))
  ·
    refine lv_iload_n hx hb dX1_enqueue_4 rfl (lv_at hl 2 rfl) ?_
    refine lv_aload_n hx hb dX1_enqueue_5 rfl (lv_at hl 0 rfl) ?_
    refine va_get (D := D) (ci := 1) (v := .ref (ρ 4)) (C := RX1) (T := TX1) (N := 5) hx hb hts (by decide +kernel) hown hK hP 0 rfl rfl 4 (by decide) (hts (.fieldLink RX1 27 "SevenKeys" "queue" "[I") (by decide +kernel)) (fun _ h9 => h9) rfl dX1_enqueue_6 ?_
    refine va_alen hx hb hK hP 4 0 rfl rfl (v := nI 2401) rfl dX1_enqueue_9 ?_
    refine nv_icmp_lt (tgt := 15) hx hb dX1_enqueue_10 (by decide) (by omega) (by omega) (fun c_10 => ?_) (fun c_10 => ?_)
    ·
      refine lv_aload_n hx hb dX1_enqueue_15 rfl (lv_at hl 0 rfl) ?_
      refine va_get (D := D) (ci := 1) (v := .ref (ρ 4)) (C := RX1) (T := TX1) (N := 5) hx hb hts (by decide +kernel) hown hK hP 0 rfl rfl 4 (by decide) (hts (.fieldLink RX1 27 "SevenKeys" "queue" "[I") (by decide +kernel)) (fun _ h9 => h9) rfl dX1_enqueue_16 ?_
      refine lv_iload_n hx hb dX1_enqueue_19 rfl (lv_at hl 2 rfl) ?_
      refine lv_iload_n hx hb dX1_enqueue_20 rfl (lv_at hl 1 rfl) ?_
      refine nv_iast hx hb hK hP hXK.D hS 4 0 rfl rfl (by omega) (by decide) dX1_enqueue_21 (fun H locs hP hS => ?_)
      have hP : va_P D vwCl (xW cI ρ held κ mk (upd qu t (nI k))) H := hP
      refine lv_iload_n hx hb dX1_enqueue_22 rfl (lv_at hl 2 rfl) ?_
      refine lv_iconst (v := nI 1) hx hb dX1_enqueue_23 (by decide) ?_
      refine lv_iadd hx hb dX1_enqueue_24 ?_
      refine nv_as (nI (t + 1)) (nI_add _ _) ?_
      exact ret_wi hx hb hr hlocks dX1_enqueue_25 hS (⟨held, hRel, hP⟩) (by rfl)
    ·
      omega
theorem nf_X1_floodOn : nfOk yX1_floodOn 3 := by unfold nfOk; decide +kernel
set_option maxHeartbeats 4000000 in
set_option maxRecDepth 100000 in
theorem c_X1_floodOn (l : Launch) (D : va_G) (cI cZ : ClassId) (ρ : Nat → Nat) (ts : Nat) (σ : Nat → Nat → Bool) (κ : Int32) (mk : Nat → Int32) (qu : Nat → Int32) (sl : Nat) (pn : Nat) (N0 : Nat) (h : Nat) (b : Bst) (hsl : sl < 4) (hr0 : rX mk qu b) (hw : wfB N0 b) (hh : h < 2401) : Wr l yX1_floodOn wsX1_floodOn ({ frames := 3, cells := 0, slots := 0, locals := 64 }) [.ref (ρ 0), .int (nI sl), .int (nI h), .int (nI b.2.2.2)] (XB D cI cZ ρ ts σ κ mk qu) (some (.int (nI ((expd (σ sl) pn h (b.1 h + 1) 6 b).2.2.2)))) (XF D cI ρ σ κ (expd (σ sl) pn h (b.1 h + 1) 6 b)) (xA 7 ρ) := by
  refine met_in RX1 (by decide) rfl rfl (Nat.le_of_ble_eq_true rfl) ?_
  intro p e s m below meth c ls S hr hlocks hl hB
  have hx := S.1
  have hb := S.2.1
  have hml := S.2.2.1
  have hown := S.2.2.2.1
  have hts := S.2.2.2.2
  have hl : lv_has ls 8 [(0, .ref (ρ 0)), (1, .int (nI sl)), (2, .int (nI h)), (3, .int (nI b.2.2.2))] := hl
  obtain ⟨⟨held, hRel, hP⟩, hXK⟩ := hB
  have hK := hXK.1
  have hS : va_S (xA 7 ρ) s.heap s.heap [] := va_S.rf
  have hlb := hw.lab h
  have hv2 : b.1 h + 1 ≤ N0 + b.2.2.2 + 1 := Nat.succ_le_succ (hw.2.2 h)
  refine lv_iload_n hx hb dX1_floodOn_0 rfl (lv_at hl 3 rfl) ?_
  refine lv_istore (lv' := [(4, .int (nI b.2.2.2)), (0, .ref (ρ 0)), (1, .int (nI sl)), (2, .int (nI h)), (3, .int (nI b.2.2.2))]) hx hb dX1_floodOn_1 hl (by decide) rfl (fun ls hl => ?_)
  refine lv_aload_n hx hb dX1_floodOn_3 rfl (lv_at hl 1 rfl) ?_
  refine va_get (D := D) (ci := 1) (v := .ref (ρ 3)) (C := RX1) (T := TX1) (N := 5) hx hb hts (by decide +kernel) hown hK hP 0 rfl rfl 3 (by decide) (hts (.fieldLink RX1 24 "SevenKeys" "marks" "[I") (by decide +kernel)) (fun _ h9 => h9) rfl dX1_floodOn_4 ?_
  refine lv_iload_n hx hb dX1_floodOn_7 rfl (lv_at hl 3 rfl) ?_
  refine rd_S S hl (c_X1_valueAt l (ρ 3) 2401 mk (nI h) (by decide)) TB_hb gX1_floodOn_X1_valueAt rfl nf_X1_valueAt rfl rfl dX1_floodOn_8  (TB_P hK hP 3 rfl (by decide)) ?_
  refine nv_as (nI (b.1 h)) (by rw [vAt_in hh (by decide)]; exact hr0.1 h hh) ?_
  refine lv_iconst (v := nI 1) hx hb dX1_floodOn_11 (by decide) ?_
  refine lv_iadd hx hb dX1_floodOn_12 ?_
  refine nv_as (nI (b.1 h + 1)) (nI_add _ _) ?_
  refine lv_istore (lv' := [(5, .int (nI (b.1 h + 1))), (4, .int (nI b.2.2.2)), (0, .ref (ρ 0)), (1, .int (nI sl)), (2, .int (nI h)), (3, .int (nI b.2.2.2))]) hx hb dX1_floodOn_13 hl (by decide) rfl (fun ls hl => ?_)
  refine lv_iconst (v := nI 1) hx hb dX1_floodOn_15 (by decide) ?_
  refine lv_istore (lv' := [(6, .int (nI 1)), (5, .int (nI (b.1 h + 1))), (4, .int (nI b.2.2.2)), (0, .ref (ρ 0)), (1, .int (nI sl)), (2, .int (nI h)), (3, .int (nI b.2.2.2))]) hx hb dX1_floodOn_16 hl (by decide) rfl (fun ls hl => ?_)
  have loop_18 : ∀ (n : Nat) (d : Nat) (m1 : Nat → Int32) (q1 : Nat → Int32), (d ≤ 6) → (rX m1 q1 (expd (σ sl) pn h (b.1 h + 1) d b)) → 6 - d < n → ∀ (x4 x6 : Int32), x4 = nI ((expd (σ sl) pn h (b.1 h + 1) d b).2.2.2) → x6 = nI (d + 1) → ∀ (H : Heap) (locs : List Loc), va_S (xA 7 ρ) s.heap H locs → XP D cI ρ σ κ m1 q1 H → ∀ ls : Array Slot, lv_has ls 8 [(0, .ref (ρ 0)), (1, .int (nI sl)), (2, .int (nI h)), (3, .int (nI b.2.2.2)), (4, .int x4), (5, .int (nI (b.1 h + 1))), (6, .int x6)] → W p l e (headSpec wsX1_floodOn ({ frames := 3, cells := 0, slots := 0, locals := 64 })).room s m [.ref (ρ 0), .int (nI sl), .int (nI h), .int (nI b.2.2.2)].toArray below meth c H locs 0 0 (MQ below (qW (some (.int (nI ((expd (σ sl) pn h (b.1 h + 1) 6 b).2.2.2)))) (XF D cI ρ σ κ (expd (σ sl) pn h (b.1 h + 1) 6 b)) (xA 7 ρ)) [.ref (ρ 0), .int (nI sl), .int (nI h), .int (nI b.2.2.2)].toArray s 0 0 (xA 7 ρ)) (F0 m 18 ls []) := by
    intro n
    induction n with
    | zero => intro d m1 q1 hd hq hm; exact absurd hm (Nat.not_lt_zero _)
    | succ n ih_18 =>
      intro d m1 q1 hd hq hm_18 x4 x6 e4 e6 H locs hS hPP ls hl
      subst e4
      subst e6
      obtain ⟨held, hRel, hP⟩ := hPP
      refine lv_iload hx hb dX1_floodOn_18 (lv_at hl 6 rfl) ?_
      refine lv_bipush (v := nI 6) hx hb dX1_floodOn_20 (by decide) ?_
      refine nv_icmp_gt (tgt := 71) hx hb dX1_floodOn_22 (by decide) (by omega) (by omega) (fun c_22 => ?_) (fun c_22 => ?_)
      ·
        refine lv_iload hx hb dX1_floodOn_71 (lv_at hl 4 rfl) ?_
        have hd6 : d = 6 := by omega
        subst hd6
        exact ret_wi hx hb hr hlocks dX1_floodOn_73 hS (⟨m1, q1, hq, held, hRel, hP⟩) (by rfl)
      ·
        refine lv_aload_n hx hb dX1_floodOn_25 rfl (lv_at hl 0 rfl) ?_
        refine va_get (D := D) (ci := 1) (v := .ref (ρ 1)) (C := RX1) (T := TX1) (N := 5) hx hb hts (by decide +kernel) hown hK hP 0 rfl rfl 0 (by decide) (hts (.fieldLink RX1 10 "SevenKeys" "sheet" "LSevenKeys$Sheet;") (by decide +kernel)) (fun _ h9 => h9) rfl dX1_floodOn_26 ?_
        refine lv_iload_n hx hb dX1_floodOn_29 rfl (lv_at hl 2 rfl) ?_
        refine lv_iload hx hb dX1_floodOn_30 (lv_at hl 6 rfl) ?_
        refine rd_V S hl (c_X0_neighbour l D cI cZ ρ ts σ κ m1 q1 h (d + 1) (by omega) (by omega)) XB.hb gX1_floodOn_X0_neighbour rfl rfl nf_X0_neighbour rfl rfl dX1_floodOn_32 (XP.rc1 hXK hP) (XB.at hXK hS ⟨held, hRel, hP⟩) ?_
        refine lv_istore (lv' := [(7, .int (oI (nbo h (d + 1)))), (0, .ref (ρ 0)), (1, .int (nI sl)), (2, .int (nI h)), (3, .int (nI b.2.2.2)), (4, .int (nI ((expd (σ sl) pn h (b.1 h + 1) d b).2.2.2))), (5, .int (nI (b.1 h + 1))), (6, .int (nI (d + 1)))]) hx hb dX1_floodOn_35 hl (by decide) rfl (fun ls hl => ?_)
        rcases hnb : nbo h (d + 1) with _ | j
        ·
          rw [hnb] at hl
          have hl : lv_has ls 8 [(7, .int (oI none)), (0, .ref (ρ 0)), (1, .int (nI sl)), (2, .int (nI h)), (3, .int (nI b.2.2.2)), (4, .int (nI (expd (σ sl) pn h (b.1 h + 1) d b).2.2.2)), (5, .int (nI (b.1 h + 1))), (6, .int (nI (d + 1)))] := hl
          have hE : expd (σ sl) pn h (b.1 h + 1) (d + 1) b = expd (σ sl) pn h (b.1 h + 1) d b := by rw [expd, hnb]; rfl
          refine lv_aload_n hx hb dX1_floodOn_37 rfl (lv_at hl 1 rfl) ?_
          refine lv_iload_n hx hb dX1_floodOn_38 rfl (lv_at hl 2 rfl) ?_
          refine lv_iload hx hb dX1_floodOn_39 (lv_at hl 0 rfl) ?_
          refine rd_V S hl (c_X1_startsPiece l D cI cZ ρ ts σ κ m1 q1 sl none (by omega) (by exact fun j h => by first | exact nbo_lt h | (cases h <;> omega))) XB.hb gX1_floodOn_X1_startsPiece rfl rfl nf_X1_startsPiece rfl rfl dX1_floodOn_41 (XP.rc0 hXK hP) (XB.at hXK hS ⟨held, hRel, hP⟩) ?_
          refine nv_ifz_eq (tgt := 65) hx hb dX1_floodOn_44 (by decide) (fun c_44 => ?_) (fun c_44 => ?_)
          ·
            refine lv_iinc (v := nI (d + 1 + 1)) (lv' := [(6, .int (nI (d + 1 + 1))), (7, .int (oI none)), (0, .ref (ρ 0)), (1, .int (nI sl)), (2, .int (nI h)), (3, .int (nI b.2.2.2)), (4, .int (nI ((expd (σ sl) pn h (b.1 h + 1) d b).2.2.2))), (5, .int (nI (b.1 h + 1)))]) hx hb dX1_floodOn_65 hl (k := 7) rfl (inc_nI _) (by decide) rfl (fun ls hl => ?_)
            refine lv_goto (tgt := 18) hx hb dX1_floodOn_68 (by decide) ?_
            exact ih_18 (d + 1) m1 q1 (by omega) (by first | (rw [hE]; exact hq) | (rw [hE]; exact rX_up hq j _ pn)) (by omega) _ _ (by rw [hE]) (by first | rfl | exact congrArg nI (by omega)) _ _ hS ⟨held, hRel, hP⟩ _ (lv_sub hl [2, 3, 4, 5, 6, 7, 0] rfl)
          ·
            exact Bool.noConfusion (show false = true from c_44)
        ·
          have hj := nbo_lt hnb
          rw [hnb] at hl
          have hl : lv_has ls 8 [(7, .int (nI j)), (0, .ref (ρ 0)), (1, .int (nI sl)), (2, .int (nI h)), (3, .int (nI b.2.2.2)), (4, .int (nI (expd (σ sl) pn h (b.1 h + 1) d b).2.2.2)), (5, .int (nI (b.1 h + 1))), (6, .int (nI (d + 1)))] := hl
          have hwE := (wf_expd (A := σ sl) (pn := pn) (h := h) hw (Nat.succ_ne_zero _) hv2 d).1
          have hbj : (expd (σ sl) pn h (b.1 h + 1) d b).1 j < 2 ^ 31 := Nat.lt_of_le_of_lt (hwE.lab j) (by decide)
          refine lv_aload_n hx hb dX1_floodOn_37 rfl (lv_at hl 1 rfl) ?_
          refine lv_iload_n hx hb dX1_floodOn_38 rfl (lv_at hl 2 rfl) ?_
          refine lv_iload hx hb dX1_floodOn_39 (lv_at hl 0 rfl) ?_
          refine rd_V S hl (c_X1_startsPiece l D cI cZ ρ ts σ κ m1 q1 sl (some j) (by omega) (by exact fun j h => by first | exact nbo_lt h | (cases h <;> omega))) XB.hb gX1_floodOn_X1_startsPiece rfl rfl nf_X1_startsPiece rfl rfl dX1_floodOn_41 (XP.rc0 hXK hP) (XB.at hXK hS ⟨held, hRel, hP⟩) ?_
          refine nv_ifz_eq (tgt := 65) hx hb dX1_floodOn_44 (by decide) (fun c_44 => ?_) (fun c_44 => ?_)
          ·
            have hE : expd (σ sl) pn h (b.1 h + 1) (d + 1) b = expd (σ sl) pn h (b.1 h + 1) d b := by rw [expd, hnb]; exact vis_f (st_f (hq.1 j hj) hbj c_44)
            refine lv_iinc (v := nI (d + 1 + 1)) (lv' := [(6, .int (nI (d + 1 + 1))), (7, .int (nI j)), (0, .ref (ρ 0)), (1, .int (nI sl)), (2, .int (nI h)), (3, .int (nI b.2.2.2)), (4, .int (nI ((expd (σ sl) pn h (b.1 h + 1) d b).2.2.2))), (5, .int (nI (b.1 h + 1)))]) hx hb dX1_floodOn_65 hl (k := 7) rfl (inc_nI _) (by decide) rfl (fun ls hl => ?_)
            refine lv_goto (tgt := 18) hx hb dX1_floodOn_68 (by decide) ?_
            exact ih_18 (d + 1) m1 q1 (by omega) (by first | (rw [hE]; exact hq) | (rw [hE]; exact rX_up hq j _ pn)) (by omega) _ _ (by rw [hE]) (by first | rfl | exact congrArg nI (by omega)) _ _ hS ⟨held, hRel, hP⟩ _ (lv_sub hl [2, 3, 4, 5, 6, 7, 0] rfl)
          ·
            have hst := st_t (hq.1 j hj) hbj c_44
            have hE : expd (σ sl) pn h (b.1 h + 1) (d + 1) b = _ := (by rw [expd, hnb]; exact vis_t hst : expd (σ sl) pn h (b.1 h + 1) (d + 1) b = (va_up (expd (σ sl) pn h (b.1 h + 1) d b).1 j (b.1 h + 1), va_up (expd (σ sl) pn h (b.1 h + 1) d b).2.1 j pn, va_up (expd (σ sl) pn h (b.1 h + 1) d b).2.2.1 (expd (σ sl) pn h (b.1 h + 1) d b).2.2.2 j, (expd (σ sl) pn h (b.1 h + 1) d b).2.2.2 + 1))
            have htl := tail_lt hwE hj hst.2
            refine lv_aload_n hx hb dX1_floodOn_47 rfl (lv_at hl 1 rfl) ?_
            refine lv_iload hx hb dX1_floodOn_48 (lv_at hl 0 rfl) ?_
            refine lv_iload hx hb dX1_floodOn_50 (lv_at hl 6 rfl) ?_
            refine wr_V S hl (c_X1_mark l D cI cZ ρ ts σ κ m1 q1 j (nI (b.1 h + 1)) (by omega)) XB.hb gX1_floodOn_X1_mark rfl rfl nf_X1_mark rfl rfl dX1_floodOn_52 (XP.rc0 hXK hP) (XB.at hXK hS ⟨held, hRel, hP⟩) hS (fun _ h => h) (fun H locs hPP hS _ hkp => ?_)
            obtain ⟨held, hRel, hP⟩ := hPP
            refine W.eq (g2 := F0 m 55 ls []) rfl ?_
            refine lv_aload_n hx hb dX1_floodOn_55 rfl (lv_at hl 1 rfl) ?_
            refine lv_iload hx hb dX1_floodOn_56 (lv_at hl 0 rfl) ?_
            refine lv_iload hx hb dX1_floodOn_58 (lv_at hl 5 rfl) ?_
            refine wr_V S hl (c_X1_enqueue l D cI cZ ρ ts σ κ (upd m1 j (nI (b.1 h + 1))) q1 j ((expd (σ sl) pn h (b.1 h + 1) d b).2.2.2) (by exact htl)) XB.hb gX1_floodOn_X1_enqueue rfl rfl nf_X1_enqueue rfl rfl dX1_floodOn_60 (XP.rc0 hXK hP) (XB.at hXK hS ⟨held, hRel, hP⟩) hS (fun _ h => h) (fun H locs hPP hS _ hkp => ?_)
            obtain ⟨held, hRel, hP⟩ := hPP
            refine W.eq (g2 := F0 m 63 ls [.int (nI (((expd (σ sl) pn h (b.1 h + 1) d b).2.2.2) + 1))]) rfl ?_
            refine lv_istore (lv' := [(4, .int (nI (((expd (σ sl) pn h (b.1 h + 1) d b).2.2.2) + 1))), (7, .int (nI j)), (0, .ref (ρ 0)), (1, .int (nI sl)), (2, .int (nI h)), (3, .int (nI b.2.2.2)), (5, .int (nI (b.1 h + 1))), (6, .int (nI (d + 1)))]) hx hb dX1_floodOn_63 hl (by decide) rfl (fun ls hl => ?_)
            refine lv_iinc (v := nI (d + 1 + 1)) (lv' := [(6, .int (nI (d + 1 + 1))), (4, .int (nI (((expd (σ sl) pn h (b.1 h + 1) d b).2.2.2) + 1))), (7, .int (nI j)), (0, .ref (ρ 0)), (1, .int (nI sl)), (2, .int (nI h)), (3, .int (nI b.2.2.2)), (5, .int (nI (b.1 h + 1)))]) hx hb dX1_floodOn_65 hl (k := 7) rfl (inc_nI _) (by decide) rfl (fun ls hl => ?_)
            refine lv_goto (tgt := 18) hx hb dX1_floodOn_68 (by decide) ?_
            exact ih_18 (d + 1) (upd m1 j (nI (b.1 h + 1))) (upd q1 ((expd (σ sl) pn h (b.1 h + 1) d b).2.2.2) (nI j)) (by omega) (by first | (rw [hE]; exact hq) | (rw [hE]; exact rX_up hq j _ pn)) (by omega) _ _ (by rw [hE]) (by first | rfl | exact congrArg nI (by omega)) _ _ hS ⟨held, hRel, hP⟩ _ (lv_sub hl [3, 4, 5, 6, 1, 7, 0] rfl)
  exact loop_18 (6 - 0 + 1) 0 mk qu (by omega) (by exact hr0) (Nat.lt_succ_self _) _ _ (by rfl) (by first | rfl | exact congrArg nI (by omega)) _ _ hS ⟨held, hRel, hP⟩ _ (lv_sub hl [3, 4, 5, 6, 2, 1, 0] rfl)
theorem nf_X1_flood : nfOk yX1_flood 2 := by unfold nfOk; decide +kernel
set_option maxHeartbeats 4000000 in
set_option maxRecDepth 100000 in
theorem c_X1_flood (l : Launch) (D : va_G) (cI cZ : ClassId) (ρ : Nat → Nat) (ts : Nat) (σ : Nat → Nat → Bool) (κ : Int32) (mk : Nat → Int32) (qu : Nat → Int32) (sl : Nat) (pn : Nat) (lab : Nat → Nat) (pc : Nat → Nat) (q0 : Nat → Nat) (sd : Nat) (hsl : sl < 4) (hlab : ∀ k, k < 2401 → mk k = nI (lab k)) (hle : ∀ k, lab k ≤ ctL lab) (hs0 : lab sd = 0) (hsd : sd < 2401) : Wr l yX1_flood wsX1_flood ({ frames := 4, cells := 0, slots := 0, locals := 91 }) [.ref (ρ 0), .int (nI sl), .int (nI sd)] (XB D cI cZ ρ ts σ κ mk qu) (some (.int (nI ((flood (σ sl) pn lab pc q0 sd).2.2.2)))) (XF D cI ρ σ κ (flood (σ sl) pn lab pc q0 sd)) (xA 7 ρ) := by
  refine met_in RX1 (by decide) rfl rfl (Nat.le_of_ble_eq_true rfl) ?_
  intro p e s m below meth c ls S hr hlocks hl hB
  have hx := S.1
  have hb := S.2.1
  have hml := S.2.2.1
  have hown := S.2.2.2.1
  have hts := S.2.2.2.2
  have hl : lv_has ls 5 [(0, .ref (ρ 0)), (1, .int (nI sl)), (2, .int (nI sd))] := hl
  obtain ⟨⟨held, hRel, hP⟩, hXK⟩ := hB
  have hK := hXK.1
  have hS : va_S (xA 7 ρ) s.heap s.heap [] := va_S.rf
  refine lv_aload_n hx hb dX1_flood_0 rfl (lv_at hl 0 rfl) ?_
  refine lv_iload_n hx hb dX1_flood_1 rfl (lv_at hl 2 rfl) ?_
  refine lv_iconst (v := nI 1) hx hb dX1_flood_2 (by decide) ?_
  refine wr_V S hl (c_X1_mark l D cI cZ ρ ts σ κ mk qu sd (nI 1) (by omega)) XB.hb gX1_flood_X1_mark rfl rfl nf_X1_mark rfl rfl dX1_flood_3 (XP.rc0 hXK hP) (XB.at hXK hS ⟨held, hRel, hP⟩) hS (fun _ h => h) (fun H locs hPP hS _ hkp => ?_)
  obtain ⟨held, hRel, hP⟩ := hPP
  refine W.eq (g2 := F0 m 6 ls []) rfl ?_
  refine lv_aload_n hx hb dX1_flood_6 rfl (lv_at hl 0 rfl) ?_
  refine lv_iload_n hx hb dX1_flood_7 rfl (lv_at hl 2 rfl) ?_
  refine lv_iconst (v := nI 0) hx hb dX1_flood_8 (by decide) ?_
  refine wr_V S hl (c_X1_enqueue l D cI cZ ρ ts σ κ (upd mk sd (nI 1)) qu sd 0 (by omega)) XB.hb gX1_flood_X1_enqueue rfl rfl nf_X1_enqueue rfl rfl dX1_flood_9 (XP.rc0 hXK hP) (XB.at hXK hS ⟨held, hRel, hP⟩) hS (fun _ h => h) (fun H locs hPP hS _ hkp => ?_)
  obtain ⟨held, hRel, hP⟩ := hPP
  refine W.eq (g2 := F0 m 12 ls [.int (nI (0 + 1))]) rfl ?_
  refine lv_istore_n (lv' := [(3, .int (nI (0 + 1))), (0, .ref (ρ 0)), (1, .int (nI sl)), (2, .int (nI sd))]) hx hb dX1_flood_12 rfl hl (by decide) rfl (fun ls hl => ?_)
  refine lv_iconst (v := nI 0) hx hb dX1_flood_13 (by decide) ?_
  refine lv_istore (lv' := [(4, .int (nI 0)), (3, .int (nI (0 + 1))), (0, .ref (ρ 0)), (1, .int (nI sl)), (2, .int (nI sd))]) hx hb dX1_flood_14 hl (by decide) rfl (fun ls hl => ?_)
  have loop_16 : ∀ (n : Nat) (i : Nat) (m1 : Nat → Int32) (q1 : Nat → Int32) (b : Bst), (i ≤ 2401) → (rX m1 q1 b) → (wfB (ctL lab) b) → (fld (σ sl) pn (2402 - i) i b = flood (σ sl) pn lab pc q0 sd) → 2401 - i < n → ∀ (x3 x4 : Int32), x3 = nI b.2.2.2 → x4 = nI i → ∀ (H : Heap) (locs : List Loc), va_S (xA 7 ρ) s.heap H locs → XP D cI ρ σ κ m1 q1 H → ∀ ls : Array Slot, lv_has ls 5 [(0, .ref (ρ 0)), (1, .int (nI sl)), (2, .int (nI sd)), (3, .int x3), (4, .int x4)] → W p l e (headSpec wsX1_flood ({ frames := 4, cells := 0, slots := 0, locals := 91 })).room s m [.ref (ρ 0), .int (nI sl), .int (nI sd)].toArray below meth c H locs 0 0 (MQ below (qW (some (.int (nI ((flood (σ sl) pn lab pc q0 sd).2.2.2)))) (XF D cI ρ σ κ (flood (σ sl) pn lab pc q0 sd)) (xA 7 ρ)) [.ref (ρ 0), .int (nI sl), .int (nI sd)].toArray s 0 0 (xA 7 ρ)) (F0 m 16 ls []) := by
    intro n
    induction n with
    | zero => intro i m1 q1 b hi hq hw hfin hm; exact absurd hm (Nat.not_lt_zero _)
    | succ n ih_16 =>
      intro i m1 q1 b hi hq hw hfin hm_16 x3 x4 e3 e4 H locs hS hPP ls hl
      subst e3
      subst e4
      obtain ⟨held, hRel, hP⟩ := hPP
      refine lv_iload hx hb dX1_flood_16 (lv_at hl 4 rfl) ?_
      refine lv_aload_n hx hb dX1_flood_18 rfl (lv_at hl 0 rfl) ?_
      refine va_get (D := D) (ci := 1) (v := .ref (ρ 4)) (C := RX1) (T := TX1) (N := 5) hx hb hts (by decide +kernel) hown hK hP 0 rfl rfl 4 (by decide) (hts (.fieldLink RX1 27 "SevenKeys" "queue" "[I") (by decide +kernel)) (fun _ h9 => h9) rfl dX1_flood_19 ?_
      refine va_alen hx hb hK hP 4 0 rfl rfl (v := nI 2401) rfl dX1_flood_22 ?_
      have htl := hw.tail
      refine nv_icmp_ge (tgt := 52) hx hb dX1_flood_23 (by decide) (by omega) (by omega) (fun c_23 => ?_) (fun c_23 => ?_)
      ·
        refine lv_iload_n hx hb dX1_flood_52 rfl (lv_at hl 3 rfl) ?_
        have hfb : flood (σ sl) pn lab pc q0 sd = b := by rw [← hfin]; exact fld_done (by omega) _
        exact ret_wi hx hb hr hlocks dX1_flood_53 hS (⟨m1, q1, by rw [hfb]; exact hq, held, hRel, hP⟩) (by rw [hfb])
      ·
        refine lv_iload hx hb dX1_flood_26 (lv_at hl 4 rfl) ?_
        refine lv_iload_n hx hb dX1_flood_28 rfl (lv_at hl 3 rfl) ?_
        refine nv_icmp_ge (tgt := 52) hx hb dX1_flood_29 (by decide) (by omega) (by omega) (fun c_29 => ?_) (fun c_29 => ?_)
        ·
          refine lv_iload_n hx hb dX1_flood_52 rfl (lv_at hl 3 rfl) ?_
          have hfb : flood (σ sl) pn lab pc q0 sd = b := by rw [← hfin]; exact fld_done (by omega) _
          exact ret_wi hx hb hr hlocks dX1_flood_53 hS (⟨m1, q1, by rw [hfb]; exact hq, held, hRel, hP⟩) (by rw [hfb])
        ·
          refine lv_aload_n hx hb dX1_flood_32 rfl (lv_at hl 0 rfl) ?_
          refine lv_iload_n hx hb dX1_flood_33 rfl (lv_at hl 1 rfl) ?_
          refine lv_aload_n hx hb dX1_flood_34 rfl (lv_at hl 0 rfl) ?_
          refine va_get (D := D) (ci := 1) (v := .ref (ρ 4)) (C := RX1) (T := TX1) (N := 5) hx hb hts (by decide +kernel) hown hK hP 0 rfl rfl 4 (by decide) (hts (.fieldLink RX1 27 "SevenKeys" "queue" "[I") (by decide +kernel)) (fun _ h9 => h9) rfl dX1_flood_35 ?_
          refine lv_iload hx hb dX1_flood_38 (lv_at hl 4 rfl) ?_
          refine nv_iald hx hb hK hP 4 0 rfl rfl (by omega) (by decide) dX1_flood_40 ?_
          refine nv_as (nI (b.2.2.1 i)) (by exact hq.2 i c_29) ?_
          refine lv_iload_n hx hb dX1_flood_41 rfl (lv_at hl 3 rfl) ?_
          refine wr_V S hl (c_X1_floodOn l D cI cZ ρ ts σ κ m1 q1 sl pn (ctL lab) (b.2.2.1 i) b (by omega) (by exact hq) (by exact hw) (by exact (hw.2.1 i c_29).1)) XB.hb gX1_flood_X1_floodOn rfl rfl nf_X1_floodOn rfl rfl dX1_flood_42 (XP.rc0 hXK hP) (XB.at hXK hS ⟨held, hRel, hP⟩) hS (fun _ h => h) (fun H locs hPP hS _ hkp => ?_)
          obtain ⟨m_42, q_42, hrX_42, held, hRel, hP⟩ := hPP
          refine W.eq (g2 := F0 m 45 ls [.int (nI ((expd (σ sl) pn (b.2.2.1 i) (b.1 (b.2.2.1 i) + 1) 6 b).2.2.2))]) rfl ?_
          refine lv_istore_n (lv' := [(3, .int (nI ((expd (σ sl) pn (b.2.2.1 i) (b.1 (b.2.2.1 i) + 1) 6 b).2.2.2))), (0, .ref (ρ 0)), (1, .int (nI sl)), (2, .int (nI sd)), (4, .int (nI i))]) hx hb dX1_flood_45 rfl hl (by decide) rfl (fun ls hl => ?_)
          refine lv_iinc (v := nI (i + 1)) (lv' := [(4, .int (nI (i + 1))), (3, .int (nI ((expd (σ sl) pn (b.2.2.1 i) (b.1 (b.2.2.1 i) + 1) 6 b).2.2.2))), (0, .ref (ρ 0)), (1, .int (nI sl)), (2, .int (nI sd))]) hx hb dX1_flood_46 hl (k := 4) rfl (inc_nI _) (by decide) rfl (fun ls hl => ?_)
          refine lv_goto (tgt := 16) hx hb dX1_flood_49 (by decide) ?_
          exact ih_16 (i + 1) m_42 q_42 (expd (σ sl) pn (b.2.2.1 i) (b.1 (b.2.2.1 i) + 1) 6 b) (by omega) (by exact hrX_42) (by exact wf_step hw) (by rw [← fld_go c_29 (by omega)]; exact hfin) (by omega) _ _ (by rfl) (by first | rfl | exact congrArg nI (by omega)) _ _ hS ⟨held, hRel, hP⟩ _ (lv_sub hl [2, 3, 4, 1, 0] rfl)
  exact loop_16 (2401 - 0 + 1) 0 (upd mk sd (nI 1)) (upd qu 0 (nI sd)) (fl0 lab pc q0 pn sd) (by omega) (by exact rX_0 hlab) (by exact wf_fl0 hsd hs0 hle) (by exact flood_def) (Nat.lt_succ_self _) _ _ (by rfl) rfl _ _ hS ⟨held, hRel, hP⟩ _ (lv_sub hl [2, 3, 4, 1, 0] rfl)
