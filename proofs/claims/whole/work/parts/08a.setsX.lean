theorem nf_X1_holds : nfOk yX1_holds 2 := by unfold nfOk; decide +kernel
set_option maxHeartbeats 4000000 in
set_option maxRecDepth 100000 in
theorem c_X1_holds (l : Launch) (D : va_G) (cI cZ : ClassId) (ρ : Nat → Nat) (ts : Nat) (σ : Nat → Nat → Bool) (κ : Int32) (mk : Nat → Int32) (qu : Nat → Int32) (sl : Nat) (o : Option Nat) (hsl : sl < 4) (ho : ∀ j, o = some j → j < 2401) : Rd l yX1_holds wsX1_holds ({ frames := 0, cells := 0, slots := 0, locals := 0 }) [.ref (ρ 0), .int (nI sl), .int (oI o)] (XB D cI cZ ρ ts σ κ mk qu) (bI (inS (σ sl) o)) := by
  refine met_in RX1 (by decide) rfl rfl (Nat.le_of_ble_eq_true rfl) ?_
  intro p e s m below meth c ls S hr hlocks hl hB
  have hx := S.1
  have hb := S.2.1
  have hml := S.2.2.1
  have hown := S.2.2.2.1
  have hts := S.2.2.2.2
  have hl : lv_has ls 3 [(0, .ref (ρ 0)), (1, .int (nI sl)), (2, .int (oI o))] := hl
  obtain ⟨⟨held, hRel, hP⟩, hXK⟩ := hB
  have hK := hXK.1
  have hS : va_S (xA 7 ρ) s.heap s.heap [] := va_S.rf
  rcases o with _ | k
  ·
    refine lv_iconst (v := nI 0) hx hb dX1_holds_0 (by decide) ?_
    refine lv_iload_n hx hb dX1_holds_1 rfl (lv_at hl 2 rfl) ?_
    refine lv_icmp_gt (tgt := 32) hx hb dX1_holds_2 (by decide) (fun c_2 => ?_) (fun c_2 => ?_)
    ·
      refine lv_iconst (v := nI 0) hx hb dX1_holds_32 (by decide) ?_
      exact ret_z hx hb hr hlocks dX1_holds_33 (by first | rfl | (show _ = bI (σ sl k); rw [cc]; rfl))
    ·
      exact absurd (by decide) c_2
  ·
    have hk := ho k rfl
    have hl : lv_has ls 3 [(0, .ref (ρ 0)), (1, .int (nI sl)), (2, .int (nI k))] := hl
    refine lv_iconst (v := nI 0) hx hb dX1_holds_0 (by decide) ?_
    refine lv_iload_n hx hb dX1_holds_1 rfl (lv_at hl 2 rfl) ?_
    refine nv_icmp_gt (tgt := 32) hx hb dX1_holds_2 (by decide) (by omega) (by omega) (fun c_2 => ?_) (fun c_2 => ?_)
    ·
      omega
    ·
      refine lv_iload_n hx hb dX1_holds_5 rfl (lv_at hl 2 rfl) ?_
      refine lv_aload_n hx hb dX1_holds_6 rfl (lv_at hl 0 rfl) ?_
      refine va_get (D := D) (ci := 1) (v := .ref (ρ 2)) (C := RX1) (T := TX1) (N := 5) hx hb hts (by decide +kernel) hown hK hP 0 rfl rfl 1 (by decide) (hts (.fieldLink RX1 16 "SevenKeys" "held" "[I") (by decide +kernel)) (fun _ h9 => h9) rfl dX1_holds_7 ?_
      refine va_alen hx hb hK hP 2 0 rfl rfl (v := nI 2401) rfl dX1_holds_10 ?_
      refine nv_icmp_ge (tgt := 32) hx hb dX1_holds_11 (by decide) (by omega) (by omega) (fun c_11 => ?_) (fun c_11 => ?_)
      ·
        omega
      ·
        refine lv_aload_n hx hb dX1_holds_14 rfl (lv_at hl 0 rfl) ?_
        refine va_get (D := D) (ci := 1) (v := .ref (ρ 2)) (C := RX1) (T := TX1) (N := 5) hx hb hts (by decide +kernel) hown hK hP 0 rfl rfl 1 (by decide) (hts (.fieldLink RX1 16 "SevenKeys" "held" "[I") (by decide +kernel)) (fun _ h9 => h9) rfl dX1_holds_15 ?_
        refine lv_iload_n hx hb dX1_holds_18 rfl (lv_at hl 2 rfl) ?_
        refine nv_iald hx hb hK hP 2 0 rfl rfl (by omega) (by decide) dX1_holds_19 ?_
        refine lv_iload_n hx hb dX1_holds_20 rfl (lv_at hl 1 rfl) ?_
        refine lv_ishr hx hb dX1_holds_21 ?_
        refine lv_iconst (v := nI 1) hx hb dX1_holds_22 (by decide) ?_
        refine lv_iand hx hb dX1_holds_23 ?_
        refine nv_as (bI (σ sl k)) (by exact hold_leaf hRel hsl hk) ?_
        refine lv_iconst (v := nI 1) hx hb dX1_holds_24 (by decide) ?_
        refine lv_icmp_ne (tgt := 32) hx hb dX1_holds_25 (by decide) (fun c_25 => ?_) (fun c_25 => ?_)
        ·
          have cc := bI_not1 c_25
          refine lv_iconst (v := nI 0) hx hb dX1_holds_32 (by decide) ?_
          exact ret_z hx hb hr hlocks dX1_holds_33 (by first | rfl | (show _ = bI (σ sl k); rw [cc]; rfl))
        ·
          have cc := bI_is1 c_25
          refine lv_iconst (v := nI 1) hx hb dX1_holds_28 (by decide) ?_
          refine lv_goto (tgt := 33) hx hb dX1_holds_29 (by decide) ?_
          exact ret_z hx hb hr hlocks dX1_holds_33 (by first | rfl | (show _ = bI (σ sl k); rw [cc]; rfl))
theorem nf_X1_place : nfOk yX1_place 3 := by unfold nfOk; decide +kernel
set_option maxHeartbeats 4000000 in
set_option maxRecDepth 100000 in
theorem c_X1_place (l : Launch) (D : va_G) (cI cZ : ClassId) (ρ : Nat → Nat) (ts : Nat) (σ : Nat → Nat → Bool) (κ : Int32) (mk : Nat → Int32) (qu : Nat → Int32) (sl : Nat) (k : Nat) (b : Bool) (hsl : sl < 4) (hk : k < 2401) : Wr l yX1_place wsX1_place ({ frames := 0, cells := 0, slots := 0, locals := 0 }) [.ref (ρ 0), .int (nI sl), .int (nI k), .int (bI b)] (XB D cI cZ ρ ts σ κ mk qu) none (XP D cI ρ (stS σ sl k b) κ mk qu) (xA 7 ρ) := by
  refine met_in RX1 (by decide) rfl rfl (Nat.le_of_ble_eq_true rfl) ?_
  intro p e s m below meth c ls S hr hlocks hl hB
  have hx := S.1
  have hb := S.2.1
  have hml := S.2.2.1
  have hown := S.2.2.2.1
  have hts := S.2.2.2.2
  have hl : lv_has ls 5 [(0, .ref (ρ 0)), (1, .int (nI sl)), (2, .int (nI k)), (3, .int (bI b))] := hl
  obtain ⟨⟨held, hRel, hP⟩, hXK⟩ := hB
  have hK := hXK.1
  have hS : va_S (xA 7 ρ) s.heap s.heap [] := va_S.rf
  refine lv_iconst (v := nI 0) hx hb dX1_place_0 (by decide) ?_
  refine lv_iload_n hx hb dX1_place_1 rfl (lv_at hl 2 rfl) ?_
  refine nv_icmp_gt (tgt := 49) hx hb dX1_place_2 (by decide) (by omega) (by omega) (fun c_2 => ?_) (fun c_2 => ?_)
  ·
    omega
  ·
    refine lv_iload_n hx hb dX1_place_5 rfl (lv_at hl 2 rfl) ?_
    refine lv_aload_n hx hb dX1_place_6 rfl (lv_at hl 0 rfl) ?_
    refine va_get (D := D) (ci := 1) (v := .ref (ρ 2)) (C := RX1) (T := TX1) (N := 5) hx hb hts (by decide +kernel) hown hK hP 0 rfl rfl 1 (by decide) (hts (.fieldLink RX1 16 "SevenKeys" "held" "[I") (by decide +kernel)) (fun _ h9 => h9) rfl dX1_place_7 ?_
    refine va_alen hx hb hK hP 2 0 rfl rfl (v := nI 2401) rfl dX1_place_10 ?_
    refine nv_icmp_ge (tgt := 49) hx hb dX1_place_11 (by decide) (by omega) (by omega) (fun c_11 => ?_) (fun c_11 => ?_)
    ·
      omega
    ·
      refine lv_aload_n hx hb dX1_place_14 rfl (lv_at hl 0 rfl) ?_
      refine va_get (D := D) (ci := 1) (v := .ref (ρ 2)) (C := RX1) (T := TX1) (N := 5) hx hb hts (by decide +kernel) hown hK hP 0 rfl rfl 1 (by decide) (hts (.fieldLink RX1 16 "SevenKeys" "held" "[I") (by decide +kernel)) (fun _ h9 => h9) rfl dX1_place_15 ?_
      refine lv_iload_n hx hb dX1_place_18 rfl (lv_at hl 2 rfl) ?_
      refine nv_iald hx hb hK hP 2 0 rfl rfl (by omega) (by decide) dX1_place_19 ?_
      refine lv_iconst (v := nI 1) hx hb dX1_place_20 (by decide) ?_
      refine lv_iload_n hx hb dX1_place_21 rfl (lv_at hl 1 rfl) ?_
      refine lv_ishl hx hb dX1_place_22 ?_
      refine lv_iconst (v := (-1)) hx hb dX1_place_23 (by decide) ?_
      refine lv_ixor hx hb dX1_place_24 ?_
      refine lv_iand hx hb dX1_place_25 ?_
      refine lv_istore (lv' := [(4, .int ((held k) &&& (((nI 1) <<< ((nI sl) &&& 31)) ^^^ (-1)))), (0, .ref (ρ 0)), (1, .int (nI sl)), (2, .int (nI k)), (3, .int (bI b))]) hx hb dX1_place_26 hl (by decide) rfl (fun ls hl => ?_)
      refine lv_aload_n hx hb dX1_place_28 rfl (lv_at hl 1 rfl) ?_
      refine va_get (D := D) (ci := 1) (v := .ref (ρ 2)) (C := RX1) (T := TX1) (N := 5) hx hb hts (by decide +kernel) hown hK hP 0 rfl rfl 1 (by decide) (hts (.fieldLink RX1 16 "SevenKeys" "held" "[I") (by decide +kernel)) (fun _ h9 => h9) rfl dX1_place_29 ?_
      refine lv_iload_n hx hb dX1_place_32 rfl (lv_at hl 3 rfl) ?_
      refine lv_iload_n hx hb dX1_place_33 rfl (lv_at hl 4 rfl) ?_
      refine nv_ifz_eq (tgt := 46) hx hb dX1_place_34 (by decide) (fun c_34 => ?_) (fun c_34 => ?_)
      ·
        refine lv_iload hx hb dX1_place_46 (lv_at hl 0 rfl) ?_
        refine nv_iast hx hb hK hP hXK.D hS 2 0 rfl rfl (by omega) (by decide) dX1_place_48 (fun H locs hP hS => ?_)
        have hP : va_P D vwCl (xW cI ρ (upd held k ((held k) &&& (((nI 1) <<< ((nI sl) &&& 31)) ^^^ (-1)))) κ mk qu) H := hP
        exact ret_wv hx hb hr hlocks dX1_place_49 hS (⟨_, by first | (rw [c_34]; exact place_t hRel hsl) | (rw [c_34]; exact place_f hRel hsl), hP⟩)
      ·
        refine lv_iload hx hb dX1_place_37 (lv_at hl 0 rfl) ?_
        refine lv_iconst (v := nI 1) hx hb dX1_place_39 (by decide) ?_
        refine lv_iload_n hx hb dX1_place_40 rfl (lv_at hl 2 rfl) ?_
        refine lv_ishl hx hb dX1_place_41 ?_
        refine lv_ior hx hb dX1_place_42 ?_
        refine lv_goto (tgt := 48) hx hb dX1_place_43 (by decide) ?_
        refine nv_iast hx hb hK hP hXK.D hS 2 0 rfl rfl (by omega) (by decide) dX1_place_48 (fun H locs hP hS => ?_)
        have hP : va_P D vwCl (xW cI ρ (upd held k (((held k) &&& (((nI 1) <<< ((nI sl) &&& 31)) ^^^ (-1))) ||| ((nI 1) <<< ((nI sl) &&& 31)))) κ mk qu) H := hP
        exact ret_wv hx hb hr hlocks dX1_place_49 hS (⟨_, by first | (rw [c_34]; exact place_t hRel hsl) | (rw [c_34]; exact place_f hRel hsl), hP⟩)
theorem nf_X1_sizeOf : nfOk yX1_sizeOf 1 := by unfold nfOk; decide +kernel
set_option maxHeartbeats 4000000 in
set_option maxRecDepth 100000 in
theorem c_X1_sizeOf (l : Launch) (D : va_G) (cI cZ : ClassId) (ρ : Nat → Nat) (ts : Nat) (σ : Nat → Nat → Bool) (κ : Int32) (mk : Nat → Int32) (qu : Nat → Int32) (sl : Nat) (hsl : sl < 4) : Rd l yX1_sizeOf wsX1_sizeOf ({ frames := 1, cells := 0, slots := 0, locals := 22 }) [.ref (ρ 0), .int (nI sl)] (XB D cI cZ ρ ts σ κ mk qu) (nI (fb_ct (σ sl) 2401)) := by
  refine met_in RX1 (by decide) rfl rfl (Nat.le_of_ble_eq_true rfl) ?_
  intro p e s m below meth c ls S hr hlocks hl hB
  have hx := S.1
  have hb := S.2.1
  have hml := S.2.2.1
  have hown := S.2.2.2.1
  have hts := S.2.2.2.2
  have hl : lv_has ls 4 [(0, .ref (ρ 0)), (1, .int (nI sl))] := hl
  obtain ⟨⟨held, hRel, hP⟩, hXK⟩ := hB
  have hK := hXK.1
  have hS : va_S (xA 7 ρ) s.heap s.heap [] := va_S.rf
  refine lv_iconst (v := nI 0) hx hb dX1_sizeOf_0 (by decide) ?_
  refine lv_istore_n (lv' := [(2, .int (nI 0)), (0, .ref (ρ 0)), (1, .int (nI sl))]) hx hb dX1_sizeOf_1 rfl hl (by decide) rfl (fun ls hl => ?_)
  refine lv_iconst (v := nI 0) hx hb dX1_sizeOf_2 (by decide) ?_
  refine lv_istore_n (lv' := [(3, .int (nI 0)), (2, .int (nI 0)), (0, .ref (ρ 0)), (1, .int (nI sl))]) hx hb dX1_sizeOf_3 rfl hl (by decide) rfl (fun ls hl => ?_)
  have loop_4 : ∀ (n : Nat) (i : Nat), (i ≤ 2401) → 2401 - i < n → ∀ (x2 x3 : Int32), x2 = nI (fb_ct (σ sl) i) → x3 = nI i → ∀ ls : Array Slot, lv_has ls 4 [(0, .ref (ρ 0)), (1, .int (nI sl)), (2, .int x2), (3, .int x3)] → W p l e (headSpec wsX1_sizeOf ({ frames := 1, cells := 0, slots := 0, locals := 22 })).room s m [.ref (ρ 0), .int (nI sl)].toArray below meth c s.heap [] 0 0 (MQ below (vp_Si (fun r => r = nI (fb_ct (σ sl) 2401))) [.ref (ρ 0), .int (nI sl)].toArray s 0 0 (fun _ => False)) (F0 m 4 ls []) := by
    intro n
    induction n with
    | zero => intro i hi hm; exact absurd hm (Nat.not_lt_zero _)
    | succ n ih_4 =>
      intro i hi hm_4 x2 x3 e2 e3 ls hl
      subst e2
      subst e3
      refine lv_iload_n hx hb dX1_sizeOf_4 rfl (lv_at hl 3 rfl) ?_
      refine lv_sipush (v := nI 2401) hx hb dX1_sizeOf_5 (by decide) ?_
      refine nv_icmp_ge (tgt := 29) hx hb dX1_sizeOf_8 (by decide) (by omega) (by omega) (fun c_8 => ?_) (fun c_8 => ?_)
      ·
        refine lv_iload_n hx hb dX1_sizeOf_29 rfl (lv_at hl 2 rfl) ?_
        exact ret_i hx hb hr hlocks dX1_sizeOf_30 (by rw [show i = 2401 by omega])
      ·
        refine lv_aload_n hx hb dX1_sizeOf_11 rfl (lv_at hl 0 rfl) ?_
        refine lv_iload_n hx hb dX1_sizeOf_12 rfl (lv_at hl 1 rfl) ?_
        refine lv_iload_n hx hb dX1_sizeOf_13 rfl (lv_at hl 3 rfl) ?_
        refine rd_V S hl (c_X1_holds l D cI cZ ρ ts σ κ mk qu sl (some i) (by omega) (by exact fun j h => by first | exact nbo_lt h | (cases h; omega))) XB.hb gX1_sizeOf_X1_holds rfl rfl nf_X1_holds rfl rfl dX1_sizeOf_14 (XP.rc0 hXK hP) (XB.at hXK hS ⟨held, hRel, hP⟩) ?_
        refine nv_as (bI (σ sl i)) rfl ?_
        refine nv_ifz_eq (tgt := 23) hx hb dX1_sizeOf_17 (by decide) (fun c_17 => ?_) (fun c_17 => ?_)
        ·
          refine lv_iinc (v := nI (i + 1)) (lv' := [(3, .int (nI (i + 1))), (0, .ref (ρ 0)), (1, .int (nI sl)), (2, .int (nI (fb_ct (σ sl) i)))]) hx hb dX1_sizeOf_23 hl (k := 3) rfl (inc_nI _) (by decide) rfl (fun ls hl => ?_)
          refine lv_goto (tgt := 4) hx hb dX1_sizeOf_26 (by decide) ?_
          exact ih_4 (i + 1) (by omega) (by omega) _ _ (by rw [fb_ct_succ, c_17]; rfl) (by first | rfl | exact congrArg nI (by omega)) _ (lv_sub hl [1, 2, 3, 0] rfl)
        ·
          refine lv_iinc (v := nI (fb_ct (σ sl) i + 1)) (lv' := [(2, .int (nI (fb_ct (σ sl) i + 1))), (0, .ref (ρ 0)), (1, .int (nI sl)), (3, .int (nI i))]) hx hb dX1_sizeOf_20 hl (k := 2) rfl (inc_nI _) (by decide) rfl (fun ls hl => ?_)
          refine lv_iinc (v := nI (i + 1)) (lv' := [(3, .int (nI (i + 1))), (2, .int (nI (fb_ct (σ sl) i + 1))), (0, .ref (ρ 0)), (1, .int (nI sl))]) hx hb dX1_sizeOf_23 hl (k := 3) rfl (inc_nI _) (by decide) rfl (fun ls hl => ?_)
          refine lv_goto (tgt := 4) hx hb dX1_sizeOf_26 (by decide) ?_
          exact ih_4 (i + 1) (by omega) (by omega) _ _ (by rw [fb_ct_succ, c_17]; rfl) (by first | rfl | exact congrArg nI (by omega)) _ (lv_sub hl [2, 3, 1, 0] rfl)
  exact loop_4 (2401 - 0 + 1) 0 (by omega) (Nat.lt_succ_self _) _ _ (by first | rfl | exact congrArg nI (by omega)) rfl _ (lv_sub hl [2, 3, 1, 0] rfl)
theorem nf_X1_leastKey : nfOk yX1_leastKey 1 := by unfold nfOk; decide +kernel
set_option maxHeartbeats 4000000 in
set_option maxRecDepth 100000 in
theorem c_X1_leastKey (l : Launch) (D : va_G) (cI cZ : ClassId) (ρ : Nat → Nat) (ts : Nat) (σ : Nat → Nat → Bool) (κ : Int32) (mk : Nat → Int32) (qu : Nat → Int32) (sl : Nat) (hsl : sl < 4) : Rd l yX1_leastKey wsX1_leastKey ({ frames := 1, cells := 0, slots := 0, locals := 22 }) [.ref (ρ 0), .int (nI sl)] (XB D cI cZ ρ ts σ κ mk qu) (oI (loK (σ sl) 2401)) := by
  refine met_in RX1 (by decide) rfl rfl (Nat.le_of_ble_eq_true rfl) ?_
  intro p e s m below meth c ls S hr hlocks hl hB
  have hx := S.1
  have hb := S.2.1
  have hml := S.2.2.1
  have hown := S.2.2.2.1
  have hts := S.2.2.2.2
  have hl : lv_has ls 3 [(0, .ref (ρ 0)), (1, .int (nI sl))] := hl
  obtain ⟨⟨held, hRel, hP⟩, hXK⟩ := hB
  have hK := hXK.1
  have hS : va_S (xA 7 ρ) s.heap s.heap [] := va_S.rf
  refine lv_iconst (v := nI 0) hx hb dX1_leastKey_0 (by decide) ?_
  refine lv_istore_n (lv' := [(2, .int (nI 0)), (0, .ref (ρ 0)), (1, .int (nI sl))]) hx hb dX1_leastKey_1 rfl hl (by decide) rfl (fun ls hl => ?_)
  have loop_2 : ∀ (n : Nat) (i : Nat), (i ≤ 2401) → (∀ j, j < i → σ sl j = false) → 2401 - i < n → ∀ (x2 : Int32), x2 = nI i → ∀ ls : Array Slot, lv_has ls 3 [(0, .ref (ρ 0)), (1, .int (nI sl)), (2, .int x2)] → W p l e (headSpec wsX1_leastKey ({ frames := 1, cells := 0, slots := 0, locals := 22 })).room s m [.ref (ρ 0), .int (nI sl)].toArray below meth c s.heap [] 0 0 (MQ below (vp_Si (fun r => r = oI (loK (σ sl) 2401))) [.ref (ρ 0), .int (nI sl)].toArray s 0 0 (fun _ => False)) (F0 m 2 ls []) := by
    intro n
    induction n with
    | zero => intro i hi hno hm; exact absurd hm (Nat.not_lt_zero _)
    | succ n ih_2 =>
      intro i hi hno hm_2 x2 e2 ls hl
      subst e2
      refine lv_iload_n hx hb dX1_leastKey_2 rfl (lv_at hl 2 rfl) ?_
      refine lv_sipush (v := nI 2401) hx hb dX1_leastKey_3 (by decide) ?_
      refine nv_icmp_ge (tgt := 26) hx hb dX1_leastKey_6 (by decide) (by omega) (by omega) (fun c_6 => ?_) (fun c_6 => ?_)
      ·
        refine lv_bipush (v := (-6)) hx hb dX1_leastKey_26 (by decide) ?_
        exact ret_i hx hb hr hlocks dX1_leastKey_28 (by rw [loK_none (fun j _ h2 => hno j (by omega)) (by omega)]; rfl)
      ·
        refine lv_aload_n hx hb dX1_leastKey_9 rfl (lv_at hl 0 rfl) ?_
        refine lv_iload_n hx hb dX1_leastKey_10 rfl (lv_at hl 1 rfl) ?_
        refine lv_iload_n hx hb dX1_leastKey_11 rfl (lv_at hl 2 rfl) ?_
        refine rd_V S hl (c_X1_holds l D cI cZ ρ ts σ κ mk qu sl (some i) (by omega) (by exact fun j h => by first | exact nbo_lt h | (cases h; omega))) XB.hb gX1_leastKey_X1_holds rfl rfl nf_X1_holds rfl rfl dX1_leastKey_12 (XP.rc0 hXK hP) (XB.at hXK hS ⟨held, hRel, hP⟩) ?_
        refine nv_as (bI (σ sl i)) rfl ?_
        refine nv_ifz_eq (tgt := 20) hx hb dX1_leastKey_15 (by decide) (fun c_15 => ?_) (fun c_15 => ?_)
        ·
          refine lv_iinc (v := nI (i + 1)) (lv' := [(2, .int (nI (i + 1))), (0, .ref (ρ 0)), (1, .int (nI sl))]) hx hb dX1_leastKey_20 hl (k := 2) rfl (inc_nI _) (by decide) rfl (fun ls hl => ?_)
          refine lv_goto (tgt := 2) hx hb dX1_leastKey_23 (by decide) ?_
          exact ih_2 (i + 1) (by omega) (by exact lt_s hno c_15) (by omega) _ (by first | rfl | exact congrArg nI (by omega)) _ (lv_sub hl [1, 2, 0] rfl)
        ·
          refine lv_iload_n hx hb dX1_leastKey_18 rfl (lv_at hl 2 rfl) ?_
          exact ret_i hx hb hr hlocks dX1_leastKey_19 (by rw [loK_some c_15 (by omega) hno (by omega) (by omega)]; rfl)
  exact loop_2 (2401 - 0 + 1) 0 (by omega) (by exact lt_0) (Nat.lt_succ_self _) _ rfl _ (lv_sub hl [1, 2, 0] rfl)
theorem nf_X1_greatestKey : nfOk yX1_greatestKey 1 := by unfold nfOk; decide +kernel
set_option maxHeartbeats 4000000 in
set_option maxRecDepth 100000 in
theorem c_X1_greatestKey (l : Launch) (D : va_G) (cI cZ : ClassId) (ρ : Nat → Nat) (ts : Nat) (σ : Nat → Nat → Bool) (κ : Int32) (mk : Nat → Int32) (qu : Nat → Int32) (sl : Nat) (hsl : sl < 4) : Rd l yX1_greatestKey wsX1_greatestKey ({ frames := 1, cells := 0, slots := 0, locals := 22 }) [.ref (ρ 0), .int (nI sl)] (XB D cI cZ ρ ts σ κ mk qu) (oI (lst (σ sl) 2401)) := by
  refine met_in RX1 (by decide) rfl rfl (Nat.le_of_ble_eq_true rfl) ?_
  intro p e s m below meth c ls S hr hlocks hl hB
  have hx := S.1
  have hb := S.2.1
  have hml := S.2.2.1
  have hown := S.2.2.2.1
  have hts := S.2.2.2.2
  have hl : lv_has ls 3 [(0, .ref (ρ 0)), (1, .int (nI sl))] := hl
  obtain ⟨⟨held, hRel, hP⟩, hXK⟩ := hB
  have hK := hXK.1
  have hS : va_S (xA 7 ρ) s.heap s.heap [] := va_S.rf
  refine lv_sipush (v := nI 2400) hx hb dX1_greatestKey_0 (by decide) ?_
  refine lv_istore_n (lv' := [(2, .int (nI 2400)), (0, .ref (ρ 0)), (1, .int (nI sl))]) hx hb dX1_greatestKey_3 rfl hl (by decide) rfl (fun ls hl => ?_)
  have loop_4 : ∀ (n : Nat) (t : Nat), (t ≤ 2401) → (∀ j, t ≤ j → j < 2401 → σ sl j = false) → t < n → ∀ (x2 : Int32), x2 = mI t → ∀ ls : Array Slot, lv_has ls 3 [(0, .ref (ρ 0)), (1, .int (nI sl)), (2, .int x2)] → W p l e (headSpec wsX1_greatestKey ({ frames := 1, cells := 0, slots := 0, locals := 22 })).room s m [.ref (ρ 0), .int (nI sl)].toArray below meth c s.heap [] 0 0 (MQ below (vp_Si (fun r => r = oI (lst (σ sl) 2401))) [.ref (ρ 0), .int (nI sl)].toArray s 0 0 (fun _ => False)) (F0 m 4 ls []) := by
    intro n
    induction n with
    | zero => intro t ht hno hm; exact absurd hm (Nat.not_lt_zero _)
    | succ n ih_4 =>
      intro t ht hno hm_4 x2 e2 ls hl
      subst e2
      rcases t with _ | j
      ·
        refine lv_iload_n hx hb dX1_greatestKey_4 rfl (lv_at hl 2 rfl) ?_
        refine lv_if_lt (tgt := 25) hx hb dX1_greatestKey_5 (by decide) (fun c_5 => ?_) (fun c_5 => ?_)
        ·
          refine lv_bipush (v := (-6)) hx hb dX1_greatestKey_25 (by decide) ?_
          exact ret_i hx hb hr hlocks dX1_greatestKey_27 (by rw [lst_pos (t := 0) (by omega) hno]; rfl)
        ·
          exact absurd (by decide) c_5
      ·
        have hl : lv_has ls 3 [(0, .ref (ρ 0)), (1, .int (nI sl)), (2, .int (nI j))] := hl
        refine lv_iload_n hx hb dX1_greatestKey_4 rfl (lv_at hl 2 rfl) ?_
        refine lv_if_lt (tgt := 25) hx hb dX1_greatestKey_5 (by decide) (fun c_5 => ?_) (fun c_5 => ?_)
        ·
          exact absurd c_5 (nI_pos (by omega))
        ·
          refine lv_aload_n hx hb dX1_greatestKey_8 rfl (lv_at hl 0 rfl) ?_
          refine lv_iload_n hx hb dX1_greatestKey_9 rfl (lv_at hl 1 rfl) ?_
          refine lv_iload_n hx hb dX1_greatestKey_10 rfl (lv_at hl 2 rfl) ?_
          refine rd_V S hl (c_X1_holds l D cI cZ ρ ts σ κ mk qu sl (some j) (by omega) (by exact fun j h => by first | exact nbo_lt h | (cases h; omega))) XB.hb gX1_greatestKey_X1_holds rfl rfl nf_X1_holds rfl rfl dX1_greatestKey_11 (XP.rc0 hXK hP) (XB.at hXK hS ⟨held, hRel, hP⟩) ?_
          refine nv_as (bI (σ sl j)) rfl ?_
          refine nv_ifz_eq (tgt := 19) hx hb dX1_greatestKey_14 (by decide) (fun c_14 => ?_) (fun c_14 => ?_)
          ·
            refine lv_iinc (v := mI j) (lv' := [(2, .int (mI j)), (0, .ref (ρ 0)), (1, .int (nI sl))]) hx hb dX1_greatestKey_19 hl (k := 2) rfl (by exact mI_dec j) (by decide) rfl (fun ls hl => ?_)
            refine lv_goto (tgt := 4) hx hb dX1_greatestKey_22 (by decide) ?_
            exact ih_4 j (by omega) (by exact no_step hno c_14) (by omega) _ (by rfl) _ (lv_sub hl [1, 2, 0] rfl)
          ·
            refine lv_iload_n hx hb dX1_greatestKey_17 rfl (lv_at hl 2 rfl) ?_
            exact ret_i hx hb hr hlocks dX1_greatestKey_18 (by rw [lst_pos (t := j + 1) (by omega) hno, lst, if_pos c_14]; rfl)
  exact loop_4 (2401 + 1) 2401 (by omega) (by intro j h1 h2; omega) (Nat.lt_succ_self _) _ (by rfl) _ (lv_sub hl [1, 2, 0] rfl)
theorem nf_X1_countHeldByAny : nfOk yX1_countHeldByAny 0 := by unfold nfOk; decide +kernel
set_option maxHeartbeats 4000000 in
set_option maxRecDepth 100000 in
theorem c_X1_countHeldByAny (l : Launch) (D : va_G) (cI cZ : ClassId) (ρ : Nat → Nat) (ts : Nat) (σ : Nat → Nat → Bool) (κ : Int32) (mk : Nat → Int32) (qu : Nat → Int32) : Rd l yX1_countHeldByAny wsX1_countHeldByAny ({ frames := 0, cells := 0, slots := 0, locals := 0 }) [.ref (ρ 0)] (XB D cI cZ ρ ts σ κ mk qu) (nI (fb_ct (anyP σ) 2401)) := by
  refine met_in RX1 (by decide) rfl rfl (Nat.le_of_ble_eq_true rfl) ?_
  intro p e s m below meth c ls S hr hlocks hl hB
  have hx := S.1
  have hb := S.2.1
  have hml := S.2.2.1
  have hown := S.2.2.2.1
  have hts := S.2.2.2.2
  have hl : lv_has ls 3 [(0, .ref (ρ 0))] := hl
  obtain ⟨⟨held, hRel, hP⟩, hXK⟩ := hB
  have hK := hXK.1
  have hS : va_S (xA 7 ρ) s.heap s.heap [] := va_S.rf
  refine lv_iconst (v := nI 0) hx hb dX1_countHeldByAny_0 (by decide) ?_
  refine lv_istore_n (lv' := [(1, .int (nI 0)), (0, .ref (ρ 0))]) hx hb dX1_countHeldByAny_1 rfl hl (by decide) rfl (fun ls hl => ?_)
  refine lv_iconst (v := nI 0) hx hb dX1_countHeldByAny_2 (by decide) ?_
  refine lv_istore_n (lv' := [(2, .int (nI 0)), (1, .int (nI 0)), (0, .ref (ρ 0))]) hx hb dX1_countHeldByAny_3 rfl hl (by decide) rfl (fun ls hl => ?_)
  have loop_4 : ∀ (n : Nat) (i : Nat), (i ≤ 2401) → 2401 - i < n → ∀ (x1 x2 : Int32), x1 = nI (fb_ct (anyP σ) i) → x2 = nI i → ∀ ls : Array Slot, lv_has ls 3 [(0, .ref (ρ 0)), (1, .int x1), (2, .int x2)] → W p l e (headSpec wsX1_countHeldByAny ({ frames := 0, cells := 0, slots := 0, locals := 0 })).room s m [.ref (ρ 0)].toArray below meth c s.heap [] 0 0 (MQ below (vp_Si (fun r => r = nI (fb_ct (anyP σ) 2401))) [.ref (ρ 0)].toArray s 0 0 (fun _ => False)) (F0 m 4 ls []) := by
    intro n
    induction n with
    | zero => intro i hi hm; exact absurd hm (Nat.not_lt_zero _)
    | succ n ih_4 =>
      intro i hi hm_4 x1 x2 e1 e2 ls hl
      subst e1
      subst e2
      refine lv_iload_n hx hb dX1_countHeldByAny_4 rfl (lv_at hl 2 rfl) ?_
      refine lv_aload_n hx hb dX1_countHeldByAny_5 rfl (lv_at hl 0 rfl) ?_
      refine va_get (D := D) (ci := 1) (v := .ref (ρ 2)) (C := RX1) (T := TX1) (N := 5) hx hb hts (by decide +kernel) hown hK hP 0 rfl rfl 1 (by decide) (hts (.fieldLink RX1 16 "SevenKeys" "held" "[I") (by decide +kernel)) (fun _ h9 => h9) rfl dX1_countHeldByAny_6 ?_
      refine va_alen hx hb hK hP 2 0 rfl rfl (v := nI 2401) rfl dX1_countHeldByAny_9 ?_
      refine nv_icmp_ge (tgt := 34) hx hb dX1_countHeldByAny_10 (by decide) (by omega) (by omega) (fun c_10 => ?_) (fun c_10 => ?_)
      ·
        refine lv_iload_n hx hb dX1_countHeldByAny_34 rfl (lv_at hl 1 rfl) ?_
        exact ret_i hx hb hr hlocks dX1_countHeldByAny_35 (by rw [show i = 2401 by omega])
      ·
        refine lv_aload_n hx hb dX1_countHeldByAny_13 rfl (lv_at hl 0 rfl) ?_
        refine va_get (D := D) (ci := 1) (v := .ref (ρ 2)) (C := RX1) (T := TX1) (N := 5) hx hb hts (by decide +kernel) hown hK hP 0 rfl rfl 1 (by decide) (hts (.fieldLink RX1 16 "SevenKeys" "held" "[I") (by decide +kernel)) (fun _ h9 => h9) rfl dX1_countHeldByAny_14 ?_
        refine lv_iload_n hx hb dX1_countHeldByAny_17 rfl (lv_at hl 2 rfl) ?_
        refine nv_iald hx hb hK hP 2 0 rfl rfl (by omega) (by decide) dX1_countHeldByAny_18 ?_
        refine lv_bipush (v := nI 15) hx hb dX1_countHeldByAny_19 (by decide) ?_
        refine lv_iand hx hb dX1_countHeldByAny_21 ?_
        refine lv_if_eq (tgt := 28) hx hb dX1_countHeldByAny_22 (by decide) (fun c_22 => ?_) (fun c_22 => ?_)
        ·
          have cc : anyP σ i = false := (any4 hRel (by omega)).mp c_22
          refine lv_iinc (v := nI (i + 1)) (lv' := [(2, .int (nI (i + 1))), (0, .ref (ρ 0)), (1, .int (nI (fb_ct (anyP σ) i)))]) hx hb dX1_countHeldByAny_28 hl (k := 2) rfl (inc_nI _) (by decide) rfl (fun ls hl => ?_)
          refine lv_goto (tgt := 4) hx hb dX1_countHeldByAny_31 (by decide) ?_
          exact ih_4 (i + 1) (by omega) (by omega) _ _ (by rw [fb_ct_succ, cc]; rfl) (by first | rfl | exact congrArg nI (by omega)) _ (lv_sub hl [1, 2, 0] rfl)
        ·
          have cc : anyP σ i = true := by cases q : anyP σ i with | true => rfl | false => exact absurd ((any4 hRel (by omega)).mpr q) c_22
          refine lv_iinc (v := nI (fb_ct (anyP σ) i + 1)) (lv' := [(1, .int (nI (fb_ct (anyP σ) i + 1))), (0, .ref (ρ 0)), (2, .int (nI i))]) hx hb dX1_countHeldByAny_25 hl (k := 1) rfl (inc_nI _) (by decide) rfl (fun ls hl => ?_)
          refine lv_iinc (v := nI (i + 1)) (lv' := [(2, .int (nI (i + 1))), (1, .int (nI (fb_ct (anyP σ) i + 1))), (0, .ref (ρ 0))]) hx hb dX1_countHeldByAny_28 hl (k := 2) rfl (inc_nI _) (by decide) rfl (fun ls hl => ?_)
          refine lv_goto (tgt := 4) hx hb dX1_countHeldByAny_31 (by decide) ?_
          exact ih_4 (i + 1) (by omega) (by omega) _ _ (by rw [fb_ct_succ, cc]; rfl) (by first | rfl | exact congrArg nI (by omega)) _ (lv_sub hl [2, 1, 0] rfl)
  exact loop_4 (2401 - 0 + 1) 0 (by omega) (Nat.lt_succ_self _) _ _ (by first | rfl | exact congrArg nI (by omega)) rfl _ (lv_sub hl [2, 1, 0] rfl)
theorem nf_X1_countNeighbours : nfOk yX1_countNeighbours 2 := by unfold nfOk; decide +kernel
set_option maxHeartbeats 4000000 in
set_option maxRecDepth 100000 in
theorem c_X1_countNeighbours (l : Launch) (D : va_G) (cI cZ : ClassId) (ρ : Nat → Nat) (ts : Nat) (σ : Nat → Nat → Bool) (κ : Int32) (mk : Nat → Int32) (qu : Nat → Int32) (sl : Nat) (k : Nat) (hsl : sl < 4) (hk : k < 2401) : Rd l yX1_countNeighbours wsX1_countNeighbours ({ frames := 2, cells := 0, slots := 0, locals := 43 }) [.ref (ρ 0), .int (nI sl), .int (nI k)] (XB D cI cZ ρ ts σ κ mk qu) (nI (nbc (σ sl) k)) := by
  refine met_in RX1 (by decide) rfl rfl (Nat.le_of_ble_eq_true rfl) ?_
  intro p e s m below meth c ls S hr hlocks hl hB
  have hx := S.1
  have hb := S.2.1
  have hml := S.2.2.1
  have hown := S.2.2.2.1
  have hts := S.2.2.2.2
  have hl : lv_has ls 5 [(0, .ref (ρ 0)), (1, .int (nI sl)), (2, .int (nI k))] := hl
  obtain ⟨⟨held, hRel, hP⟩, hXK⟩ := hB
  have hK := hXK.1
  have hS : va_S (xA 7 ρ) s.heap s.heap [] := va_S.rf
  refine lv_iconst (v := nI 0) hx hb dX1_countNeighbours_0 (by decide) ?_
  refine lv_istore_n (lv' := [(3, .int (nI 0)), (0, .ref (ρ 0)), (1, .int (nI sl)), (2, .int (nI k))]) hx hb dX1_countNeighbours_1 rfl hl (by decide) rfl (fun ls hl => ?_)
  refine lv_iconst (v := nI 1) hx hb dX1_countNeighbours_2 (by decide) ?_
  refine lv_istore (lv' := [(4, .int (nI 1)), (3, .int (nI 0)), (0, .ref (ρ 0)), (1, .int (nI sl)), (2, .int (nI k))]) hx hb dX1_countNeighbours_3 hl (by decide) rfl (fun ls hl => ?_)
  have loop_5 : ∀ (n : Nat) (d : Nat), (d ≤ 6) → 6 - d < n → ∀ (x3 x4 : Int32), x3 = nI (fb_ct (fun d => inS (σ sl) (nbo k (d + 1))) d) → x4 = nI (d + 1) → ∀ ls : Array Slot, lv_has ls 5 [(0, .ref (ρ 0)), (1, .int (nI sl)), (2, .int (nI k)), (3, .int x3), (4, .int x4)] → W p l e (headSpec wsX1_countNeighbours ({ frames := 2, cells := 0, slots := 0, locals := 43 })).room s m [.ref (ρ 0), .int (nI sl), .int (nI k)].toArray below meth c s.heap [] 0 0 (MQ below (vp_Si (fun r => r = nI (nbc (σ sl) k))) [.ref (ρ 0), .int (nI sl), .int (nI k)].toArray s 0 0 (fun _ => False)) (F0 m 5 ls []) := by
    intro n
    induction n with
    | zero => intro d hd hm; exact absurd hm (Nat.not_lt_zero _)
    | succ n ih_5 =>
      intro d hd hm_5 x3 x4 e3 e4 ls hl
      subst e3
      subst e4
      refine lv_iload hx hb dX1_countNeighbours_5 (lv_at hl 4 rfl) ?_
      refine lv_bipush (v := nI 6) hx hb dX1_countNeighbours_7 (by decide) ?_
      refine nv_icmp_gt (tgt := 39) hx hb dX1_countNeighbours_9 (by decide) (by omega) (by omega) (fun c_9 => ?_) (fun c_9 => ?_)
      ·
        refine lv_iload_n hx hb dX1_countNeighbours_39 rfl (lv_at hl 3 rfl) ?_
        exact ret_i hx hb hr hlocks dX1_countNeighbours_40 (by rw [show d = 6 by omega]; rfl)
      ·
        refine lv_aload_n hx hb dX1_countNeighbours_12 rfl (lv_at hl 0 rfl) ?_
        refine lv_iload_n hx hb dX1_countNeighbours_13 rfl (lv_at hl 1 rfl) ?_
        refine lv_aload_n hx hb dX1_countNeighbours_14 rfl (lv_at hl 0 rfl) ?_
        refine va_get (D := D) (ci := 1) (v := .ref (ρ 1)) (C := RX1) (T := TX1) (N := 5) hx hb hts (by decide +kernel) hown hK hP 0 rfl rfl 0 (by decide) (hts (.fieldLink RX1 10 "SevenKeys" "sheet" "LSevenKeys$Sheet;") (by decide +kernel)) (fun _ h9 => h9) rfl dX1_countNeighbours_15 ?_
        refine lv_iload_n hx hb dX1_countNeighbours_18 rfl (lv_at hl 2 rfl) ?_
        refine lv_iload hx hb dX1_countNeighbours_19 (lv_at hl 4 rfl) ?_
        refine rd_V S hl (c_X0_neighbour l D cI cZ ρ ts σ κ mk qu k (d + 1) (by omega) (by omega)) XB.hb gX1_countNeighbours_X0_neighbour rfl rfl nf_X0_neighbour rfl rfl dX1_countNeighbours_21 (XP.rc1 hXK hP) (XB.at hXK hS ⟨held, hRel, hP⟩) ?_
        refine rd_V S hl (c_X1_holds l D cI cZ ρ ts σ κ mk qu sl (nbo k (d + 1)) (by omega) (by exact fun j h => by first | exact nbo_lt h | (cases h; omega))) XB.hb gX1_countNeighbours_X1_holds rfl rfl nf_X1_holds rfl rfl dX1_countNeighbours_24 (XP.rc0 hXK hP) (XB.at hXK hS ⟨held, hRel, hP⟩) ?_
        refine nv_ifz_eq (tgt := 33) hx hb dX1_countNeighbours_27 (by decide) (fun c_27 => ?_) (fun c_27 => ?_)
        ·
          refine lv_iinc (v := nI (d + 1 + 1)) (lv' := [(4, .int (nI (d + 1 + 1))), (0, .ref (ρ 0)), (1, .int (nI sl)), (2, .int (nI k)), (3, .int (nI (fb_ct (fun d => inS (σ sl) (nbo k (d + 1))) d)))]) hx hb dX1_countNeighbours_33 hl (k := 4) rfl (inc_nI _) (by decide) rfl (fun ls hl => ?_)
          refine lv_goto (tgt := 5) hx hb dX1_countNeighbours_36 (by decide) ?_
          exact ih_5 (d + 1) (by omega) (by omega) _ _ (by rw [fb_ct_succ, c_27]; rfl) (by first | rfl | exact congrArg nI (by omega)) _ (lv_sub hl [1, 2, 3, 4, 0] rfl)
        ·
          refine lv_iinc (v := nI (fb_ct (fun d => inS (σ sl) (nbo k (d + 1))) d + 1)) (lv' := [(3, .int (nI (fb_ct (fun d => inS (σ sl) (nbo k (d + 1))) d + 1))), (0, .ref (ρ 0)), (1, .int (nI sl)), (2, .int (nI k)), (4, .int (nI (d + 1)))]) hx hb dX1_countNeighbours_30 hl (k := 3) rfl (inc_nI _) (by decide) rfl (fun ls hl => ?_)
          refine lv_iinc (v := nI (d + 1 + 1)) (lv' := [(4, .int (nI (d + 1 + 1))), (3, .int (nI (fb_ct (fun d => inS (σ sl) (nbo k (d + 1))) d + 1))), (0, .ref (ρ 0)), (1, .int (nI sl)), (2, .int (nI k))]) hx hb dX1_countNeighbours_33 hl (k := 4) rfl (inc_nI _) (by decide) rfl (fun ls hl => ?_)
          refine lv_goto (tgt := 5) hx hb dX1_countNeighbours_36 (by decide) ?_
          exact ih_5 (d + 1) (by omega) (by omega) _ _ (by rw [fb_ct_succ, c_27]; rfl) (by first | rfl | exact congrArg nI (by omega)) _ (lv_sub hl [2, 3, 4, 1, 0] rfl)
  exact loop_5 (6 - 0 + 1) 0 (by omega) (Nat.lt_succ_self _) _ _ (by first | rfl | exact congrArg nI (by omega)) (by first | rfl | exact congrArg nI (by omega)) _ (lv_sub hl [2, 3, 4, 1, 0] rfl)
theorem nf_X1_isOfOrNextTo : nfOk yX1_isOfOrNextTo 2 := by unfold nfOk; decide +kernel
set_option maxHeartbeats 4000000 in
set_option maxRecDepth 100000 in
theorem c_X1_isOfOrNextTo (l : Launch) (D : va_G) (cI cZ : ClassId) (ρ : Nat → Nat) (ts : Nat) (σ : Nat → Nat → Bool) (κ : Int32) (mk : Nat → Int32) (qu : Nat → Int32) (sl : Nat) (k : Nat) (hsl : sl < 4) (hk : k < 2401) : Rd l yX1_isOfOrNextTo wsX1_isOfOrNextTo ({ frames := 3, cells := 0, slots := 0, locals := 67 }) [.ref (ρ 0), .int (nI sl), .int (nI k)] (XB D cI cZ ρ ts σ κ mk qu) (bI (σ sl k || decide (0 < nbc (σ sl) k))) := by
  refine met_in RX1 (by decide) rfl rfl (Nat.le_of_ble_eq_true rfl) ?_
  intro p e s m below meth c ls S hr hlocks hl hB
  have hx := S.1
  have hb := S.2.1
  have hml := S.2.2.1
  have hown := S.2.2.2.1
  have hts := S.2.2.2.2
  have hl : lv_has ls 3 [(0, .ref (ρ 0)), (1, .int (nI sl)), (2, .int (nI k))] := hl
  obtain ⟨⟨held, hRel, hP⟩, hXK⟩ := hB
  have hK := hXK.1
  have hS : va_S (xA 7 ρ) s.heap s.heap [] := va_S.rf
  refine lv_aload_n hx hb dX1_isOfOrNextTo_0 rfl (lv_at hl 0 rfl) ?_
  refine lv_iload_n hx hb dX1_isOfOrNextTo_1 rfl (lv_at hl 1 rfl) ?_
  refine lv_iload_n hx hb dX1_isOfOrNextTo_2 rfl (lv_at hl 2 rfl) ?_
  refine rd_V S hl (c_X1_holds l D cI cZ ρ ts σ κ mk qu sl (some k) (by omega) (by exact fun j h => by first | exact nbo_lt h | (cases h; omega))) XB.hb gX1_isOfOrNextTo_X1_holds rfl rfl nf_X1_holds rfl rfl dX1_isOfOrNextTo_3 (XP.rc0 hXK hP) (XB.at hXK hS ⟨held, hRel, hP⟩) ?_
  refine nv_as (bI (σ sl k)) rfl ?_
  refine nv_ifz_ne (tgt := 18) hx hb dX1_isOfOrNextTo_6 (by decide) (fun c_6 => ?_) (fun c_6 => ?_)
  ·
    refine lv_iconst (v := nI 1) hx hb dX1_isOfOrNextTo_18 (by decide) ?_
    refine lv_goto (tgt := 23) hx hb dX1_isOfOrNextTo_19 (by decide) ?_
    exact ret_z hx hb hr hlocks dX1_isOfOrNextTo_23 (by first | (rw [c_6]; rfl) | (rw [c_6, decide_eq_true cc]; rfl) | (rw [c_6, decide_eq_false cc]; rfl))
  ·
    refine lv_aload_n hx hb dX1_isOfOrNextTo_9 rfl (lv_at hl 0 rfl) ?_
    refine lv_iload_n hx hb dX1_isOfOrNextTo_10 rfl (lv_at hl 1 rfl) ?_
    refine lv_iload_n hx hb dX1_isOfOrNextTo_11 rfl (lv_at hl 2 rfl) ?_
    refine rd_V S hl (c_X1_countNeighbours l D cI cZ ρ ts σ κ mk qu sl k (by omega) (by omega)) XB.hb gX1_isOfOrNextTo_X1_countNeighbours rfl rfl nf_X1_countNeighbours rfl rfl dX1_isOfOrNextTo_12 (XP.rc0 hXK hP) (XB.at hXK hS ⟨held, hRel, hP⟩) ?_
    refine lv_if_le (tgt := 22) hx hb dX1_isOfOrNextTo_15 (by decide) (fun c_15 => ?_) (fun c_15 => ?_)
    ·
      have cc : ¬ 0 < nbc (σ sl) k := fun q => absurd c_15 (nI_nle q (Nat.lt_of_le_of_lt (nbc_le _ _) (by decide)))
      refine lv_iconst (v := nI 0) hx hb dX1_isOfOrNextTo_22 (by decide) ?_
      exact ret_z hx hb hr hlocks dX1_isOfOrNextTo_23 (by first | (rw [c_6]; rfl) | (rw [c_6, decide_eq_true cc]; rfl) | (rw [c_6, decide_eq_false cc]; rfl))
    ·
      have cc : 0 < nbc (σ sl) k := Nat.pos_of_ne_zero (fun q => c_15 (by rw [q]; decide))
      refine lv_iconst (v := nI 1) hx hb dX1_isOfOrNextTo_18 (by decide) ?_
      refine lv_goto (tgt := 23) hx hb dX1_isOfOrNextTo_19 (by decide) ?_
      exact ret_z hx hb hr hlocks dX1_isOfOrNextTo_23 (by first | (rw [c_6]; rfl) | (rw [c_6, decide_eq_true cc]; rfl) | (rw [c_6, decide_eq_false cc]; rfl))
theorem nf_X1_isDeepIn : nfOk yX1_isDeepIn 2 := by unfold nfOk; decide +kernel
set_option maxHeartbeats 4000000 in
set_option maxRecDepth 100000 in
theorem c_X1_isDeepIn (l : Launch) (D : va_G) (cI cZ : ClassId) (ρ : Nat → Nat) (ts : Nat) (σ : Nat → Nat → Bool) (κ : Int32) (mk : Nat → Int32) (qu : Nat → Int32) (sl : Nat) (k : Nat) (hsl : sl < 4) (hk : k < 2401) : Rd l yX1_isDeepIn wsX1_isDeepIn ({ frames := 3, cells := 0, slots := 0, locals := 67 }) [.ref (ρ 0), .int (nI sl), .int (nI k)] (XB D cI cZ ρ ts σ κ mk qu) (bI (σ sl k && decide (nbc (σ sl) k = 6))) := by
  refine met_in RX1 (by decide) rfl rfl (Nat.le_of_ble_eq_true rfl) ?_
  intro p e s m below meth c ls S hr hlocks hl hB
  have hx := S.1
  have hb := S.2.1
  have hml := S.2.2.1
  have hown := S.2.2.2.1
  have hts := S.2.2.2.2
  have hl : lv_has ls 3 [(0, .ref (ρ 0)), (1, .int (nI sl)), (2, .int (nI k))] := hl
  obtain ⟨⟨held, hRel, hP⟩, hXK⟩ := hB
  have hK := hXK.1
  have hS : va_S (xA 7 ρ) s.heap s.heap [] := va_S.rf
  refine lv_aload_n hx hb dX1_isDeepIn_0 rfl (lv_at hl 0 rfl) ?_
  refine lv_iload_n hx hb dX1_isDeepIn_1 rfl (lv_at hl 1 rfl) ?_
  refine lv_iload_n hx hb dX1_isDeepIn_2 rfl (lv_at hl 2 rfl) ?_
  refine rd_V S hl (c_X1_holds l D cI cZ ρ ts σ κ mk qu sl (some k) (by omega) (by exact fun j h => by first | exact nbo_lt h | (cases h; omega))) XB.hb gX1_isDeepIn_X1_holds rfl rfl nf_X1_holds rfl rfl dX1_isDeepIn_3 (XP.rc0 hXK hP) (XB.at hXK hS ⟨held, hRel, hP⟩) ?_
  refine nv_as (bI (σ sl k)) rfl ?_
  refine nv_ifz_eq (tgt := 24) hx hb dX1_isDeepIn_6 (by decide) (fun c_6 => ?_) (fun c_6 => ?_)
  ·
    refine lv_iconst (v := nI 0) hx hb dX1_isDeepIn_24 (by decide) ?_
    exact ret_z hx hb hr hlocks dX1_isDeepIn_25 (by first | (rw [c_6, decide_eq_true c_17]; rfl) | (rw [c_6, decide_eq_false c_17]; rfl) | (rw [c_6]; rfl))
  ·
    refine lv_aload_n hx hb dX1_isDeepIn_9 rfl (lv_at hl 0 rfl) ?_
    refine lv_iload_n hx hb dX1_isDeepIn_10 rfl (lv_at hl 1 rfl) ?_
    refine lv_iload_n hx hb dX1_isDeepIn_11 rfl (lv_at hl 2 rfl) ?_
    refine rd_V S hl (c_X1_countNeighbours l D cI cZ ρ ts σ κ mk qu sl k (by omega) (by omega)) XB.hb gX1_isDeepIn_X1_countNeighbours rfl rfl nf_X1_countNeighbours rfl rfl dX1_isDeepIn_12 (XP.rc0 hXK hP) (XB.at hXK hS ⟨held, hRel, hP⟩) ?_
    refine lv_bipush (v := nI 6) hx hb dX1_isDeepIn_15 (by decide) ?_
    refine nv_icmp_ne (tgt := 24) hx hb dX1_isDeepIn_17 (by decide) (by exact Nat.lt_of_le_of_lt (nbc_le _ _) (by decide)) (by omega) (fun c_17 => ?_) (fun c_17 => ?_)
    ·
      refine lv_iconst (v := nI 0) hx hb dX1_isDeepIn_24 (by decide) ?_
      exact ret_z hx hb hr hlocks dX1_isDeepIn_25 (by first | (rw [c_6, decide_eq_true c_17]; rfl) | (rw [c_6, decide_eq_false c_17]; rfl) | (rw [c_6]; rfl))
    ·
      refine lv_iconst (v := nI 1) hx hb dX1_isDeepIn_20 (by decide) ?_
      refine lv_goto (tgt := 25) hx hb dX1_isDeepIn_21 (by decide) ?_
      exact ret_z hx hb hr hlocks dX1_isDeepIn_25 (by first | (rw [c_6, decide_eq_true c_17]; rfl) | (rw [c_6, decide_eq_false c_17]; rfl) | (rw [c_6]; rfl))
theorem nf_X1_borderOf : nfOk yX1_borderOf 1 := by unfold nfOk; decide +kernel
set_option maxHeartbeats 4000000 in
set_option maxRecDepth 100000 in
theorem c_X1_borderOf (l : Launch) (D : va_G) (cI cZ : ClassId) (ρ : Nat → Nat) (ts : Nat) (σ : Nat → Nat → Bool) (κ : Int32) (mk : Nat → Int32) (qu : Nat → Int32) (sl : Nat) (hsl : sl < 4) : Rd l yX1_borderOf wsX1_borderOf ({ frames := 3, cells := 0, slots := 0, locals := 67 }) [.ref (ρ 0), .int (nI sl)] (XB D cI cZ ρ ts σ κ mk qu) (nI (bdr (σ sl) 2401)) := by
  refine met_in RX1 (by decide) rfl rfl (Nat.le_of_ble_eq_true rfl) ?_
  intro p e s m below meth c ls S hr hlocks hl hB
  have hx := S.1
  have hb := S.2.1
  have hml := S.2.2.1
  have hown := S.2.2.2.1
  have hts := S.2.2.2.2
  have hl : lv_has ls 4 [(0, .ref (ρ 0)), (1, .int (nI sl))] := hl
  obtain ⟨⟨held, hRel, hP⟩, hXK⟩ := hB
  have hK := hXK.1
  have hS : va_S (xA 7 ρ) s.heap s.heap [] := va_S.rf
  refine lv_iconst (v := nI 0) hx hb dX1_borderOf_0 (by decide) ?_
  refine lv_istore_n (lv' := [(2, .int (nI 0)), (0, .ref (ρ 0)), (1, .int (nI sl))]) hx hb dX1_borderOf_1 rfl hl (by decide) rfl (fun ls hl => ?_)
  refine lv_iconst (v := nI 0) hx hb dX1_borderOf_2 (by decide) ?_
  refine lv_istore_n (lv' := [(3, .int (nI 0)), (2, .int (nI 0)), (0, .ref (ρ 0)), (1, .int (nI sl))]) hx hb dX1_borderOf_3 rfl hl (by decide) rfl (fun ls hl => ?_)
  have loop_4 : ∀ (n : Nat) (i : Nat), (i ≤ 2401) → 2401 - i < n → ∀ (x2 x3 : Int32), x2 = nI (bdr (σ sl) i) → x3 = nI i → ∀ ls : Array Slot, lv_has ls 4 [(0, .ref (ρ 0)), (1, .int (nI sl)), (2, .int x2), (3, .int x3)] → W p l e (headSpec wsX1_borderOf ({ frames := 3, cells := 0, slots := 0, locals := 67 })).room s m [.ref (ρ 0), .int (nI sl)].toArray below meth c s.heap [] 0 0 (MQ below (vp_Si (fun r => r = nI (bdr (σ sl) 2401))) [.ref (ρ 0), .int (nI sl)].toArray s 0 0 (fun _ => False)) (F0 m 4 ls []) := by
    intro n
    induction n with
    | zero => intro i hi hm; exact absurd hm (Nat.not_lt_zero _)
    | succ n ih_4 =>
      intro i hi hm_4 x2 x3 e2 e3 ls hl
      subst e2
      subst e3
      refine lv_iload_n hx hb dX1_borderOf_4 rfl (lv_at hl 3 rfl) ?_
      refine lv_sipush (v := nI 2401) hx hb dX1_borderOf_5 (by decide) ?_
      refine nv_icmp_ge (tgt := 38) hx hb dX1_borderOf_8 (by decide) (by omega) (by omega) (fun c_8 => ?_) (fun c_8 => ?_)
      ·
        refine lv_iload_n hx hb dX1_borderOf_38 rfl (lv_at hl 2 rfl) ?_
        exact ret_i hx hb hr hlocks dX1_borderOf_39 (by rw [show i = 2401 by omega])
      ·
        refine lv_aload_n hx hb dX1_borderOf_11 rfl (lv_at hl 0 rfl) ?_
        refine lv_iload_n hx hb dX1_borderOf_12 rfl (lv_at hl 1 rfl) ?_
        refine lv_iload_n hx hb dX1_borderOf_13 rfl (lv_at hl 3 rfl) ?_
        refine rd_V S hl (c_X1_holds l D cI cZ ρ ts σ κ mk qu sl (some i) (by omega) (by exact fun j h => by first | exact nbo_lt h | (cases h; omega))) XB.hb gX1_borderOf_X1_holds rfl rfl nf_X1_holds rfl rfl dX1_borderOf_14 (XP.rc0 hXK hP) (XB.at hXK hS ⟨held, hRel, hP⟩) ?_
        refine nv_as (bI (σ sl i)) rfl ?_
        refine nv_ifz_eq (tgt := 32) hx hb dX1_borderOf_17 (by decide) (fun c_17 => ?_) (fun c_17 => ?_)
        ·
          refine lv_iinc (v := nI (i + 1)) (lv' := [(3, .int (nI (i + 1))), (0, .ref (ρ 0)), (1, .int (nI sl)), (2, .int (nI (bdr (σ sl) i)))]) hx hb dX1_borderOf_32 hl (k := 3) rfl (inc_nI _) (by decide) rfl (fun ls hl => ?_)
          refine lv_goto (tgt := 4) hx hb dX1_borderOf_35 (by decide) ?_
          exact ih_4 (i + 1) (by omega) (by omega) _ _ (by first | (rw [bdr, bdr, fb_sm_succ, if_pos c_17]) | (rw [bdr, bdr, fb_sm_succ, if_neg (by rw [c_17]; decide)]; rfl)) (by first | rfl | exact congrArg nI (by omega)) _ (lv_sub hl [1, 2, 3, 0] rfl)
        ·
          refine lv_iload_n hx hb dX1_borderOf_20 rfl (lv_at hl 2 rfl) ?_
          refine lv_bipush (v := nI 6) hx hb dX1_borderOf_21 (by decide) ?_
          refine lv_aload_n hx hb dX1_borderOf_23 rfl (lv_at hl 0 rfl) ?_
          refine lv_iload_n hx hb dX1_borderOf_24 rfl (lv_at hl 1 rfl) ?_
          refine lv_iload_n hx hb dX1_borderOf_25 rfl (lv_at hl 3 rfl) ?_
          refine rd_V S hl (c_X1_countNeighbours l D cI cZ ρ ts σ κ mk qu sl i (by omega) (by omega)) XB.hb gX1_borderOf_X1_countNeighbours rfl rfl nf_X1_countNeighbours rfl rfl dX1_borderOf_26 (XP.rc0 hXK hP) (XB.at hXK hS ⟨held, hRel, hP⟩) ?_
          refine lv_isub hx hb dX1_borderOf_29 ?_
          refine nv_as (nI (6 - nbc (σ sl) i)) (by exact pk_sub (nbc_le _ _)) ?_
          refine lv_iadd hx hb dX1_borderOf_30 ?_
          refine nv_as (nI (bdr (σ sl) i + (6 - nbc (σ sl) i))) (nI_add _ _) ?_
          refine lv_istore_n (lv' := [(2, .int (nI (bdr (σ sl) i + (6 - nbc (σ sl) i)))), (0, .ref (ρ 0)), (1, .int (nI sl)), (3, .int (nI i))]) hx hb dX1_borderOf_31 rfl hl (by decide) rfl (fun ls hl => ?_)
          refine lv_iinc (v := nI (i + 1)) (lv' := [(3, .int (nI (i + 1))), (2, .int (nI (bdr (σ sl) i + (6 - nbc (σ sl) i)))), (0, .ref (ρ 0)), (1, .int (nI sl))]) hx hb dX1_borderOf_32 hl (k := 3) rfl (inc_nI _) (by decide) rfl (fun ls hl => ?_)
          refine lv_goto (tgt := 4) hx hb dX1_borderOf_35 (by decide) ?_
          exact ih_4 (i + 1) (by omega) (by omega) _ _ (by first | (rw [bdr, bdr, fb_sm_succ, if_pos c_17]) | (rw [bdr, bdr, fb_sm_succ, if_neg (by rw [c_17]; decide)]; rfl)) (by first | rfl | exact congrArg nI (by omega)) _ (lv_sub hl [2, 3, 1, 0] rfl)
  exact loop_4 (2401 - 0 + 1) 0 (by omega) (Nat.lt_succ_self _) _ _ (by first | rfl | exact congrArg nI (by omega)) rfl _ (lv_sub hl [2, 3, 1, 0] rfl)
theorem nf_X1_has : nfOk yX1_has 2 := by unfold nfOk; decide +kernel
set_option maxHeartbeats 4000000 in
set_option maxRecDepth 100000 in
theorem c_X1_has (l : Launch) (D : va_G) (cI cZ : ClassId) (ρ : Nat → Nat) (ts : Nat) (σ : Nat → Nat → Bool) (κ : Int32) (mk : Nat → Int32) (qu : Nat → Int32) (a : Int32) (x : Int32) : Rd l yX1_has wsX1_has ({ frames := 2, cells := 0, slots := 0, locals := 42 }) [.ref (ρ 0), .int a, .int x] (XB D cI cZ ρ ts σ κ mk qu) (hasR σ a x) := by
  refine met_in RX1 (by decide) rfl rfl (Nat.le_of_ble_eq_true rfl) ?_
  intro p e s m below meth c ls S hr hlocks hl hB
  have hx := S.1
  have hb := S.2.1
  have hml := S.2.2.1
  have hown := S.2.2.2.1
  have hts := S.2.2.2.2
  have hl : lv_has ls 3 [(0, .ref (ρ 0)), (1, .int a), (2, .int x)] := hl
  obtain ⟨⟨held, hRel, hP⟩, hXK⟩ := hB
  have hK := hXK.1
  have hS : va_S (xA 7 ρ) s.heap s.heap [] := va_S.rf
  refine lv_iload_n hx hb dX1_has_0 rfl (lv_at hl 1 rfl) ?_
  refine rd_S S hl (c_X1_isSlot l a) HB.tt gX1_has_X1_isSlot rfl nf_X1_isSlot rfl rfl dX1_has_1  (fun _ _ _ => trivial) ?_
  refine nv_ifz_ne (tgt := 9) hx hb dX1_has_4 (by decide) (fun c_4 => ?_) (fun c_4 => ?_)
  ·
    obtain ⟨sl, hsl, hxsl⟩ := wI_nat c_4 (by decide)
    subst hxsl
    have hcsl : (nI sl).toNatClampNeg = sl := nI_clamp (by omega)
    refine lv_iload_n hx hb dX1_has_9 rfl (lv_at hl 2 rfl) ?_
    refine rd_S S hl (c_X1_isKey l x) HB.tt gX1_has_X1_isKey rfl nf_X1_isKey rfl rfl dX1_has_10  (fun _ _ _ => trivial) ?_
    refine nv_ifz_ne (tgt := 19) hx hb dX1_has_13 (by decide) (fun c_13 => ?_) (fun c_13 => ?_)
    ·
      obtain ⟨k, hk, hxk⟩ := wI_nat c_13 (by decide)
      subst hxk
      have hck : (nI k).toNatClampNeg = k := nI_clamp (by omega)
      refine lv_aload_n hx hb dX1_has_19 rfl (lv_at hl 0 rfl) ?_
      refine lv_iload_n hx hb dX1_has_20 rfl (lv_at hl 1 rfl) ?_
      refine lv_iload_n hx hb dX1_has_21 rfl (lv_at hl 2 rfl) ?_
      refine rd_V S hl (c_X1_holds l D cI cZ ρ ts σ κ mk qu sl (some k) (by omega) (by exact fun j h => by first | exact nbo_lt h | (cases h; omega))) XB.hb gX1_has_X1_holds rfl rfl nf_X1_holds rfl rfl dX1_has_22 (XP.rc0 hXK hP) (XB.at hXK hS ⟨held, hRel, hP⟩) ?_
      refine nv_as (bI (σ sl k)) rfl ?_
      refine nv_ifz_eq (tgt := 32) hx hb dX1_has_25 (by decide) (fun c_25 => ?_) (fun c_25 => ?_)
      ·
        refine lv_iconst (v := nI 0) hx hb dX1_has_32 (by decide) ?_
        exact ret_i hx hb hr hlocks dX1_has_33 (by unfold hasR gs; rw [show isS (nI sl) = true from c_4, show isK (nI k) = true from c_13, show cl (nI sl) = sl from hcsl, show cl (nI k) = k from hck, c_25]; rfl)
      ·
        refine lv_iconst (v := nI 1) hx hb dX1_has_28 (by decide) ?_
        refine lv_goto (tgt := 33) hx hb dX1_has_29 (by decide) ?_
        exact ret_i hx hb hr hlocks dX1_has_33 (by unfold hasR gs; rw [show isS (nI sl) = true from c_4, show isK (nI k) = true from c_13, show cl (nI sl) = sl from hcsl, show cl (nI k) = k from hck, c_25]; rfl)
    ·
      refine lv_bipush (v := (-2)) hx hb dX1_has_16 (by decide) ?_
      exact ret_i hx hb hr hlocks dX1_has_18 (by first | (simp [hasR, gd, gs, c_4, c_13]; done) | (simp [hasR, gd, gs, c_4]; done))
  ·
    refine lv_iconst (v := (-1)) hx hb dX1_has_7 (by decide) ?_
    exact ret_i hx hb hr hlocks dX1_has_8 (by first | (simp [hasR, gd, gs, c_4, c_13]; done) | (simp [hasR, gd, gs, c_4]; done))
