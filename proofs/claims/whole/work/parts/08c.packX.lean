theorem pkQ_f1 {A : Nat → Bool} {i : Nat} {x : Int32} (h : i < pkT A i) : pkQ A x i = false := by unfold pkQ; rw [(isP_f1 h).1]; rfl
theorem pkQ_f2 {A : Nat → Bool} {i : Nat} {x : Int32} (h : A i = false) : pkQ A x i = false := by unfold pkQ; rw [(isP_f2 h).1]; rfl
theorem pkQ_f3 {A : Nat → Bool} {i : Nat} {x : Int32} (h : ¬ nI (fb_ct (isP A) i) = x) : pkQ A x i = false := by unfold pkQ; rw [decide_eq_false h, Bool.and_false]
theorem nI_ne6 {k : Nat} (h : k < 2 ^ 31) : ¬ nI k = -6 := by
  intro q
  have h1 : (nI k).toInt = (-6 : Int32).toInt := by rw [q]
  rw [nI_toInt h] at h1
  have h2 : (-6 : Int32).toInt = -6 := by decide
  omega
theorem nf_X1_patchLiesIn : nfOk yX1_patchLiesIn 3 := by unfold nfOk; decide +kernel
set_option maxHeartbeats 4000000 in
set_option maxRecDepth 100000 in
theorem c_X1_patchLiesIn (l : Launch) (D : va_G) (cI cZ : ClassId) (ρ : Nat → Nat) (ts : Nat) (σ : Nat → Nat → Bool) (κ : Int32) (mk : Nat → Int32) (qu : Nat → Int32) (sl : Nat) (k : Nat) (L : Nat) (hsl : sl < 4) (hk : k < 2401) (hL : L ≤ 4) : Rd l yX1_patchLiesIn wsX1_patchLiesIn ({ frames := 2, cells := 0, slots := 0, locals := 45 }) [.ref (ρ 0), .int (nI sl), .int (nI k), .int (nI L)] (XB D cI cZ ρ ts σ κ mk qu) (bI (fitP (σ sl) k L)) := by
  refine met_in RX1 (by decide) rfl rfl (Nat.le_of_ble_eq_true rfl) ?_
  intro p e s m below meth c ls S hr hlocks hl hB
  have hx := S.1
  have hb := S.2.1
  have hml := S.2.2.1
  have hown := S.2.2.2.1
  have hts := S.2.2.2.2
  have hl : lv_has ls 6 [(0, .ref (ρ 0)), (1, .int (nI sl)), (2, .int (nI k)), (3, .int (nI L))] := hl
  obtain ⟨⟨held, hRel, hP⟩, hXK⟩ := hB
  have hK := hXK.1
  have hS : va_S (xA 7 ρ) s.heap s.heap [] := va_S.rf
  refine lv_iload_n hx hb dX1_patchLiesIn_0 rfl (lv_at hl 2 rfl) ?_
  refine lv_iload_n hx hb dX1_patchLiesIn_1 rfl (lv_at hl 3 rfl) ?_
  refine rd_S S hl (c_X1_patchOf l k L (by omega) (by omega)) HB.tt gX1_patchLiesIn_X1_patchOf rfl nf_X1_patchOf rfl rfl dX1_patchLiesIn_2  (fun _ _ _ => trivial) ?_
  refine lv_iload_n hx hb dX1_patchLiesIn_5 rfl (lv_at hl 2 rfl) ?_
  refine nv_icmp_eq (tgt := 11) hx hb dX1_patchLiesIn_6 (by decide) (by exact Nat.lt_of_le_of_lt (Nat.div_mul_le_self _ _) (by omega)) (by omega) (fun c_6 => ?_) (fun c_6 => ?_)
  ·
    refine lv_iload_n hx hb dX1_patchLiesIn_11 rfl (lv_at hl 2 rfl) ?_
    refine lv_iload_n hx hb dX1_patchLiesIn_12 rfl (lv_at hl 3 rfl) ?_
    refine rd_S S hl (c_X1_patchSize l L (by omega)) HB.tt gX1_patchLiesIn_X1_patchSize rfl nf_X1_patchSize rfl rfl dX1_patchLiesIn_13  (fun _ _ _ => trivial) ?_
    refine lv_iadd hx hb dX1_patchLiesIn_16 ?_
    refine nv_as (nI (k + (7 ^ L))) (nI_add _ _) ?_
    refine lv_istore (lv' := [(4, .int (nI (k + (7 ^ L)))), (0, .ref (ρ 0)), (1, .int (nI sl)), (2, .int (nI k)), (3, .int (nI L))]) hx hb dX1_patchLiesIn_17 hl (by decide) rfl (fun ls hl => ?_)
    refine lv_iload_n hx hb dX1_patchLiesIn_19 rfl (lv_at hl 3 rfl) ?_
    refine lv_istore (lv' := [(5, .int (nI k)), (4, .int (nI (k + (7 ^ L)))), (0, .ref (ρ 0)), (1, .int (nI sl)), (2, .int (nI k)), (3, .int (nI L))]) hx hb dX1_patchLiesIn_20 hl (by decide) rfl (fun ls hl => ?_)
    have hp := pO_le (k := k) (L := L) (by omega) (by omega)
    rw [c_6] at hp
    have loop_22 : ∀ (n : Nat) (i : Nat), (i ≤ k + 7 ^ L) → (k ≤ i) → (allN (σ sl) k (i - k) = true) → k + 7 ^ L - i < n → ∀ (x5 : Int32), x5 = nI i → ∀ ls : Array Slot, lv_has ls 6 [(0, .ref (ρ 0)), (1, .int (nI sl)), (2, .int (nI k)), (3, .int (nI L)), (4, .int (nI (k + (7 ^ L)))), (5, .int x5)] → W p l e (headSpec wsX1_patchLiesIn ({ frames := 2, cells := 0, slots := 0, locals := 45 })).room s m [.ref (ρ 0), .int (nI sl), .int (nI k), .int (nI L)].toArray below meth c s.heap [] 0 0 (MQ below (vp_Si (fun r => r = bI (fitP (σ sl) k L))) [.ref (ρ 0), .int (nI sl), .int (nI k), .int (nI L)].toArray s 0 0 (fun _ => False)) (F0 m 22 ls []) := by
      intro n
      induction n with
      | zero => intro i hi hlo hall hm; exact absurd hm (Nat.not_lt_zero _)
      | succ n ih_22 =>
        intro i hi hlo hall hm_22 x5 e5 ls hl
        subst e5
        refine lv_iload hx hb dX1_patchLiesIn_22 (lv_at hl 5 rfl) ?_
        refine lv_iload hx hb dX1_patchLiesIn_24 (lv_at hl 4 rfl) ?_
        refine nv_icmp_ge (tgt := 47) hx hb dX1_patchLiesIn_26 (by decide) (by omega) (by omega) (fun c_26 => ?_) (fun c_26 => ?_)
        ·
          refine lv_iconst (v := nI 1) hx hb dX1_patchLiesIn_47 (by decide) ?_
          exact ret_z hx hb hr hlocks dX1_patchLiesIn_48 (by unfold fitP; rw [decide_eq_true c_6, ← show i - k = 7 ^ L by omega, hall]; rfl)
        ·
          refine lv_aload_n hx hb dX1_patchLiesIn_29 rfl (lv_at hl 0 rfl) ?_
          refine lv_iload_n hx hb dX1_patchLiesIn_30 rfl (lv_at hl 1 rfl) ?_
          refine lv_iload hx hb dX1_patchLiesIn_31 (lv_at hl 5 rfl) ?_
          refine rd_V S hl (c_X1_holds l D cI cZ ρ ts σ κ mk qu sl (some i) (by omega) (by exact fun j h => by first | exact nbo_lt h | (cases h; omega))) XB.hb gX1_patchLiesIn_X1_holds rfl rfl nf_X1_holds rfl rfl dX1_patchLiesIn_33 (XP.rc0 hXK hP) (XB.at hXK hS ⟨held, hRel, hP⟩) ?_
          refine nv_as (bI (σ sl i)) rfl ?_
          refine nv_ifz_ne (tgt := 41) hx hb dX1_patchLiesIn_36 (by decide) (fun c_36 => ?_) (fun c_36 => ?_)
          ·
            refine lv_iinc (v := nI (i + 1)) (lv' := [(5, .int (nI (i + 1))), (0, .ref (ρ 0)), (1, .int (nI sl)), (2, .int (nI k)), (3, .int (nI L)), (4, .int (nI (k + (7 ^ L))))]) hx hb dX1_patchLiesIn_41 hl (k := 5) rfl (inc_nI _) (by decide) rfl (fun ls hl => ?_)
            refine lv_goto (tgt := 22) hx hb dX1_patchLiesIn_44 (by decide) ?_
            exact ih_22 (i + 1) (by omega) (by omega) (by rw [show i + 1 - k = (i - k) + 1 by omega, allN, hall, show k + (i - k) = i by omega, c_36]; rfl) (by omega) _ (by first | rfl | exact congrArg nI (by omega)) _ (lv_sub hl [1, 2, 3, 4, 5, 0] rfl)
          ·
            refine lv_iconst (v := nI 0) hx hb dX1_patchLiesIn_39 (by decide) ?_
            exact ret_z hx hb hr hlocks dX1_patchLiesIn_40 (by unfold fitP; rw [allN_f (j := i - k) (by omega) (by rw [show k + (i - k) = i by omega]; exact c_36), Bool.and_false]; rfl)
    exact loop_22 (k + 7 ^ L - k + 1) k (by exact Nat.le_add_right _ _) (by exact Nat.le_refl _) (by rw [Nat.sub_self]; rfl) (Nat.lt_succ_self _) _ rfl _ (lv_sub hl [2, 3, 4, 5, 1, 0] rfl)
  ·
    refine lv_iconst (v := nI 0) hx hb dX1_patchLiesIn_9 (by decide) ?_
    exact ret_z hx hb hr hlocks dX1_patchLiesIn_10 (by unfold fitP; rw [decide_eq_false c_6]; rfl)
theorem nf_X1_packedLevel : nfOk yX1_packedLevel 2 := by unfold nfOk; decide +kernel
set_option maxHeartbeats 4000000 in
set_option maxRecDepth 100000 in
theorem c_X1_packedLevel (l : Launch) (D : va_G) (cI cZ : ClassId) (ρ : Nat → Nat) (ts : Nat) (σ : Nat → Nat → Bool) (κ : Int32) (mk : Nat → Int32) (qu : Nat → Int32) (sl : Nat) (k : Nat) (hsl : sl < 4) (hk : k < 2401) : Rd l yX1_packedLevel wsX1_packedLevel ({ frames := 3, cells := 0, slots := 0, locals := 70 }) [.ref (ρ 0), .int (nI sl), .int (nI k)] (XB D cI cZ ρ ts σ κ mk qu) (nI (lev (σ sl) k)) := by
  refine met_in RX1 (by decide) rfl rfl (Nat.le_of_ble_eq_true rfl) ?_
  intro p e s m below meth c ls S hr hlocks hl hB
  have hx := S.1
  have hb := S.2.1
  have hml := S.2.2.1
  have hown := S.2.2.2.1
  have hts := S.2.2.2.2
  have hl : lv_has ls 4 [(0, .ref (ρ 0)), (1, .int (nI sl)), (2, .int (nI k))] := hl
  obtain ⟨⟨held, hRel, hP⟩, hXK⟩ := hB
  have hK := hXK.1
  have hS : va_S (xA 7 ρ) s.heap s.heap [] := va_S.rf
  refine lv_iconst (v := nI 0) hx hb dX1_packedLevel_0 (by decide) ?_
  refine lv_istore_n (lv' := [(3, .int (nI 0)), (0, .ref (ρ 0)), (1, .int (nI sl)), (2, .int (nI k))]) hx hb dX1_packedLevel_1 rfl hl (by decide) rfl (fun ls hl => ?_)
  have loop_2 : ∀ (n : Nat) (L : Nat), (L ≤ 4) → (∀ j, j < L → fitP (σ sl) k (j + 1) = true) → 4 - L < n → ∀ (x3 : Int32), x3 = nI L → ∀ ls : Array Slot, lv_has ls 4 [(0, .ref (ρ 0)), (1, .int (nI sl)), (2, .int (nI k)), (3, .int x3)] → W p l e (headSpec wsX1_packedLevel ({ frames := 3, cells := 0, slots := 0, locals := 70 })).room s m [.ref (ρ 0), .int (nI sl), .int (nI k)].toArray below meth c s.heap [] 0 0 (MQ below (vp_Si (fun r => r = nI (lev (σ sl) k))) [.ref (ρ 0), .int (nI sl), .int (nI k)].toArray s 0 0 (fun _ => False)) (F0 m 2 ls []) := by
    intro n
    induction n with
    | zero => intro L hL hup hm; exact absurd hm (Nat.not_lt_zero _)
    | succ n ih_2 =>
      intro L hL hup hm_2 x3 e3 ls hl
      subst e3
      refine lv_iload_n hx hb dX1_packedLevel_2 rfl (lv_at hl 3 rfl) ?_
      refine lv_iconst (v := nI 4) hx hb dX1_packedLevel_3 (by decide) ?_
      refine nv_icmp_ge (tgt := 25) hx hb dX1_packedLevel_4 (by decide) (by omega) (by omega) (fun c_4 => ?_) (fun c_4 => ?_)
      ·
        refine lv_iload_n hx hb dX1_packedLevel_25 rfl (lv_at hl 3 rfl) ?_
        exact ret_i hx hb hr hlocks dX1_packedLevel_26 (by first | (rw [lev_is hL hup (fun _ => c_16)]; done) | (rw [lev_is hL hup (fun q => absurd q (by omega))]))
      ·
        refine lv_aload_n hx hb dX1_packedLevel_7 rfl (lv_at hl 0 rfl) ?_
        refine lv_iload_n hx hb dX1_packedLevel_8 rfl (lv_at hl 1 rfl) ?_
        refine lv_iload_n hx hb dX1_packedLevel_9 rfl (lv_at hl 2 rfl) ?_
        refine lv_iload_n hx hb dX1_packedLevel_10 rfl (lv_at hl 3 rfl) ?_
        refine lv_iconst (v := nI 1) hx hb dX1_packedLevel_11 (by decide) ?_
        refine lv_iadd hx hb dX1_packedLevel_12 ?_
        refine nv_as (nI (L + 1)) (nI_add _ _) ?_
        refine rd_V S hl (c_X1_patchLiesIn l D cI cZ ρ ts σ κ mk qu sl k (L + 1) (by omega) (by omega) (by omega)) XB.hb gX1_packedLevel_X1_patchLiesIn rfl rfl nf_X1_patchLiesIn rfl rfl dX1_packedLevel_13 (XP.rc0 hXK hP) (XB.at hXK hS ⟨held, hRel, hP⟩) ?_
        refine nv_ifz_eq (tgt := 25) hx hb dX1_packedLevel_16 (by decide) (fun c_16 => ?_) (fun c_16 => ?_)
        ·
          refine lv_iload_n hx hb dX1_packedLevel_25 rfl (lv_at hl 3 rfl) ?_
          exact ret_i hx hb hr hlocks dX1_packedLevel_26 (by first | (rw [lev_is hL hup (fun _ => c_16)]; done) | (rw [lev_is hL hup (fun q => absurd q (by omega))]))
        ·
          refine lv_iinc (v := nI (L + 1)) (lv' := [(3, .int (nI (L + 1))), (0, .ref (ρ 0)), (1, .int (nI sl)), (2, .int (nI k))]) hx hb dX1_packedLevel_19 hl (k := 3) rfl (inc_nI _) (by decide) rfl (fun ls hl => ?_)
          refine lv_goto (tgt := 2) hx hb dX1_packedLevel_22 (by decide) ?_
          exact ih_2 (L + 1) (by omega) (by exact lt_s hup c_16) (by omega) _ (by first | rfl | exact congrArg nI (by omega)) _ (lv_sub hl [1, 2, 3, 0] rfl)
  exact loop_2 (4 - 0 + 1) 0 (by omega) (by exact lt_0) (Nat.lt_succ_self _) _ rfl _ (lv_sub hl [1, 2, 3, 0] rfl)
theorem nf_X1_countPacked : nfOk yX1_countPacked 1 := by unfold nfOk; decide +kernel
set_option maxHeartbeats 4000000 in
set_option maxRecDepth 100000 in
theorem c_X1_countPacked (l : Launch) (D : va_G) (cI cZ : ClassId) (ρ : Nat → Nat) (ts : Nat) (σ : Nat → Nat → Bool) (κ : Int32) (mk : Nat → Int32) (qu : Nat → Int32) (sl : Nat) (hsl : sl < 4) : Rd l yX1_countPacked wsX1_countPacked ({ frames := 4, cells := 0, slots := 0, locals := 93 }) [.ref (ρ 0), .int (nI sl)] (XB D cI cZ ρ ts σ κ mk qu) (nI (pkC (σ sl))) := by
  refine met_in RX1 (by decide) rfl rfl (Nat.le_of_ble_eq_true rfl) ?_
  intro p e s m below meth c ls S hr hlocks hl hB
  have hx := S.1
  have hb := S.2.1
  have hml := S.2.2.1
  have hown := S.2.2.2.1
  have hts := S.2.2.2.2
  have hl : lv_has ls 5 [(0, .ref (ρ 0)), (1, .int (nI sl))] := hl
  obtain ⟨⟨held, hRel, hP⟩, hXK⟩ := hB
  have hK := hXK.1
  have hS : va_S (xA 7 ρ) s.heap s.heap [] := va_S.rf
  refine lv_iconst (v := nI 0) hx hb dX1_countPacked_0 (by decide) ?_
  refine lv_istore_n (lv' := [(2, .int (nI 0)), (0, .ref (ρ 0)), (1, .int (nI sl))]) hx hb dX1_countPacked_1 rfl hl (by decide) rfl (fun ls hl => ?_)
  refine lv_iconst (v := nI 0) hx hb dX1_countPacked_2 (by decide) ?_
  refine lv_istore_n (lv' := [(3, .int (nI 0)), (2, .int (nI 0)), (0, .ref (ρ 0)), (1, .int (nI sl))]) hx hb dX1_countPacked_3 rfl hl (by decide) rfl (fun ls hl => ?_)
  refine lv_iconst (v := nI 0) hx hb dX1_countPacked_4 (by decide) ?_
  refine lv_istore (lv' := [(4, .int (nI 0)), (3, .int (nI 0)), (2, .int (nI 0)), (0, .ref (ρ 0)), (1, .int (nI sl))]) hx hb dX1_countPacked_5 hl (by decide) rfl (fun ls hl => ?_)
  have loop_7 : ∀ (n : Nat) (i : Nat), (i ≤ 2401) → 2401 - i < n → ∀ (x2 x3 x4 : Int32), x2 = nI (fb_ct (isP (σ sl)) i) → x3 = nI (pkT (σ sl) i) → x4 = nI i → ∀ ls : Array Slot, lv_has ls 5 [(0, .ref (ρ 0)), (1, .int (nI sl)), (2, .int x2), (3, .int x3), (4, .int x4)] → W p l e (headSpec wsX1_countPacked ({ frames := 4, cells := 0, slots := 0, locals := 93 })).room s m [.ref (ρ 0), .int (nI sl)].toArray below meth c s.heap [] 0 0 (MQ below (vp_Si (fun r => r = nI (pkC (σ sl)))) [.ref (ρ 0), .int (nI sl)].toArray s 0 0 (fun _ => False)) (F0 m 7 ls []) := by
    intro n
    induction n with
    | zero => intro i hi hm; exact absurd hm (Nat.not_lt_zero _)
    | succ n ih_7 =>
      intro i hi hm_7 x2 x3 x4 e2 e3 e4 ls hl
      subst e2
      subst e3
      subst e4
      refine lv_iload hx hb dX1_countPacked_7 (lv_at hl 4 rfl) ?_
      refine lv_sipush (v := nI 2401) hx hb dX1_countPacked_9 (by decide) ?_
      refine nv_icmp_ge (tgt := 54) hx hb dX1_countPacked_12 (by decide) (by omega) (by omega) (fun c_12 => ?_) (fun c_12 => ?_)
      ·
        refine lv_iload_n hx hb dX1_countPacked_54 rfl (lv_at hl 2 rfl) ?_
        exact ret_i hx hb hr hlocks dX1_countPacked_55 (by rw [show i = 2401 by omega]; rfl)
      ·
        refine lv_iload hx hb dX1_countPacked_15 (lv_at hl 4 rfl) ?_
        refine lv_iload_n hx hb dX1_countPacked_17 rfl (lv_at hl 3 rfl) ?_
        have hT := pkT_le (σ sl) i
        refine nv_icmp_lt (tgt := 48) hx hb dX1_countPacked_18 (by decide) (by omega) (by omega) (fun c_18 => ?_) (fun c_18 => ?_)
        ·
          refine lv_iinc (v := nI (i + 1)) (lv' := [(4, .int (nI (i + 1))), (0, .ref (ρ 0)), (1, .int (nI sl)), (2, .int (nI (fb_ct (isP (σ sl)) i))), (3, .int (nI (pkT (σ sl) i)))]) hx hb dX1_countPacked_48 hl (k := 4) rfl (inc_nI _) (by decide) rfl (fun ls hl => ?_)
          refine lv_goto (tgt := 7) hx hb dX1_countPacked_51 (by decide) ?_
          exact ih_7 (i + 1) (by omega) (by omega) _ _ _ (by first | (rw [fb_ct_succ, (isP_t c_18 c_28).1]; rfl) | (rw [fb_ct_succ, (isP_f1 c_18).1]; rfl) | (rw [fb_ct_succ, (isP_f2 c_28).1]; rfl)) (by first | (rw [(isP_t c_18 c_28).2]; done) | (rw [(isP_f1 c_18).2]; done) | (rw [(isP_f2 c_28).2]; done)) (by first | rfl | exact congrArg nI (by omega)) _ (lv_sub hl [1, 2, 3, 4, 0] rfl)
        ·
          refine lv_aload_n hx hb dX1_countPacked_21 rfl (lv_at hl 0 rfl) ?_
          refine lv_iload_n hx hb dX1_countPacked_22 rfl (lv_at hl 1 rfl) ?_
          refine lv_iload hx hb dX1_countPacked_23 (lv_at hl 4 rfl) ?_
          refine rd_V S hl (c_X1_holds l D cI cZ ρ ts σ κ mk qu sl (some i) (by omega) (by exact fun j h => by first | exact nbo_lt h | (cases h; omega))) XB.hb gX1_countPacked_X1_holds rfl rfl nf_X1_holds rfl rfl dX1_countPacked_25 (XP.rc0 hXK hP) (XB.at hXK hS ⟨held, hRel, hP⟩) ?_
          refine nv_as (bI (σ sl i)) rfl ?_
          refine nv_ifz_eq (tgt := 48) hx hb dX1_countPacked_28 (by decide) (fun c_28 => ?_) (fun c_28 => ?_)
          ·
            refine lv_iinc (v := nI (i + 1)) (lv' := [(4, .int (nI (i + 1))), (0, .ref (ρ 0)), (1, .int (nI sl)), (2, .int (nI (fb_ct (isP (σ sl)) i))), (3, .int (nI (pkT (σ sl) i)))]) hx hb dX1_countPacked_48 hl (k := 4) rfl (inc_nI _) (by decide) rfl (fun ls hl => ?_)
            refine lv_goto (tgt := 7) hx hb dX1_countPacked_51 (by decide) ?_
            exact ih_7 (i + 1) (by omega) (by omega) _ _ _ (by first | (rw [fb_ct_succ, (isP_t c_18 c_28).1]; rfl) | (rw [fb_ct_succ, (isP_f1 c_18).1]; rfl) | (rw [fb_ct_succ, (isP_f2 c_28).1]; rfl)) (by first | (rw [(isP_t c_18 c_28).2]; done) | (rw [(isP_f1 c_18).2]; done) | (rw [(isP_f2 c_28).2]; done)) (by first | rfl | exact congrArg nI (by omega)) _ (lv_sub hl [1, 2, 3, 4, 0] rfl)
          ·
            refine lv_iload hx hb dX1_countPacked_31 (lv_at hl 4 rfl) ?_
            refine lv_aload_n hx hb dX1_countPacked_33 rfl (lv_at hl 0 rfl) ?_
            refine lv_iload_n hx hb dX1_countPacked_34 rfl (lv_at hl 1 rfl) ?_
            refine lv_iload hx hb dX1_countPacked_35 (lv_at hl 4 rfl) ?_
            refine rd_V S hl (c_X1_packedLevel l D cI cZ ρ ts σ κ mk qu sl i (by omega) (by omega)) XB.hb gX1_countPacked_X1_packedLevel rfl rfl nf_X1_packedLevel rfl rfl dX1_countPacked_37 (XP.rc0 hXK hP) (XB.at hXK hS ⟨held, hRel, hP⟩) ?_
            have hLv := lev_le (σ sl) i
            refine rd_S S hl (c_X1_patchSize l (lev (σ sl) i) (by omega)) HB.tt gX1_countPacked_X1_patchSize rfl nf_X1_patchSize rfl rfl dX1_countPacked_40  (fun _ _ _ => trivial) ?_
            refine lv_iadd hx hb dX1_countPacked_43 ?_
            refine nv_as (nI (i + (7 ^ (lev (σ sl) i)))) (nI_add _ _) ?_
            refine lv_istore_n (lv' := [(3, .int (nI (i + (7 ^ (lev (σ sl) i))))), (0, .ref (ρ 0)), (1, .int (nI sl)), (2, .int (nI (fb_ct (isP (σ sl)) i))), (4, .int (nI i))]) hx hb dX1_countPacked_44 rfl hl (by decide) rfl (fun ls hl => ?_)
            refine lv_iinc (v := nI (fb_ct (isP (σ sl)) i + 1)) (lv' := [(2, .int (nI (fb_ct (isP (σ sl)) i + 1))), (3, .int (nI (i + (7 ^ (lev (σ sl) i))))), (0, .ref (ρ 0)), (1, .int (nI sl)), (4, .int (nI i))]) hx hb dX1_countPacked_45 hl (k := 3) rfl (inc_nI _) (by decide) rfl (fun ls hl => ?_)
            refine lv_iinc (v := nI (i + 1)) (lv' := [(4, .int (nI (i + 1))), (2, .int (nI (fb_ct (isP (σ sl)) i + 1))), (3, .int (nI (i + (7 ^ (lev (σ sl) i))))), (0, .ref (ρ 0)), (1, .int (nI sl))]) hx hb dX1_countPacked_48 hl (k := 4) rfl (inc_nI _) (by decide) rfl (fun ls hl => ?_)
            refine lv_goto (tgt := 7) hx hb dX1_countPacked_51 (by decide) ?_
            exact ih_7 (i + 1) (by omega) (by omega) _ _ _ (by first | (rw [fb_ct_succ, (isP_t c_18 c_28).1]; rfl) | (rw [fb_ct_succ, (isP_f1 c_18).1]; rfl) | (rw [fb_ct_succ, (isP_f2 c_28).1]; rfl)) (by first | (rw [(isP_t c_18 c_28).2]; done) | (rw [(isP_f1 c_18).2]; done) | (rw [(isP_f2 c_28).2]; done)) (by first | rfl | exact congrArg nI (by omega)) _ (lv_sub hl [3, 4, 1, 2, 0] rfl)
  exact loop_7 (2401 - 0 + 1) 0 (by omega) (Nat.lt_succ_self _) _ _ _ (by first | rfl | exact congrArg nI (by omega)) (by first | rfl | exact congrArg nI (by omega)) rfl _ (lv_sub hl [3, 4, 2, 1, 0] rfl)
theorem nf_X1_countPackedOfAll : nfOk yX1_countPackedOfAll 0 := by unfold nfOk; decide +kernel
set_option maxHeartbeats 4000000 in
set_option maxRecDepth 100000 in
theorem c_X1_countPackedOfAll (l : Launch) (D : va_G) (cI cZ : ClassId) (ρ : Nat → Nat) (ts : Nat) (σ : Nat → Nat → Bool) (κ : Int32) (mk : Nat → Int32) (qu : Nat → Int32) : Rd l yX1_countPackedOfAll wsX1_countPackedOfAll ({ frames := 5, cells := 0, slots := 0, locals := 117 }) [.ref (ρ 0)] (XB D cI cZ ρ ts σ κ mk qu) (nI (pkA σ 4)) := by
  refine met_in RX1 (by decide) rfl rfl (Nat.le_of_ble_eq_true rfl) ?_
  intro p e s m below meth c ls S hr hlocks hl hB
  have hx := S.1
  have hb := S.2.1
  have hml := S.2.2.1
  have hown := S.2.2.2.1
  have hts := S.2.2.2.2
  have hl : lv_has ls 3 [(0, .ref (ρ 0))] := hl
  obtain ⟨⟨held, hRel, hP⟩, hXK⟩ := hB
  have hK := hXK.1
  have hS : va_S (xA 7 ρ) s.heap s.heap [] := va_S.rf
  refine lv_iconst (v := nI 0) hx hb dX1_countPackedOfAll_0 (by decide) ?_
  refine lv_istore_n (lv' := [(1, .int (nI 0)), (0, .ref (ρ 0))]) hx hb dX1_countPackedOfAll_1 rfl hl (by decide) rfl (fun ls hl => ?_)
  refine lv_iconst (v := nI 0) hx hb dX1_countPackedOfAll_2 (by decide) ?_
  refine lv_istore_n (lv' := [(2, .int (nI 0)), (1, .int (nI 0)), (0, .ref (ρ 0))]) hx hb dX1_countPackedOfAll_3 rfl hl (by decide) rfl (fun ls hl => ?_)
  have loop_4 : ∀ (n : Nat) (i : Nat), (i ≤ 4) → 4 - i < n → ∀ (x1 x2 : Int32), x1 = nI (pkA σ i) → x2 = nI i → ∀ ls : Array Slot, lv_has ls 3 [(0, .ref (ρ 0)), (1, .int x1), (2, .int x2)] → W p l e (headSpec wsX1_countPackedOfAll ({ frames := 5, cells := 0, slots := 0, locals := 117 })).room s m [.ref (ρ 0)].toArray below meth c s.heap [] 0 0 (MQ below (vp_Si (fun r => r = nI (pkA σ 4))) [.ref (ρ 0)].toArray s 0 0 (fun _ => False)) (F0 m 4 ls []) := by
    intro n
    induction n with
    | zero => intro i hi hm; exact absurd hm (Nat.not_lt_zero _)
    | succ n ih_4 =>
      intro i hi hm_4 x1 x2 e1 e2 ls hl
      subst e1
      subst e2
      refine lv_iload_n hx hb dX1_countPackedOfAll_4 rfl (lv_at hl 2 rfl) ?_
      refine lv_iconst (v := nI 4) hx hb dX1_countPackedOfAll_5 (by decide) ?_
      refine nv_icmp_ge (tgt := 23) hx hb dX1_countPackedOfAll_6 (by decide) (by omega) (by omega) (fun c_6 => ?_) (fun c_6 => ?_)
      ·
        refine lv_iload_n hx hb dX1_countPackedOfAll_23 rfl (lv_at hl 1 rfl) ?_
        exact ret_i hx hb hr hlocks dX1_countPackedOfAll_24 (by rw [show i = 4 by omega])
      ·
        refine lv_iload_n hx hb dX1_countPackedOfAll_9 rfl (lv_at hl 1 rfl) ?_
        refine lv_aload_n hx hb dX1_countPackedOfAll_10 rfl (lv_at hl 0 rfl) ?_
        refine lv_iload_n hx hb dX1_countPackedOfAll_11 rfl (lv_at hl 2 rfl) ?_
        refine rd_V S hl (c_X1_countPacked l D cI cZ ρ ts σ κ mk qu i (by omega)) XB.hb gX1_countPackedOfAll_X1_countPacked rfl rfl nf_X1_countPacked rfl rfl dX1_countPackedOfAll_12 (XP.rc0 hXK hP) (XB.at hXK hS ⟨held, hRel, hP⟩) ?_
        refine lv_iadd hx hb dX1_countPackedOfAll_15 ?_
        refine nv_as (nI (pkA σ i + (pkC (σ i)))) (nI_add _ _) ?_
        refine lv_istore_n (lv' := [(1, .int (nI (pkA σ i + (pkC (σ i))))), (0, .ref (ρ 0)), (2, .int (nI i))]) hx hb dX1_countPackedOfAll_16 rfl hl (by decide) rfl (fun ls hl => ?_)
        refine lv_iinc (v := nI (i + 1)) (lv' := [(2, .int (nI (i + 1))), (1, .int (nI (pkA σ i + (pkC (σ i))))), (0, .ref (ρ 0))]) hx hb dX1_countPackedOfAll_17 hl (k := 2) rfl (inc_nI _) (by decide) rfl (fun ls hl => ?_)
        refine lv_goto (tgt := 4) hx hb dX1_countPackedOfAll_20 (by decide) ?_
        exact ih_4 (i + 1) (by omega) (by omega) _ _ (by rfl) (by first | rfl | exact congrArg nI (by omega)) _ (lv_sub hl [2, 1, 0] rfl)
  exact loop_4 (4 - 0 + 1) 0 (by omega) (Nat.lt_succ_self _) _ _ (by first | rfl | exact congrArg nI (by omega)) rfl _ (lv_sub hl [2, 1, 0] rfl)
theorem nf_X1_packedKey : nfOk yX1_packedKey 2 := by unfold nfOk; decide +kernel
set_option maxHeartbeats 4000000 in
set_option maxRecDepth 100000 in
theorem c_X1_packedKey (l : Launch) (D : va_G) (cI cZ : ClassId) (ρ : Nat → Nat) (ts : Nat) (σ : Nat → Nat → Bool) (κ : Int32) (mk : Nat → Int32) (qu : Nat → Int32) (sl : Nat) (x : Int32) (hsl : sl < 4) : Rd l yX1_packedKey wsX1_packedKey ({ frames := 4, cells := 0, slots := 0, locals := 93 }) [.ref (ρ 0), .int (nI sl), .int x] (XB D cI cZ ρ ts σ κ mk qu) (oI (pkKey (σ sl) x)) := by
  refine met_in RX1 (by decide) rfl rfl (Nat.le_of_ble_eq_true rfl) ?_
  intro p e s m below meth c ls S hr hlocks hl hB
  have hx := S.1
  have hb := S.2.1
  have hml := S.2.2.1
  have hown := S.2.2.2.1
  have hts := S.2.2.2.2
  have hl : lv_has ls 6 [(0, .ref (ρ 0)), (1, .int (nI sl)), (2, .int x)] := hl
  obtain ⟨⟨held, hRel, hP⟩, hXK⟩ := hB
  have hK := hXK.1
  have hS : va_S (xA 7 ρ) s.heap s.heap [] := va_S.rf
  refine lv_iconst (v := nI 0) hx hb dX1_packedKey_0 (by decide) ?_
  refine lv_istore_n (lv' := [(3, .int (nI 0)), (0, .ref (ρ 0)), (1, .int (nI sl)), (2, .int x)]) hx hb dX1_packedKey_1 rfl hl (by decide) rfl (fun ls hl => ?_)
  refine lv_iconst (v := nI 0) hx hb dX1_packedKey_2 (by decide) ?_
  refine lv_istore (lv' := [(4, .int (nI 0)), (3, .int (nI 0)), (0, .ref (ρ 0)), (1, .int (nI sl)), (2, .int x)]) hx hb dX1_packedKey_3 hl (by decide) rfl (fun ls hl => ?_)
  refine lv_iconst (v := nI 0) hx hb dX1_packedKey_5 (by decide) ?_
  refine lv_istore (lv' := [(5, .int (nI 0)), (4, .int (nI 0)), (3, .int (nI 0)), (0, .ref (ρ 0)), (1, .int (nI sl)), (2, .int x)]) hx hb dX1_packedKey_6 hl (by decide) rfl (fun ls hl => ?_)
  have loop_8 : ∀ (n : Nat) (i : Nat), (i ≤ 2401) → (∀ j, j < i → pkQ (σ sl) x j = false) → 2401 - i < n → ∀ (x3 x4 x5 : Int32), x3 = nI (fb_ct (isP (σ sl)) i) → x4 = nI (pkT (σ sl) i) → x5 = nI i → ∀ ls : Array Slot, lv_has ls 6 [(0, .ref (ρ 0)), (1, .int (nI sl)), (2, .int x), (3, .int x3), (4, .int x4), (5, .int x5)] → W p l e (headSpec wsX1_packedKey ({ frames := 4, cells := 0, slots := 0, locals := 93 })).room s m [.ref (ρ 0), .int (nI sl), .int x].toArray below meth c s.heap [] 0 0 (MQ below (vp_Si (fun r => r = oI (pkKey (σ sl) x))) [.ref (ρ 0), .int (nI sl), .int x].toArray s 0 0 (fun _ => False)) (F0 m 8 ls []) := by
    intro n
    induction n with
    | zero => intro i hi hno hm; exact absurd hm (Nat.not_lt_zero _)
    | succ n ih_8 =>
      intro i hi hno hm_8 x3 x4 x5 e3 e4 e5 ls hl
      subst e3
      subst e4
      subst e5
      refine lv_iload hx hb dX1_packedKey_8 (lv_at hl 5 rfl) ?_
      refine lv_sipush (v := nI 2401) hx hb dX1_packedKey_10 (by decide) ?_
      refine nv_icmp_ge (tgt := 65) hx hb dX1_packedKey_13 (by decide) (by omega) (by omega) (fun c_13 => ?_) (fun c_13 => ?_)
      ·
        refine lv_bipush (v := (-6)) hx hb dX1_packedKey_65 (by decide) ?_
        exact ret_i hx hb hr hlocks dX1_packedKey_67 (by unfold pkKey; rw [lst_miss (fun e he => hno e (by omega))]; rfl)
      ·
        refine lv_iload hx hb dX1_packedKey_16 (lv_at hl 5 rfl) ?_
        refine lv_iload hx hb dX1_packedKey_18 (lv_at hl 4 rfl) ?_
        have hT := pkT_le (σ sl) i
        refine nv_icmp_lt (tgt := 59) hx hb dX1_packedKey_20 (by decide) (by omega) (by omega) (fun c_20 => ?_) (fun c_20 => ?_)
        ·
          refine lv_iinc (v := nI (i + 1)) (lv' := [(5, .int (nI (i + 1))), (0, .ref (ρ 0)), (1, .int (nI sl)), (2, .int x), (3, .int (nI (fb_ct (isP (σ sl)) i))), (4, .int (nI (pkT (σ sl) i)))]) hx hb dX1_packedKey_59 hl (k := 5) rfl (inc_nI _) (by decide) rfl (fun ls hl => ?_)
          refine lv_goto (tgt := 8) hx hb dX1_packedKey_62 (by decide) ?_
          exact ih_8 (i + 1) (by omega) (by first | exact lt_s hno (pkQ_f1 c_20) | exact lt_s hno (pkQ_f2 c_30) | exact lt_s hno (pkQ_f3 c_35)) (by omega) _ _ _ (by first | (rw [fb_ct_succ, (isP_t c_20 c_30).1]; rfl) | (rw [fb_ct_succ, (isP_f1 c_20).1]; rfl) | (rw [fb_ct_succ, (isP_f2 c_30).1]; rfl)) (by first | (rw [(isP_t c_20 c_30).2]; done) | (rw [(isP_f1 c_20).2]; done) | (rw [(isP_f2 c_30).2]; done)) (by first | rfl | exact congrArg nI (by omega)) _ (lv_sub hl [1, 2, 3, 4, 5, 0] rfl)
        ·
          refine lv_aload_n hx hb dX1_packedKey_23 rfl (lv_at hl 0 rfl) ?_
          refine lv_iload_n hx hb dX1_packedKey_24 rfl (lv_at hl 1 rfl) ?_
          refine lv_iload hx hb dX1_packedKey_25 (lv_at hl 5 rfl) ?_
          refine rd_V S hl (c_X1_holds l D cI cZ ρ ts σ κ mk qu sl (some i) (by omega) (by exact fun j h => by first | exact nbo_lt h | (cases h; omega))) XB.hb gX1_packedKey_X1_holds rfl rfl nf_X1_holds rfl rfl dX1_packedKey_27 (XP.rc0 hXK hP) (XB.at hXK hS ⟨held, hRel, hP⟩) ?_
          refine nv_as (bI (σ sl i)) rfl ?_
          refine nv_ifz_eq (tgt := 59) hx hb dX1_packedKey_30 (by decide) (fun c_30 => ?_) (fun c_30 => ?_)
          ·
            refine lv_iinc (v := nI (i + 1)) (lv' := [(5, .int (nI (i + 1))), (0, .ref (ρ 0)), (1, .int (nI sl)), (2, .int x), (3, .int (nI (fb_ct (isP (σ sl)) i))), (4, .int (nI (pkT (σ sl) i)))]) hx hb dX1_packedKey_59 hl (k := 5) rfl (inc_nI _) (by decide) rfl (fun ls hl => ?_)
            refine lv_goto (tgt := 8) hx hb dX1_packedKey_62 (by decide) ?_
            exact ih_8 (i + 1) (by omega) (by first | exact lt_s hno (pkQ_f1 c_20) | exact lt_s hno (pkQ_f2 c_30) | exact lt_s hno (pkQ_f3 c_35)) (by omega) _ _ _ (by first | (rw [fb_ct_succ, (isP_t c_20 c_30).1]; rfl) | (rw [fb_ct_succ, (isP_f1 c_20).1]; rfl) | (rw [fb_ct_succ, (isP_f2 c_30).1]; rfl)) (by first | (rw [(isP_t c_20 c_30).2]; done) | (rw [(isP_f1 c_20).2]; done) | (rw [(isP_f2 c_30).2]; done)) (by first | rfl | exact congrArg nI (by omega)) _ (lv_sub hl [1, 2, 3, 4, 5, 0] rfl)
          ·
            refine lv_iload_n hx hb dX1_packedKey_33 rfl (lv_at hl 3 rfl) ?_
            refine lv_iload_n hx hb dX1_packedKey_34 rfl (lv_at hl 2 rfl) ?_
            refine lv_icmp_ne (tgt := 41) hx hb dX1_packedKey_35 (by decide) (fun c_35 => ?_) (fun c_35 => ?_)
            ·
              refine lv_iload hx hb dX1_packedKey_41 (lv_at hl 5 rfl) ?_
              refine lv_aload_n hx hb dX1_packedKey_43 rfl (lv_at hl 0 rfl) ?_
              refine lv_iload_n hx hb dX1_packedKey_44 rfl (lv_at hl 1 rfl) ?_
              refine lv_iload hx hb dX1_packedKey_45 (lv_at hl 5 rfl) ?_
              refine rd_V S hl (c_X1_packedLevel l D cI cZ ρ ts σ κ mk qu sl i (by omega) (by omega)) XB.hb gX1_packedKey_X1_packedLevel rfl rfl nf_X1_packedLevel rfl rfl dX1_packedKey_47 (XP.rc0 hXK hP) (XB.at hXK hS ⟨held, hRel, hP⟩) ?_
              have hLv := lev_le (σ sl) i
              refine rd_S S hl (c_X1_patchSize l (lev (σ sl) i) (by omega)) HB.tt gX1_packedKey_X1_patchSize rfl nf_X1_patchSize rfl rfl dX1_packedKey_50  (fun _ _ _ => trivial) ?_
              refine lv_iadd hx hb dX1_packedKey_53 ?_
              refine nv_as (nI (i + (7 ^ (lev (σ sl) i)))) (nI_add _ _) ?_
              refine lv_istore (lv' := [(4, .int (nI (i + (7 ^ (lev (σ sl) i))))), (0, .ref (ρ 0)), (1, .int (nI sl)), (2, .int x), (3, .int (nI (fb_ct (isP (σ sl)) i))), (5, .int (nI i))]) hx hb dX1_packedKey_54 hl (by decide) rfl (fun ls hl => ?_)
              refine lv_iinc (v := nI (fb_ct (isP (σ sl)) i + 1)) (lv' := [(3, .int (nI (fb_ct (isP (σ sl)) i + 1))), (4, .int (nI (i + (7 ^ (lev (σ sl) i))))), (0, .ref (ρ 0)), (1, .int (nI sl)), (2, .int x), (5, .int (nI i))]) hx hb dX1_packedKey_56 hl (k := 4) rfl (inc_nI _) (by decide) rfl (fun ls hl => ?_)
              refine lv_iinc (v := nI (i + 1)) (lv' := [(5, .int (nI (i + 1))), (3, .int (nI (fb_ct (isP (σ sl)) i + 1))), (4, .int (nI (i + (7 ^ (lev (σ sl) i))))), (0, .ref (ρ 0)), (1, .int (nI sl)), (2, .int x)]) hx hb dX1_packedKey_59 hl (k := 5) rfl (inc_nI _) (by decide) rfl (fun ls hl => ?_)
              refine lv_goto (tgt := 8) hx hb dX1_packedKey_62 (by decide) ?_
              exact ih_8 (i + 1) (by omega) (by first | exact lt_s hno (pkQ_f1 c_20) | exact lt_s hno (pkQ_f2 c_30) | exact lt_s hno (pkQ_f3 c_35)) (by omega) _ _ _ (by first | (rw [fb_ct_succ, (isP_t c_20 c_30).1]; rfl) | (rw [fb_ct_succ, (isP_f1 c_20).1]; rfl) | (rw [fb_ct_succ, (isP_f2 c_30).1]; rfl)) (by first | (rw [(isP_t c_20 c_30).2]; done) | (rw [(isP_f1 c_20).2]; done) | (rw [(isP_f2 c_30).2]; done)) (by first | rfl | exact congrArg nI (by omega)) _ (lv_sub hl [3, 4, 5, 1, 2, 0] rfl)
            ·
              refine lv_iload hx hb dX1_packedKey_38 (lv_at hl 5 rfl) ?_
              have hq : pkQ (σ sl) x i = true := by simp [pkQ, (isP_t c_20 c_30).1, c_35]
              exact ret_i hx hb hr hlocks dX1_packedKey_40 (by unfold pkKey; rw [lst_hit (by omega) hq (fun e he hp => pkQ_one he (by omega) hp hq)]; rfl)
  exact loop_8 (2401 - 0 + 1) 0 (by omega) (by exact lt_0) (Nat.lt_succ_self _) _ _ _ (by first | rfl | exact congrArg nI (by omega)) (by first | rfl | exact congrArg nI (by omega)) rfl _ (lv_sub hl [3, 4, 5, 2, 1, 0] rfl)
theorem nf_X1_packed : nfOk yX1_packed 3 := by unfold nfOk; decide +kernel
set_option maxHeartbeats 4000000 in
set_option maxRecDepth 100000 in
theorem c_X1_packed (l : Launch) (D : va_G) (cI cZ : ClassId) (ρ : Nat → Nat) (ts : Nat) (σ : Nat → Nat → Bool) (κ : Int32) (mk : Nat → Int32) (qu : Nat → Int32) (a : Int32) (x : Int32) (y : Int32) : Rd l yX1_packed wsX1_packed ({ frames := 5, cells := 0, slots := 0, locals := 118 }) [.ref (ρ 0), .int a, .int x, .int y] (XB D cI cZ ρ ts σ κ mk qu) (packedR σ a x y) := by
  refine met_in RX1 (by decide) rfl rfl (Nat.le_of_ble_eq_true rfl) ?_
  intro p e s m below meth c ls S hr hlocks hl hB
  have hx := S.1
  have hb := S.2.1
  have hml := S.2.2.1
  have hown := S.2.2.2.1
  have hts := S.2.2.2.2
  have hl : lv_has ls 5 [(0, .ref (ρ 0)), (1, .int a), (2, .int x), (3, .int y)] := hl
  obtain ⟨⟨held, hRel, hP⟩, hXK⟩ := hB
  have hK := hXK.1
  have hS : va_S (xA 7 ρ) s.heap s.heap [] := va_S.rf
  refine lv_iload_n hx hb dX1_packed_0 rfl (lv_at hl 1 rfl) ?_
  refine rd_S S hl (c_X1_isSlot l a) HB.tt gX1_packed_X1_isSlot rfl nf_X1_isSlot rfl rfl dX1_packed_1  (fun _ _ _ => trivial) ?_
  refine nv_ifz_ne (tgt := 9) hx hb dX1_packed_4 (by decide) (fun c_4 => ?_) (fun c_4 => ?_)
  ·
    obtain ⟨sl, hsl, hxsl⟩ := wI_nat c_4 (by decide)
    subst hxsl
    have hcsl : (nI sl).toNatClampNeg = sl := nI_clamp (by omega)
    refine lv_iload_n hx hb dX1_packed_9 rfl (lv_at hl 3 rfl) ?_
    refine lv_iconst (v := nI 0) hx hb dX1_packed_10 (by decide) ?_
    refine lv_iconst (v := nI 1) hx hb dX1_packed_11 (by decide) ?_
    refine rd_S S hl (c_X1_within l y (nI 0) (nI 1)) HB.tt gX1_packed_X1_within rfl nf_X1_within rfl rfl dX1_packed_12  (fun _ _ _ => trivial) ?_
    refine nv_ifz_ne (tgt := 21) hx hb dX1_packed_15 (by decide) (fun c_15 => ?_) (fun c_15 => ?_)
    ·
      obtain ⟨w, hw, hxw⟩ := wI_nat c_15 (by decide)
      subst hxw
      have hcw : (nI w).toNatClampNeg = w := nI_clamp (by omega)
      refine lv_aload_n hx hb dX1_packed_21 rfl (lv_at hl 0 rfl) ?_
      refine lv_iload_n hx hb dX1_packed_22 rfl (lv_at hl 1 rfl) ?_
      refine lv_iload_n hx hb dX1_packed_23 rfl (lv_at hl 2 rfl) ?_
      refine rd_V S hl (c_X1_packedKey l D cI cZ ρ ts σ κ mk qu sl x (by omega)) XB.hb gX1_packed_X1_packedKey rfl rfl nf_X1_packedKey rfl rfl dX1_packed_24 (XP.rc0 hXK hP) (XB.at hXK hS ⟨held, hRel, hP⟩) ?_
      refine lv_istore (lv' := [(4, .int (oI (pkKey (σ sl) x))), (0, .ref (ρ 0)), (1, .int (nI sl)), (2, .int x), (3, .int (nI w))]) hx hb dX1_packed_27 hl (by decide) rfl (fun ls hl => ?_)
      rcases hpk : pkKey (σ sl) x with _ | k
      ·
        rw [hpk] at hl
        have hl : lv_has ls 5 [(4, .int (-6)), (0, .ref (ρ 0)), (1, .int (nI sl)), (2, .int x), (3, .int (nI w))] := hl
        refine lv_iload hx hb dX1_packed_29 (lv_at hl 0 rfl) ?_
        refine lv_bipush (v := (-6)) hx hb dX1_packed_31 (by decide) ?_
        refine lv_icmp_eq (tgt := 40) hx hb dX1_packed_33 (by decide) (fun c_33 => ?_) (fun c_33 => ?_)
        ·
          refine lv_iload hx hb dX1_packed_40 (lv_at hl 0 rfl) ?_
          exact ret_i hx hb hr hlocks dX1_packed_42 (by unfold packedR gs; rw [show isS (nI sl) = true from c_4, c_15, show cl (nI sl) = sl from hcsl, show cl (nI w) = w from hcw, hpk]; first | rfl | (simp [hw0]))
        ·
          exact absurd rfl c_33
      ·
        have hkl := pkKey_lt hpk
        rw [hpk] at hl
        have hl : lv_has ls 5 [(4, .int (nI k)), (0, .ref (ρ 0)), (1, .int (nI sl)), (2, .int x), (3, .int (nI w))] := hl
        refine lv_iload hx hb dX1_packed_29 (lv_at hl 0 rfl) ?_
        refine lv_bipush (v := (-6)) hx hb dX1_packed_31 (by decide) ?_
        refine lv_icmp_eq (tgt := 40) hx hb dX1_packed_33 (by decide) (fun c_33 => ?_) (fun c_33 => ?_)
        ·
          exact absurd c_33 (nI_ne6 (by omega))
        ·
          refine lv_iload_n hx hb dX1_packed_36 rfl (lv_at hl 4 rfl) ?_
          refine lv_if_ne (tgt := 43) hx hb dX1_packed_37 (by decide) (fun c_37 => ?_) (fun c_37 => ?_)
          ·
            have hw0 : w ≠ 0 := fun q => c_37 (by rw [q]; rfl)
            refine lv_aload_n hx hb dX1_packed_43 rfl (lv_at hl 1 rfl) ?_
            refine lv_iload_n hx hb dX1_packed_44 rfl (lv_at hl 2 rfl) ?_
            refine lv_iload hx hb dX1_packed_45 (lv_at hl 0 rfl) ?_
            refine rd_V S hl (c_X1_packedLevel l D cI cZ ρ ts σ κ mk qu sl k (by omega) (by omega)) XB.hb gX1_packed_X1_packedLevel rfl rfl nf_X1_packedLevel rfl rfl dX1_packed_47 (XP.rc0 hXK hP) (XB.at hXK hS ⟨held, hRel, hP⟩) ?_
            exact ret_i hx hb hr hlocks dX1_packed_50 (by unfold packedR gs; rw [show isS (nI sl) = true from c_4, c_15, show cl (nI sl) = sl from hcsl, show cl (nI w) = w from hcw, hpk]; simp [hw0])
          ·
            have hw0 : w = 0 := nz0 c_37 (by omega)
            refine lv_iload hx hb dX1_packed_40 (lv_at hl 0 rfl) ?_
            exact ret_i hx hb hr hlocks dX1_packed_42 (by unfold packedR gs; rw [show isS (nI sl) = true from c_4, c_15, show cl (nI sl) = sl from hcsl, show cl (nI w) = w from hcw, hpk]; first | rfl | (simp [hw0]))
    ·
      refine lv_bipush (v := (-2)) hx hb dX1_packed_18 (by decide) ?_
      exact ret_i hx hb hr hlocks dX1_packed_20 (by first | (simp [packedR, gd, gs, c_4, c_15]; done) | (simp [packedR, gd, gs, c_4]; done))
  ·
    refine lv_iconst (v := (-1)) hx hb dX1_packed_7 (by decide) ?_
    exact ret_i hx hb hr hlocks dX1_packed_8 (by first | (simp [packedR, gd, gs, c_4, c_15]; done) | (simp [packedR, gd, gs, c_4]; done))
theorem nf_X1_count : nfOk yX1_count 1 := by unfold nfOk; decide +kernel
set_option maxHeartbeats 4000000 in
set_option maxRecDepth 100000 in
theorem c_X1_count (l : Launch) (D : va_G) (cI cZ : ClassId) (ρ : Nat → Nat) (ts : Nat) (σ : Nat → Nat → Bool) (κ : Int32) (mk : Nat → Int32) (qu : Nat → Int32) (x : Int32) : Rd l yX1_count wsX1_count ({ frames := 6, cells := 0, slots := 0, locals := 139 }) [.ref (ρ 0), .int x] (XB D cI cZ ρ ts σ κ mk qu) (countR σ κ x) := by
  refine met_in RX1 (by decide) rfl rfl (Nat.le_of_ble_eq_true rfl) ?_
  intro p e s m below meth c ls S hr hlocks hl hB
  have hx := S.1
  have hb := S.2.1
  have hml := S.2.2.1
  have hown := S.2.2.2.1
  have hts := S.2.2.2.2
  have hl : lv_has ls 2 [(0, .ref (ρ 0)), (1, .int x)] := hl
  obtain ⟨⟨held, hRel, hP⟩, hXK⟩ := hB
  have hK := hXK.1
  have hS : va_S (xA 7 ρ) s.heap s.heap [] := va_S.rf
  refine lv_iload_n hx hb dX1_count_0 rfl (lv_at hl 1 rfl) ?_
  rcases sw_2 x with rfl | rfl | rfl | ho
  ·
    refine lv_tableIn (off := 27) (tgt := 28) hx hb dX1_count_1 (by decide) (by decide) (by decide) (by decide) ?_
    refine lv_aload_n hx hb dX1_count_28 rfl (lv_at hl 0 rfl) ?_
    refine rd_V S hl (c_X1_countHeldByAny l D cI cZ ρ ts σ κ mk qu) XB.hb gX1_count_X1_countHeldByAny rfl rfl nf_X1_countHeldByAny rfl rfl dX1_count_29 (XP.rc0 hXK hP) (XB.at hXK hS ⟨held, hRel, hP⟩) ?_
    exact ret_i hx hb hr hlocks dX1_count_32 (by unfold countR; rw [if_pos rfl])
  ·
    refine lv_tableIn (off := 32) (tgt := 33) hx hb dX1_count_1 (by decide) (by decide) (by decide) (by decide) ?_
    refine lv_aload_n hx hb dX1_count_33 rfl (lv_at hl 0 rfl) ?_
    refine rd_V S hl (c_X1_countPackedOfAll l D cI cZ ρ ts σ κ mk qu) XB.hb gX1_count_X1_countPackedOfAll rfl rfl nf_X1_countPackedOfAll rfl rfl dX1_count_34 (XP.rc0 hXK hP) (XB.at hXK hS ⟨held, hRel, hP⟩) ?_
    exact ret_i hx hb hr hlocks dX1_count_37 (by unfold countR; rw [if_neg (by decide), if_pos rfl])
  ·
    refine lv_tableIn (off := 37) (tgt := 38) hx hb dX1_count_1 (by decide) (by decide) (by decide) (by decide) ?_
    refine lv_aload_n hx hb dX1_count_38 rfl (lv_at hl 0 rfl) ?_
    refine va_get (D := D) (ci := 1) (v := .int κ) (C := RX1) (T := TX1) (N := 5) hx hb hts (by decide +kernel) hown hK hP 0 rfl rfl 2 (by decide) (hts (.fieldLink RX1 20 "SevenKeys" "keptImages" "I") (by decide +kernel)) (fun _ h9 => h9) rfl dX1_count_39 ?_
    exact ret_i hx hb hr hlocks dX1_count_42 (by unfold countR; rw [if_neg (by decide), if_neg (by decide), if_pos rfl])
  ·
    refine lv_tableOut (tgt := 43) hx hb dX1_count_1 ho (by decide) ?_
    refine lv_bipush (v := (-2)) hx hb dX1_count_43 (by decide) ?_
    exact ret_i hx hb hr hlocks dX1_count_45 (by unfold countR; rw [if_neg (sw_ne (by omega) ho (by omega) (by omega)), if_neg (sw_ne (by omega) ho (by omega) (by omega)), if_neg (sw_ne (by omega) ho (by omega) (by omega))])
