theorem nle0 {j : Nat} (h : nI j ≤ 0) (hj : j < 2 ^ 31) : j = 0 := by
  rcases Nat.eq_zero_or_pos j with q | q
  · exact q
  · exact absurd h (nI_nle q hj)
theorem clr_step {f : Nat → Int32} {i : Nat} (h : ∀ k, k < i → f k = -6) : ∀ k, k < i + 1 → upd f i (-6) k = -6 := by
  intro k hk
  unfold upd
  by_cases e : k = i
  · rw [if_pos e]
  · rw [if_neg e]; exact h k (by omega)
theorem pc_leaf {A : Nat → Bool} {k : Nat} (hk : k < 2401) : (if (lay A 2401).1.1 k = 0 then (-6 : Int32) else nI ((lay A 2401).1.2.1 k)) = bif A k then nI ((lay A 2401).1.2.1 k) else -6 := by
  cases h : A k with
  | true => rw [if_neg (lay_own hk h)]; rfl
  | false =>
    rw [if_pos (Classical.byContradiction (fun q => by rw [lay_in _ q] at h; cases h))]; rfl
theorem al_pure {f1 f2 f3 : Bool} {n a b : Nat} (e1 : f1 = false ↔ n = a) (e2 : f2 = false ↔ n = b) (e3 : f3 = false ↔ n = 0) : alikeF f1 f2 f3 = (if n = a ∨ n = b then (if n = b then (if n = a then nI 0 else nI 2) else nI 1) else (if n = 0 then nI 3 else nI 4)) := by
  unfold alikeF
  cases f1 <;> cases f2 <;> cases f3 <;> simp at e1 e2 e3 <;> (repeat' split) <;> first | rfl | (exfalso; omega)
theorem al_leaf {a b : Int32} {r x : Int32} (h1 : isS a = true) (h2 : isS b = true) (h : r = x) : r = gs (isS a && isS b) true x := by
  rw [h1, h2]; exact h
theorem nf_X2_isWhole : nfOk yX2_isWhole 3 := by unfold nfOk; decide +kernel
set_option maxHeartbeats 4000000 in
set_option maxRecDepth 100000 in
theorem c_X2_isWhole (l : Launch) (D : va_G) (cI cZ : ClassId) (μ : Nat → Nat) (σ : Nat → Nat → Bool) (M : Nat → Nat → Int32) (V : Nat → Int32) (sl : Nat) (k : Nat) (L : Nat) (hsl : sl < 4) (hp : k + 7 ^ L ≤ 2401) (hL : L ≤ 4) : Rd l yX2_isWhole wsX2_isWhole ({ frames := 1, cells := 0, slots := 0, locals := 22 }) [.ref (μ 0), .int (nI sl), .int (nI k), .int (nI L)] (MB D cI cZ μ σ M V) (bI (allN (σ sl) k (7 ^ L))) := by
  refine met_in RX2 (by decide) rfl rfl (Nat.le_of_ble_eq_true rfl) ?_
  intro p e s m below meth c ls S hr hlocks hl hB
  have hx := S.1
  have hb := S.2.1
  have hml := S.2.2.1
  have hown := S.2.2.2.1
  have hts := S.2.2.2.2
  have hl : lv_has ls 6 [(0, .ref (μ 0)), (1, .int (nI sl)), (2, .int (nI k)), (3, .int (nI L))] := hl
  obtain ⟨⟨hRel, hPt, hKg, hP⟩, hMK⟩ := hB
  have hK := hMK.1
  have hS : va_S (xA 13 μ) s.heap s.heap [] := va_S.rf
  refine lv_iconst (v := nI 1) hx hb dX2_isWhole_0 (by decide) ?_
  refine lv_istore (lv' := [(4, .int (nI 1)), (0, .ref (μ 0)), (1, .int (nI sl)), (2, .int (nI k)), (3, .int (nI L))]) hx hb dX2_isWhole_1 hl (by decide) rfl (fun ls hl => ?_)
  refine lv_iload_n hx hb dX2_isWhole_3 rfl (lv_at hl 3 rfl) ?_
  refine lv_istore (lv' := [(5, .int (nI k)), (4, .int (nI 1)), (0, .ref (μ 0)), (1, .int (nI sl)), (2, .int (nI k)), (3, .int (nI L))]) hx hb dX2_isWhole_4 hl (by decide) rfl (fun ls hl => ?_)
  have loop_6 : ∀ (n : Nat) (i : Nat), (i ≤ k + 7 ^ L) → (k ≤ i) → k + 7 ^ L - i < n → ∀ (x4 x5 : Int32), x4 = bI (allN (σ sl) k (i - k)) → x5 = nI i → ∀ ls : Array Slot, lv_has ls 6 [(0, .ref (μ 0)), (1, .int (nI sl)), (2, .int (nI k)), (3, .int (nI L)), (4, .int x4), (5, .int x5)] → W p l e (headSpec wsX2_isWhole ({ frames := 1, cells := 0, slots := 0, locals := 22 })).room s m [.ref (μ 0), .int (nI sl), .int (nI k), .int (nI L)].toArray below meth c s.heap [] 0 0 (MQ below (vp_Si (fun r => r = bI (allN (σ sl) k (7 ^ L)))) [.ref (μ 0), .int (nI sl), .int (nI k), .int (nI L)].toArray s 0 0 (fun _ => False)) (F0 m 6 ls []) := by
    intro n
    induction n with
    | zero => intro i hi hlo hm; exact absurd hm (Nat.not_lt_zero _)
    | succ n ih_6 =>
      intro i hi hlo hm_6 x4 x5 e4 e5 ls hl
      subst e4
      subst e5
      refine lv_iload hx hb dX2_isWhole_6 (lv_at hl 5 rfl) ?_
      refine lv_iload_n hx hb dX2_isWhole_8 rfl (lv_at hl 2 rfl) ?_
      refine lv_iload_n hx hb dX2_isWhole_9 rfl (lv_at hl 3 rfl) ?_
      refine rd_S S hl (c_X2_hexes l L (by omega)) HB.tt gX2_isWhole_X2_hexes rfl nf_X2_hexes rfl rfl dX2_isWhole_10  (fun _ _ _ => trivial) ?_
      refine lv_iadd hx hb dX2_isWhole_13 ?_
      refine nv_as (nI (k + (7 ^ L))) (nI_add _ _) ?_
      refine nv_icmp_ge (tgt := 37) hx hb dX2_isWhole_14 (by decide) (by omega) (by omega) (fun c_14 => ?_) (fun c_14 => ?_)
      ·
        refine lv_iload hx hb dX2_isWhole_37 (lv_at hl 4 rfl) ?_
        exact ret_z hx hb hr hlocks dX2_isWhole_39 (by first | (rw [show i - k = 7 ^ L by omega]; done) | (rw [c_19, show 7 ^ L = (i - k) + (7 ^ L - (i - k)) by omega, allN_mf c_19]; done))
      ·
        refine lv_iload hx hb dX2_isWhole_17 (lv_at hl 4 rfl) ?_
        refine nv_ifz_eq (tgt := 37) hx hb dX2_isWhole_19 (by decide) (fun c_19 => ?_) (fun c_19 => ?_)
        ·
          refine lv_iload hx hb dX2_isWhole_37 (lv_at hl 4 rfl) ?_
          exact ret_z hx hb hr hlocks dX2_isWhole_39 (by first | (rw [show i - k = 7 ^ L by omega]; done) | (rw [c_19, show 7 ^ L = (i - k) + (7 ^ L - (i - k)) by omega, allN_mf c_19]; done))
        ·
          refine lv_aload_n hx hb dX2_isWhole_22 rfl (lv_at hl 0 rfl) ?_
          refine lv_iload_n hx hb dX2_isWhole_23 rfl (lv_at hl 1 rfl) ?_
          refine lv_iload hx hb dX2_isWhole_24 (lv_at hl 5 rfl) ?_
          refine rd_V S hl (c_X2_isIn l D cI cZ μ σ M V sl i (by omega) (by omega)) MB.hb gX2_isWhole_X2_isIn rfl rfl nf_X2_isIn rfl rfl dX2_isWhole_26 (MP.rc0 hMK hP) (MB.at hMK ⟨hRel, hPt, hKg, hP⟩) ?_
          refine lv_istore (lv' := [(4, .int (bI (σ sl i))), (0, .ref (μ 0)), (1, .int (nI sl)), (2, .int (nI k)), (3, .int (nI L)), (5, .int (nI i))]) hx hb dX2_isWhole_29 hl (by decide) rfl (fun ls hl => ?_)
          refine lv_iinc (v := nI (i + 1)) (lv' := [(5, .int (nI (i + 1))), (4, .int (bI (σ sl i))), (0, .ref (μ 0)), (1, .int (nI sl)), (2, .int (nI k)), (3, .int (nI L))]) hx hb dX2_isWhole_31 hl (k := 5) rfl (inc_nI _) (by decide) rfl (fun ls hl => ?_)
          refine lv_goto (tgt := 6) hx hb dX2_isWhole_34 (by decide) ?_
          exact ih_6 (i + 1) (by omega) (by omega) (by omega) _ _ (by rw [show i + 1 - k = (i - k) + 1 by omega, allN, c_19, show k + (i - k) = i by omega]; rfl) (by first | rfl | exact congrArg nI (by omega)) _ (lv_sub hl [2, 3, 4, 5, 1, 0] rfl)
  exact loop_6 (k + 7 ^ L - k + 1) k (by exact Nat.le_add_right _ _) (by exact Nat.le_refl _) (Nat.lt_succ_self _) _ _ (by rw [Nat.sub_self]; rfl) rfl _ (lv_sub hl [2, 3, 4, 5, 1, 0] rfl)
theorem nf_X2_pack : nfOk yX2_pack 1 := by unfold nfOk; decide +kernel
set_option maxHeartbeats 4000000 in
set_option maxRecDepth 100000 in
theorem c_X2_pack (l : Launch) (D : va_G) (cI cZ : ClassId) (μ : Nat → Nat) (σ : Nat → Nat → Bool) (M : Nat → Nat → Int32) (V : Nat → Int32) (sl : Nat) (hsl : sl < 4) : Wr l yX2_pack wsX2_pack ({ frames := 2, cells := 0, slots := 0, locals := 47 }) [.ref (μ 0), .int (nI sl)] (MB D cI cZ μ σ M V) none (MPk D cI cZ μ σ (σ sl) (M 5)) (xA 13 μ) := by
  refine met_in RX2 (by decide) rfl rfl (Nat.le_of_ble_eq_true rfl) ?_
  intro p e s m below meth c ls S hr hlocks hl hB
  have hx := S.1
  have hb := S.2.1
  have hml := S.2.2.1
  have hown := S.2.2.2.1
  have hts := S.2.2.2.2
  have hl : lv_has ls 4 [(0, .ref (μ 0)), (1, .int (nI sl))] := hl
  obtain ⟨⟨hRel, hPt, hKg, hP⟩, hMK⟩ := hB
  have hK := hMK.1
  have hS : va_S (xA 13 μ) s.heap s.heap [] := va_S.rf
  refine lv_aload_n hx hb dX2_pack_0 rfl (lv_at hl 0 rfl) ?_
  refine lv_iconst (v := nI 0) hx hb dX2_pack_1 (by decide) ?_
  refine va_put (D := D) (ci := 2) (v := .int (nI 0)) (ty := .int) (C := RX2) (T := TX2) (N := 15) hx hb hts (by decide +kernel) tyX2 tyX2_ok nmX2 hown hK hP hMK.D hS 0 rfl rfl 9 (by decide) (hts (.fieldLink RX2 100 "SevenKeysModel" "packs" "I") (by decide +kernel)) (fun _ h9 => h9) rfl (by decide +kernel) rfl rfl (Nat.le_of_ble_eq_true rfl) dX2_pack_2 (fun H locs hP hD hS => ?_)
  have hP : va_P D vwCl (mW cI cZ μ M (va_up V 0 (nI 0))) H := hP
  refine lv_iconst (v := nI 0) hx hb dX2_pack_5 (by decide) ?_
  refine lv_istore_n (lv' := [(2, .int (nI 0)), (0, .ref (μ 0)), (1, .int (nI sl))]) hx hb dX2_pack_6 rfl hl (by decide) rfl (fun ls hl => ?_)
  have loop_7 : ∀ (n : Nat) (i : Nat) (M1 : Nat → Nat → Int32) (V1 : Nat → Int32), (i ≤ 2401) → (pkT (σ sl) i ≤ i) → (V1 0 = nI (fb_ct (isP (σ sl)) i)) → (pkM (σ sl) i (M1 8) (M1 9)) → (M1 5 = M 5) → 2401 - i < n → ∀ (x2 : Int32), x2 = nI i → ∀ (H : Heap) (locs : List Loc), va_S (xA 13 μ) s.heap H locs → MP D cI cZ μ σ M1 V1 H → ∀ ls : Array Slot, lv_has ls 4 [(0, .ref (μ 0)), (1, .int (nI sl)), (2, .int x2)] → W p l e (headSpec wsX2_pack ({ frames := 2, cells := 0, slots := 0, locals := 47 })).room s m [.ref (μ 0), .int (nI sl)].toArray below meth c H locs 0 0 (MQ below (qW none (MPk D cI cZ μ σ (σ sl) (M 5)) (xA 13 μ)) [.ref (μ 0), .int (nI sl)].toArray s 0 0 (xA 13 μ)) (F0 m 7 ls []) := by
    intro n
    induction n with
    | zero => intro i M1 V1 hi hT hV hpk h5 hm; exact absurd hm (Nat.not_lt_zero _)
    | succ n ih_7 =>
      intro i M1 V1 hi hT hV hpk h5 hm_7 x2 e2 H locs hS hPP ls hl
      subst e2
      obtain ⟨hRel, hPt, hKg, hP⟩ := hPP
      refine lv_iload_n hx hb dX2_pack_7 rfl (lv_at hl 2 rfl) ?_
      refine lv_sipush (v := nI 2401) hx hb dX2_pack_8 (by decide) ?_
      refine nv_icmp_ge (tgt := 97) hx hb dX2_pack_11 (by decide) (by omega) (by omega) (fun c_11 => ?_) (fun c_11 => ?_)
      ·
        have hi2 : i = 2401 := by omega
        subst hi2
        exact ret_wv hx hb hr hlocks dX2_pack_97 hS (⟨_, _, ⟨h5, hV, hpk⟩, hRel, hPt, hKg, hP⟩)
      ·
        refine lv_iconst (v := nI 4) hx hb dX2_pack_14 (by decide) ?_
        refine lv_istore_n (lv' := [(3, .int (nI 4)), (0, .ref (μ 0)), (1, .int (nI sl)), (2, .int (nI i))]) hx hb dX2_pack_15 rfl hl (by decide) rfl (fun ls hl => ?_)
        have loop_16 : ∀ (n : Nat) (t : Nat), (t ≤ 5) → (∀ m, t ≤ m → m < 5 → fitP (σ sl) i m = false) → t < n → ∀ (x3 : Int32), x3 = mI t → ∀ (H : Heap) (locs : List Loc), va_S (xA 13 μ) s.heap H locs → MP D cI cZ μ σ M1 V1 H → ∀ ls : Array Slot, lv_has ls 4 [(0, .ref (μ 0)), (1, .int (nI sl)), (2, .int (nI i)), (3, .int x3)] → W p l e (headSpec wsX2_pack ({ frames := 2, cells := 0, slots := 0, locals := 47 })).room s m [.ref (μ 0), .int (nI sl)].toArray below meth c H locs 0 0 (MQ below (qW none (MPk D cI cZ μ σ (σ sl) (M 5)) (xA 13 μ)) [.ref (μ 0), .int (nI sl)].toArray s 0 0 (xA 13 μ)) (F0 m 16 ls []) := by
          intro n
          induction n with
          | zero => intro t ht hno hm; exact absurd hm (Nat.not_lt_zero _)
          | succ n ih_16 =>
            intro t ht hno hm_16 x3 e3 H locs hS hPP ls hl
            subst e3
            obtain ⟨hRel, hPt, hKg, hP⟩ := hPP
            rcases t with _ | j
            ·
              have hA : σ sl i = false := by rw [← fit0 (σ sl) i]; exact hno 0 (Nat.zero_le _) (by omega)
              refine lv_iload_n hx hb dX2_pack_16 rfl (lv_at hl 3 rfl) ?_
              refine lv_if_lt (tgt := 45) hx hb dX2_pack_17 (by decide) (fun c_17 => ?_) (fun c_17 => ?_)
              ·
                refine lv_iload_n hx hb dX2_pack_45 rfl (lv_at hl 3 rfl) ?_
                refine lv_if_lt (tgt := 79) hx hb dX2_pack_46 (by decide) (fun c_46 => ?_) (fun c_46 => ?_)
                ·
                  refine lv_iload_n hx hb dX2_pack_79 rfl (lv_at hl 2 rfl) ?_
                  refine lv_iload_n hx hb dX2_pack_80 rfl (lv_at hl 3 rfl) ?_
                  refine lv_if_le (tgt := 91) hx hb dX2_pack_81 (by decide) (fun c_81 => ?_) (fun c_81 => ?_)
                  ·
                    refine lv_iconst (v := nI 1) hx hb dX2_pack_91 (by decide) ?_
                    refine lv_iadd hx hb dX2_pack_92 ?_
                    refine nv_as (nI (i + 1)) (nI_add _ _) ?_
                    refine lv_istore_n (lv' := [(2, .int (nI (i + 1))), (0, .ref (μ 0)), (1, .int (nI sl)), (3, .int (mI 0))]) hx hb dX2_pack_93 rfl hl (by decide) rfl (fun ls hl => ?_)
                    refine lv_goto (tgt := 7) hx hb dX2_pack_94 (by decide) ?_
                    exact ih_7 (i + 1) M1 V1 (by omega) (by first | exact Nat.le_of_eq hjmp.1 | (rw [(isP_f2 hA).2]; omega)) (by first | exact congrArg nI hjmp.2.1.symm | (rw [fb_ct_succ, (isP_f2 hA).1]; exact hV)) (by first | exact hpm | exact pkM_skip hpk (isP_f2 hA).1) (by exact h5) (by first | omega | (have hpp := Nat.pow_pos (n := j) (show 0 < 7 by decide); omega)) _ (by first | rfl | exact congrArg nI (by omega)) _ _ hS ⟨hRel, hPt, hKg, hP⟩ _ (lv_sub hl [1, 2, 0] rfl)
                  ·
                    exact absurd (by decide) c_81
                ·
                  exact absurd (by decide) c_46
              ·
                exact absurd (by decide) c_17
            ·
              have hl : lv_has ls 4 [(0, .ref (μ 0)), (1, .int (nI sl)), (2, .int (nI i)), (3, .int (nI j))] := hl
              refine lv_iload_n hx hb dX2_pack_16 rfl (lv_at hl 3 rfl) ?_
              refine lv_if_lt (tgt := 45) hx hb dX2_pack_17 (by decide) (fun c_17 => ?_) (fun c_17 => ?_)
              ·
                exact absurd c_17 (nI_pos (by omega))
              ·
                refine lv_iload_n hx hb dX2_pack_20 rfl (lv_at hl 2 rfl) ?_
                refine lv_iload_n hx hb dX2_pack_21 rfl (lv_at hl 3 rfl) ?_
                refine rd_S S hl (c_X2_patchOf l i j (by omega) (by omega)) HB.tt gX2_pack_X2_patchOf rfl nf_X2_patchOf rfl rfl dX2_pack_22  (fun _ _ _ => trivial) ?_
                refine lv_iload_n hx hb dX2_pack_25 rfl (lv_at hl 2 rfl) ?_
                refine nv_icmp_ne (tgt := 39) hx hb dX2_pack_26 (by decide) (by exact Nat.lt_of_le_of_lt (Nat.div_mul_le_self _ _) (by omega)) (by omega) (fun c_26 => ?_) (fun c_26 => ?_)
                ·
                  have hnf : fitP (σ sl) i j = false := by unfold fitP; rw [decide_eq_false c_26]; rfl
                  refine lv_iinc (v := mI j) (lv' := [(3, .int (mI j)), (0, .ref (μ 0)), (1, .int (nI sl)), (2, .int (nI i))]) hx hb dX2_pack_39 hl (k := 3) rfl (by exact mI_dec j) (by decide) rfl (fun ls hl => ?_)
                  refine lv_goto (tgt := 16) hx hb dX2_pack_42 (by decide) ?_
                  exact ih_16 j (by omega) (by exact no_step hno hnf) (by omega) _ (by rfl) _ _ hS ⟨hRel, hPt, hKg, hP⟩ _ (lv_sub hl [1, 2, 3, 0] rfl)
                ·
                  have hpl := pO_le (k := i) (L := j) (by omega) (by omega)
                  rw [c_26] at hpl
                  refine lv_aload_n hx hb dX2_pack_29 rfl (lv_at hl 0 rfl) ?_
                  refine lv_iload_n hx hb dX2_pack_30 rfl (lv_at hl 1 rfl) ?_
                  refine lv_iload_n hx hb dX2_pack_31 rfl (lv_at hl 2 rfl) ?_
                  refine lv_iload_n hx hb dX2_pack_32 rfl (lv_at hl 3 rfl) ?_
                  refine rd_V S hl (c_X2_isWhole l D cI cZ μ σ M1 V1 sl i j (by omega) (by omega) (by omega)) MB.hb gX2_pack_X2_isWhole rfl rfl nf_X2_isWhole rfl rfl dX2_pack_33 (MP.rc0 hMK hP) (MB.at hMK ⟨hRel, hPt, hKg, hP⟩) ?_
                  refine nv_ifz_ne (tgt := 45) hx hb dX2_pack_36 (by decide) (fun c_36 => ?_) (fun c_36 => ?_)
                  ·
                    have hfj : fitP (σ sl) i j = true := by unfold fitP; rw [decide_eq_true c_26, c_36]; rfl
                    obtain ⟨hA1, hlev⟩ := lev_at (by omega) hfj (fun m h1 h2 => hno m h1 (by omega))
                    have hjmp := pk_jump hT hA1
                    have hpm := pkM_put hpk hT hA1
                    rw [hlev] at hjmp hpm
                    refine lv_iload_n hx hb dX2_pack_45 rfl (lv_at hl 3 rfl) ?_
                    refine lv_if_lt (tgt := 79) hx hb dX2_pack_46 (by decide) (fun c_46 => ?_) (fun c_46 => ?_)
                    ·
                      exact absurd c_46 (nI_pos (by omega))
                    ·
                      refine lv_aload_n hx hb dX2_pack_49 rfl (lv_at hl 0 rfl) ?_
                      refine va_get (D := D) (ci := 2) (v := .ref (μ 8)) (C := RX2) (T := TX2) (N := 15) hx hb hts (by decide +kernel) hown hK hP 0 rfl rfl 7 (by decide) (hts (.fieldLink RX2 32 "SevenKeysModel" "patches" "[I") (by decide +kernel)) (fun _ h9 => h9) rfl dX2_pack_50 ?_
                      refine lv_aload_n hx hb dX2_pack_53 rfl (lv_at hl 0 rfl) ?_
                      refine va_get (D := D) (ci := 2) (v := .int (V1 0)) (C := RX2) (T := TX2) (N := 15) hx hb hts (by decide +kernel) hown hK hP 0 rfl rfl 9 (by decide) (hts (.fieldLink RX2 100 "SevenKeysModel" "packs" "I") (by decide +kernel)) (fun _ h9 => h9) rfl dX2_pack_54 ?_
                      refine nv_as (nI (fb_ct (isP (σ sl)) i)) (by exact hV) ?_
                      refine lv_iload_n hx hb dX2_pack_57 rfl (lv_at hl 2 rfl) ?_
                      refine nv_iast hx hb hK hP hMK.D hS 8 0 rfl rfl (by exact Nat.lt_of_le_of_lt (fb_ct_le _ _) (by omega)) (by decide) dX2_pack_58 (fun H locs hP hS => ?_)
                      have hP : va_P D vwCl (mW cI cZ μ (va_up M1 8 (upd (M1 8) (fb_ct (isP (σ sl)) i) (nI i))) V1) H := hP
                      refine lv_aload_n hx hb dX2_pack_59 rfl (lv_at hl 0 rfl) ?_
                      refine va_get (D := D) (ci := 2) (v := .ref (μ 9)) (C := RX2) (T := TX2) (N := 15) hx hb hts (by decide +kernel) hown hK hP 0 rfl rfl 8 (by decide) (hts (.fieldLink RX2 35 "SevenKeysModel" "levels" "[I") (by decide +kernel)) (fun _ h9 => h9) rfl dX2_pack_60 ?_
                      refine lv_aload_n hx hb dX2_pack_63 rfl (lv_at hl 0 rfl) ?_
                      refine va_get (D := D) (ci := 2) (v := .int (V1 0)) (C := RX2) (T := TX2) (N := 15) hx hb hts (by decide +kernel) hown hK hP 0 rfl rfl 9 (by decide) (hts (.fieldLink RX2 100 "SevenKeysModel" "packs" "I") (by decide +kernel)) (fun _ h9 => h9) rfl dX2_pack_64 ?_
                      refine nv_as (nI (fb_ct (isP (σ sl)) i)) (by exact hV) ?_
                      refine lv_iload_n hx hb dX2_pack_67 rfl (lv_at hl 3 rfl) ?_
                      refine nv_iast hx hb hK hP hMK.D hS 9 0 rfl rfl (by exact Nat.lt_of_le_of_lt (fb_ct_le _ _) (by omega)) (by decide) dX2_pack_68 (fun H locs hP hS => ?_)
                      have hP : va_P D vwCl (mW cI cZ μ (va_up (va_up M1 8 (upd (M1 8) (fb_ct (isP (σ sl)) i) (nI i))) 9 (upd ((va_up M1 8 (upd (M1 8) (fb_ct (isP (σ sl)) i) (nI i))) 9) (fb_ct (isP (σ sl)) i) (nI j))) V1) H := hP
                      refine lv_aload_n hx hb dX2_pack_69 rfl (lv_at hl 0 rfl) ?_
                      refine lv_dup hx hb dX2_pack_70 rfl ?_
                      refine va_get (D := D) (ci := 2) (v := .int (V1 0)) (C := RX2) (T := TX2) (N := 15) hx hb hts (by decide +kernel) hown hK hP 0 rfl rfl 9 (by decide) (hts (.fieldLink RX2 100 "SevenKeysModel" "packs" "I") (by decide +kernel)) (fun _ h9 => h9) rfl dX2_pack_71 ?_
                      refine nv_as (nI (fb_ct (isP (σ sl)) i)) (by exact hV) ?_
                      refine lv_iconst (v := nI 1) hx hb dX2_pack_74 (by decide) ?_
                      refine lv_iadd hx hb dX2_pack_75 ?_
                      refine nv_as (nI (fb_ct (isP (σ sl)) i + 1)) (nI_add _ _) ?_
                      refine va_put (D := D) (ci := 2) (v := .int (nI (fb_ct (isP (σ sl)) i + 1))) (ty := .int) (C := RX2) (T := TX2) (N := 15) hx hb hts (by decide +kernel) tyX2 tyX2_ok nmX2 hown hK hP hMK.D hS 0 rfl rfl 9 (by decide) (hts (.fieldLink RX2 100 "SevenKeysModel" "packs" "I") (by decide +kernel)) (fun _ h9 => h9) rfl (by decide +kernel) rfl rfl (Nat.le_of_ble_eq_true rfl) dX2_pack_76 (fun H locs hP hD hS => ?_)
                      have hP : va_P D vwCl (mW cI cZ μ (va_up (va_up M1 8 (upd (M1 8) (fb_ct (isP (σ sl)) i) (nI i))) 9 (upd ((va_up M1 8 (upd (M1 8) (fb_ct (isP (σ sl)) i) (nI i))) 9) (fb_ct (isP (σ sl)) i) (nI j))) (va_up V1 0 (nI (fb_ct (isP (σ sl)) i + 1)))) H := hP
                      refine lv_iload_n hx hb dX2_pack_79 rfl (lv_at hl 2 rfl) ?_
                      refine lv_iload_n hx hb dX2_pack_80 rfl (lv_at hl 3 rfl) ?_
                      refine lv_if_le (tgt := 91) hx hb dX2_pack_81 (by decide) (fun c_81 => ?_) (fun c_81 => ?_)
                      ·
                        have hj0 : j = 0 := nle0 c_81 (by omega)
                        subst hj0
                        refine lv_iconst (v := nI 1) hx hb dX2_pack_91 (by decide) ?_
                        refine lv_iadd hx hb dX2_pack_92 ?_
                        refine nv_as (nI (i + 1)) (nI_add _ _) ?_
                        refine lv_istore_n (lv' := [(2, .int (nI (i + 1))), (0, .ref (μ 0)), (1, .int (nI sl)), (3, .int (nI 0))]) hx hb dX2_pack_93 rfl hl (by decide) rfl (fun ls hl => ?_)
                        refine lv_goto (tgt := 7) hx hb dX2_pack_94 (by decide) ?_
                        exact ih_7 (i + 1) (va_up (va_up M1 8 (upd (M1 8) (fb_ct (isP (σ sl)) i) (nI i))) 9 (upd ((va_up M1 8 (upd (M1 8) (fb_ct (isP (σ sl)) i) (nI i))) 9) (fb_ct (isP (σ sl)) i) (nI 0))) (va_up V1 0 (nI (fb_ct (isP (σ sl)) i + 1))) (by omega) (by first | exact Nat.le_of_eq hjmp.1 | (rw [(isP_f2 hA).2]; omega)) (by first | exact congrArg nI hjmp.2.1.symm | (rw [fb_ct_succ, (isP_f2 hA).1]; exact hV)) (by first | exact hpm | exact pkM_skip hpk (isP_f2 hA).1) (by exact h5) (by first | omega | (have hpp := Nat.pow_pos (n := j) (show 0 < 7 by decide); omega)) _ (by first | rfl | exact congrArg nI (by omega)) _ _ hS ⟨hRel, hPt, hKg, hP⟩ _ (lv_sub hl [1, 2, 0] rfl)
                      ·
                        refine lv_iload_n hx hb dX2_pack_84 rfl (lv_at hl 3 rfl) ?_
                        refine rd_S S hl (c_X2_hexes l j (by omega)) HB.tt gX2_pack_X2_hexes rfl nf_X2_hexes rfl rfl dX2_pack_85  (fun _ _ _ => trivial) ?_
                        refine lv_goto (tgt := 92) hx hb dX2_pack_88 (by decide) ?_
                        refine lv_iadd hx hb dX2_pack_92 ?_
                        refine nv_as (nI (i + (7 ^ j))) (nI_add _ _) ?_
                        refine lv_istore_n (lv' := [(2, .int (nI (i + (7 ^ j)))), (0, .ref (μ 0)), (1, .int (nI sl)), (3, .int (nI j))]) hx hb dX2_pack_93 rfl hl (by decide) rfl (fun ls hl => ?_)
                        refine lv_goto (tgt := 7) hx hb dX2_pack_94 (by decide) ?_
                        exact ih_7 (i + (7 ^ j)) (va_up (va_up M1 8 (upd (M1 8) (fb_ct (isP (σ sl)) i) (nI i))) 9 (upd ((va_up M1 8 (upd (M1 8) (fb_ct (isP (σ sl)) i) (nI i))) 9) (fb_ct (isP (σ sl)) i) (nI j))) (va_up V1 0 (nI (fb_ct (isP (σ sl)) i + 1))) (by omega) (by first | exact Nat.le_of_eq hjmp.1 | (rw [(isP_f2 hA).2]; omega)) (by first | exact congrArg nI hjmp.2.1.symm | (rw [fb_ct_succ, (isP_f2 hA).1]; exact hV)) (by first | exact hpm | exact pkM_skip hpk (isP_f2 hA).1) (by exact h5) (by first | omega | (have hpp := Nat.pow_pos (n := j) (show 0 < 7 by decide); omega)) _ (by first | rfl | exact congrArg nI (by omega)) _ _ hS ⟨hRel, hPt, hKg, hP⟩ _ (lv_sub hl [1, 2, 0] rfl)
                  ·
                    have hnf : fitP (σ sl) i j = false := by unfold fitP; rw [c_36, Bool.and_false]
                    refine lv_iinc (v := mI j) (lv' := [(3, .int (mI j)), (0, .ref (μ 0)), (1, .int (nI sl)), (2, .int (nI i))]) hx hb dX2_pack_39 hl (k := 3) rfl (by exact mI_dec j) (by decide) rfl (fun ls hl => ?_)
                    refine lv_goto (tgt := 16) hx hb dX2_pack_42 (by decide) ?_
                    exact ih_16 j (by omega) (by exact no_step hno hnf) (by omega) _ (by rfl) _ _ hS ⟨hRel, hPt, hKg, hP⟩ _ (lv_sub hl [1, 2, 3, 0] rfl)
        exact loop_16 (5 + 1) 5 (by omega) (by intro m h1 h2; omega) (Nat.lt_succ_self _) _ (by rfl) _ _ hS ⟨hRel, hPt, hKg, hP⟩ _ (lv_sub hl [1, 2, 3, 0] rfl)
  exact loop_7 (2401 - 0 + 1) 0 M (va_up V 0 (nI 0)) (by omega) (by exact Nat.le_refl 0) (by rfl) (by exact fun k hk => absurd hk (Nat.not_lt_zero k)) (by rfl) (Nat.lt_succ_self _) _ rfl _ _ hS ⟨hRel, hPt, hKg, hP⟩ _ (lv_sub hl [1, 2, 0] rfl)
theorem nf_X2_border : nfOk yX2_border 1 := by unfold nfOk; decide +kernel
set_option maxHeartbeats 4000000 in
set_option maxRecDepth 100000 in
theorem c_X2_border (l : Launch) (D : va_G) (cI cZ : ClassId) (μ : Nat → Nat) (σ : Nat → Nat → Bool) (M : Nat → Nat → Int32) (V : Nat → Int32) (sl : Nat) (hsl : sl < 4) : Rd l yX2_border wsX2_border ({ frames := 4, cells := 0, slots := 0, locals := 92 }) [.ref (μ 0), .int (nI sl)] (MB D cI cZ μ σ M V) (nI (bdr (σ sl) 2401)) := by
  refine met_in RX2 (by decide) rfl rfl (Nat.le_of_ble_eq_true rfl) ?_
  intro p e s m below meth c ls S hr hlocks hl hB
  have hx := S.1
  have hb := S.2.1
  have hml := S.2.2.1
  have hown := S.2.2.2.1
  have hts := S.2.2.2.2
  have hl : lv_has ls 4 [(0, .ref (μ 0)), (1, .int (nI sl))] := hl
  obtain ⟨⟨hRel, hPt, hKg, hP⟩, hMK⟩ := hB
  have hK := hMK.1
  have hS : va_S (xA 13 μ) s.heap s.heap [] := va_S.rf
  refine lv_iconst (v := nI 0) hx hb dX2_border_0 (by decide) ?_
  refine lv_istore_n (lv' := [(2, .int (nI 0)), (0, .ref (μ 0)), (1, .int (nI sl))]) hx hb dX2_border_1 rfl hl (by decide) rfl (fun ls hl => ?_)
  refine lv_iconst (v := nI 0) hx hb dX2_border_2 (by decide) ?_
  refine lv_istore_n (lv' := [(3, .int (nI 0)), (2, .int (nI 0)), (0, .ref (μ 0)), (1, .int (nI sl))]) hx hb dX2_border_3 rfl hl (by decide) rfl (fun ls hl => ?_)
  have loop_4 : ∀ (n : Nat) (i : Nat), (i ≤ 2401) → 2401 - i < n → ∀ (x2 x3 : Int32), x2 = nI (bdr (σ sl) i) → x3 = nI i → ∀ ls : Array Slot, lv_has ls 4 [(0, .ref (μ 0)), (1, .int (nI sl)), (2, .int x2), (3, .int x3)] → W p l e (headSpec wsX2_border ({ frames := 4, cells := 0, slots := 0, locals := 92 })).room s m [.ref (μ 0), .int (nI sl)].toArray below meth c s.heap [] 0 0 (MQ below (vp_Si (fun r => r = nI (bdr (σ sl) 2401))) [.ref (μ 0), .int (nI sl)].toArray s 0 0 (fun _ => False)) (F0 m 4 ls []) := by
    intro n
    induction n with
    | zero => intro i hi hm; exact absurd hm (Nat.not_lt_zero _)
    | succ n ih_4 =>
      intro i hi hm_4 x2 x3 e2 e3 ls hl
      subst e2
      subst e3
      refine lv_iload_n hx hb dX2_border_4 rfl (lv_at hl 3 rfl) ?_
      refine lv_sipush (v := nI 2401) hx hb dX2_border_5 (by decide) ?_
      refine nv_icmp_ge (tgt := 42) hx hb dX2_border_8 (by decide) (by omega) (by omega) (fun c_8 => ?_) (fun c_8 => ?_)
      ·
        refine lv_iload_n hx hb dX2_border_42 rfl (lv_at hl 2 rfl) ?_
        exact ret_i hx hb hr hlocks dX2_border_43 (by rw [show i = 2401 by omega])
      ·
        refine lv_iload_n hx hb dX2_border_11 rfl (lv_at hl 2 rfl) ?_
        refine lv_aload_n hx hb dX2_border_12 rfl (lv_at hl 0 rfl) ?_
        refine lv_iload_n hx hb dX2_border_13 rfl (lv_at hl 1 rfl) ?_
        refine lv_iload_n hx hb dX2_border_14 rfl (lv_at hl 3 rfl) ?_
        refine rd_V S hl (c_X2_isIn l D cI cZ μ σ M V sl i (by omega) (by omega)) MB.hb gX2_border_X2_isIn rfl rfl nf_X2_isIn rfl rfl dX2_border_15 (MP.rc0 hMK hP) (MB.at hMK ⟨hRel, hPt, hKg, hP⟩) ?_
        refine nv_ifz_eq (tgt := 33) hx hb dX2_border_18 (by decide) (fun c_18 => ?_) (fun c_18 => ?_)
        ·
          refine lv_iconst (v := nI 0) hx hb dX2_border_33 (by decide) ?_
          refine lv_iadd hx hb dX2_border_34 ?_
          refine nv_as (nI (bdr (σ sl) i + 0)) (nI_add _ _) ?_
          refine lv_istore_n (lv' := [(2, .int (nI (bdr (σ sl) i + 0))), (0, .ref (μ 0)), (1, .int (nI sl)), (3, .int (nI i))]) hx hb dX2_border_35 rfl hl (by decide) rfl (fun ls hl => ?_)
          refine lv_iinc (v := nI (i + 1)) (lv' := [(3, .int (nI (i + 1))), (2, .int (nI (bdr (σ sl) i + 0))), (0, .ref (μ 0)), (1, .int (nI sl))]) hx hb dX2_border_36 hl (k := 3) rfl (inc_nI _) (by decide) rfl (fun ls hl => ?_)
          refine lv_goto (tgt := 4) hx hb dX2_border_39 (by decide) ?_
          exact ih_4 (i + 1) (by omega) (by omega) _ _ (by first | (rw [bdr, bdr, fb_sm_succ, if_pos c_18]) | (rw [bdr, bdr, fb_sm_succ, if_neg (by rw [c_18]; decide)])) (by first | rfl | exact congrArg nI (by omega)) _ (lv_sub hl [2, 3, 1, 0] rfl)
        ·
          refine lv_bipush (v := nI 6) hx hb dX2_border_21 (by decide) ?_
          refine lv_aload_n hx hb dX2_border_23 rfl (lv_at hl 0 rfl) ?_
          refine lv_iload_n hx hb dX2_border_24 rfl (lv_at hl 1 rfl) ?_
          refine lv_iload_n hx hb dX2_border_25 rfl (lv_at hl 3 rfl) ?_
          refine rd_V S hl (c_X2_nextIn l D cI cZ μ σ M V sl i (by omega) (by omega)) MB.hb gX2_border_X2_nextIn rfl rfl nf_X2_nextIn rfl rfl dX2_border_26 (MP.rc0 hMK hP) (MB.at hMK ⟨hRel, hPt, hKg, hP⟩) ?_
          refine lv_isub hx hb dX2_border_29 ?_
          refine nv_as (nI (6 - nbc (σ sl) i)) (by exact pk_sub (nbc_le _ _)) ?_
          refine lv_goto (tgt := 34) hx hb dX2_border_30 (by decide) ?_
          refine lv_iadd hx hb dX2_border_34 ?_
          refine nv_as (nI (bdr (σ sl) i + (6 - nbc (σ sl) i))) (nI_add _ _) ?_
          refine lv_istore_n (lv' := [(2, .int (nI (bdr (σ sl) i + (6 - nbc (σ sl) i)))), (0, .ref (μ 0)), (1, .int (nI sl)), (3, .int (nI i))]) hx hb dX2_border_35 rfl hl (by decide) rfl (fun ls hl => ?_)
          refine lv_iinc (v := nI (i + 1)) (lv' := [(3, .int (nI (i + 1))), (2, .int (nI (bdr (σ sl) i + (6 - nbc (σ sl) i)))), (0, .ref (μ 0)), (1, .int (nI sl))]) hx hb dX2_border_36 hl (k := 3) rfl (inc_nI _) (by decide) rfl (fun ls hl => ?_)
          refine lv_goto (tgt := 4) hx hb dX2_border_39 (by decide) ?_
          exact ih_4 (i + 1) (by omega) (by omega) _ _ (by first | (rw [bdr, bdr, fb_sm_succ, if_pos c_18]) | (rw [bdr, bdr, fb_sm_succ, if_neg (by rw [c_18]; decide)])) (by first | rfl | exact congrArg nI (by omega)) _ (lv_sub hl [2, 3, 1, 0] rfl)
  exact loop_4 (2401 - 0 + 1) 0 (by omega) (Nat.lt_succ_self _) _ _ (by first | rfl | exact congrArg nI (by omega)) rfl _ (lv_sub hl [2, 3, 1, 0] rfl)
theorem nf_X2_clearPieces : nfOk yX2_clearPieces 0 := by unfold nfOk; decide +kernel
set_option maxHeartbeats 4000000 in
set_option maxRecDepth 100000 in
theorem c_X2_clearPieces (l : Launch) (D : va_G) (cI cZ : ClassId) (μ : Nat → Nat) (σ : Nat → Nat → Bool) (M : Nat → Nat → Int32) (V : Nat → Int32) : Wr l yX2_clearPieces wsX2_clearPieces ({ frames := 0, cells := 0, slots := 0, locals := 0 }) [.ref (μ 0)] (MB D cI cZ μ σ M V) none (MCl D cI cZ μ σ (M 5)) (xA 13 μ) := by
  refine met_in RX2 (by decide) rfl rfl (Nat.le_of_ble_eq_true rfl) ?_
  intro p e s m below meth c ls S hr hlocks hl hB
  have hx := S.1
  have hb := S.2.1
  have hml := S.2.2.1
  have hown := S.2.2.2.1
  have hts := S.2.2.2.2
  have hl : lv_has ls 2 [(0, .ref (μ 0))] := hl
  obtain ⟨⟨hRel, hPt, hKg, hP⟩, hMK⟩ := hB
  have hK := hMK.1
  have hS : va_S (xA 13 μ) s.heap s.heap [] := va_S.rf
  refine lv_iconst (v := nI 0) hx hb dX2_clearPieces_0 (by decide) ?_
  refine lv_istore_n (lv' := [(1, .int (nI 0)), (0, .ref (μ 0))]) hx hb dX2_clearPieces_1 rfl hl (by decide) rfl (fun ls hl => ?_)
  have loop_2 : ∀ (n : Nat) (i : Nat) (M1 : Nat → Nat → Int32), (i ≤ 2401) → (∀ k, k < i → M1 10 k = -6) → (M1 5 = M 5) → 2401 - i < n → ∀ (x1 : Int32), x1 = nI i → ∀ (H : Heap) (locs : List Loc), va_S (xA 13 μ) s.heap H locs → MP D cI cZ μ σ M1 V H → ∀ ls : Array Slot, lv_has ls 2 [(0, .ref (μ 0)), (1, .int x1)] → W p l e (headSpec wsX2_clearPieces ({ frames := 0, cells := 0, slots := 0, locals := 0 })).room s m [.ref (μ 0)].toArray below meth c H locs 0 0 (MQ below (qW none (MCl D cI cZ μ σ (M 5)) (xA 13 μ)) [.ref (μ 0)].toArray s 0 0 (xA 13 μ)) (F0 m 2 ls []) := by
    intro n
    induction n with
    | zero => intro i M1 hi hc h5 hm; exact absurd hm (Nat.not_lt_zero _)
    | succ n ih_2 =>
      intro i M1 hi hc h5 hm_2 x1 e1 H locs hS hPP ls hl
      subst e1
      obtain ⟨hRel, hPt, hKg, hP⟩ := hPP
      refine lv_iload_n hx hb dX2_clearPieces_2 rfl (lv_at hl 1 rfl) ?_
      refine lv_sipush (v := nI 2401) hx hb dX2_clearPieces_3 (by decide) ?_
      refine nv_icmp_ge (tgt := 23) hx hb dX2_clearPieces_6 (by decide) (by omega) (by omega) (fun c_6 => ?_) (fun c_6 => ?_)
      ·
        exact ret_wv hx hb hr hlocks dX2_clearPieces_23 hS (⟨_, _, ⟨h5, fun k hk => hc k (by omega)⟩, hRel, hPt, hKg, hP⟩)
      ·
        refine lv_aload_n hx hb dX2_clearPieces_9 rfl (lv_at hl 0 rfl) ?_
        refine va_get (D := D) (ci := 2) (v := .ref (μ 10)) (C := RX2) (T := TX2) (N := 15) hx hb hts (by decide +kernel) hown hK hP 0 rfl rfl 10 (by decide) (hts (.fieldLink RX2 38 "SevenKeysModel" "pieces" "[I") (by decide +kernel)) (fun _ h9 => h9) rfl dX2_clearPieces_10 ?_
        refine lv_iload_n hx hb dX2_clearPieces_13 rfl (lv_at hl 1 rfl) ?_
        refine lv_bipush (v := (-6)) hx hb dX2_clearPieces_14 (by decide) ?_
        refine nv_iast hx hb hK hP hMK.D hS 10 0 rfl rfl (by omega) (by decide) dX2_clearPieces_16 (fun H locs hP hS => ?_)
        have hP : va_P D vwCl (mW cI cZ μ (va_up M1 10 (upd (M1 10) i (-6))) V) H := hP
        refine lv_iinc (v := nI (i + 1)) (lv' := [(1, .int (nI (i + 1))), (0, .ref (μ 0))]) hx hb dX2_clearPieces_17 hl (k := 1) rfl (inc_nI _) (by decide) rfl (fun ls hl => ?_)
        refine lv_goto (tgt := 2) hx hb dX2_clearPieces_20 (by decide) ?_
        exact ih_2 (i + 1) (va_up M1 10 (upd (M1 10) i (-6))) (by omega) (by exact clr_step hc) (by exact h5) (by omega) _ (by first | rfl | exact congrArg nI (by omega)) _ _ hS ⟨hRel, hPt, hKg, hP⟩ _ (lv_sub hl [1, 0] rfl)
  exact loop_2 (2401 - 0 + 1) 0 M (by omega) (by exact lt_0) (by rfl) (Nat.lt_succ_self _) _ rfl _ _ hS ⟨hRel, hPt, hKg, hP⟩ _ (lv_sub hl [1, 0] rfl)
theorem nf_X2_spread : nfOk yX2_spread 3 := by unfold nfOk; decide +kernel
set_option maxHeartbeats 4000000 in
set_option maxRecDepth 100000 in
theorem c_X2_spread (l : Launch) (D : va_G) (cI cZ : ClassId) (μ : Nat → Nat) (σ : Nat → Nat → Bool) (M : Nat → Nat → Int32) (V : Nat → Int32) (sl : Nat) (pn : Nat) (lab : Nat → Nat) (pc : Nat → Nat) (q0 : Nat → Nat) (sd : Nat) (hsl : sl < 4) (hf1 : ∀ k, k < 2401 → M 10 k = if lab k = 0 then -6 else nI (pc k)) (hf2 : ∀ k, k < 2401 → lab k ≠ 0 → M 11 k = nI (lab k - 1)) (hle : ∀ k, lab k ≤ ctL lab) (hs0 : lab sd = 0) (hsd : sd < 2401) (hpn : pn ≤ 2401) (hpc : ∀ k, pc k ≤ 2401) : Wr l yX2_spread wsX2_spread ({ frames := 3, cells := 0, slots := 0, locals := 67 }) [.ref (μ 0), .int (nI sl), .int (nI sd), .int (nI pn)] (MB D cI cZ μ σ M V) (some (.int (nI ((flood (σ sl) pn lab pc q0 sd).2.2.2)))) (MF D cI cZ μ σ (flood (σ sl) pn lab pc q0 sd) (M 5) (V 2)) (xA 13 μ) := by
  refine met_in RX2 (by decide) rfl rfl (Nat.le_of_ble_eq_true rfl) ?_
  intro p e s m below meth c ls S hr hlocks hl hB
  have hx := S.1
  have hb := S.2.1
  have hml := S.2.2.1
  have hown := S.2.2.2.1
  have hts := S.2.2.2.2
  have hl : lv_has ls 7 [(0, .ref (μ 0)), (1, .int (nI sl)), (2, .int (nI sd)), (3, .int (nI pn))] := hl
  obtain ⟨⟨hRel, hPt, hKg, hP⟩, hMK⟩ := hB
  have hK := hMK.1
  have hS : va_S (xA 13 μ) s.heap s.heap [] := va_S.rf
  refine lv_aload_n hx hb dX2_spread_0 rfl (lv_at hl 0 rfl) ?_
  refine lv_iconst (v := nI 1) hx hb dX2_spread_1 (by decide) ?_
  refine va_put (D := D) (ci := 2) (v := .int (nI 1)) (ty := .int) (C := RX2) (T := TX2) (N := 15) hx hb hts (by decide +kernel) tyX2 tyX2_ok nmX2 hown hK hP hMK.D hS 0 rfl rfl 13 (by decide) (hts (.fieldLink RX2 107 "SevenKeysModel" "open" "I") (by decide +kernel)) (fun _ h9 => h9) rfl (by decide +kernel) rfl rfl (Nat.le_of_ble_eq_true rfl) dX2_spread_2 (fun H locs hP hD hS => ?_)
  have hP : va_P D vwCl (mW cI cZ μ M (va_up V 1 (nI 1))) H := hP
  refine lv_aload_n hx hb dX2_spread_5 rfl (lv_at hl 0 rfl) ?_
  refine va_get (D := D) (ci := 2) (v := .ref (μ 12)) (C := RX2) (T := TX2) (N := 15) hx hb hts (by decide +kernel) hown hK hP 0 rfl rfl 12 (by decide) (hts (.fieldLink RX2 44 "SevenKeysModel" "still" "[I") (by decide +kernel)) (fun _ h9 => h9) rfl dX2_spread_6 ?_
  refine lv_iconst (v := nI 0) hx hb dX2_spread_9 (by decide) ?_
  refine lv_iload_n hx hb dX2_spread_10 rfl (lv_at hl 2 rfl) ?_
  refine nv_iast hx hb hK hP hMK.D hS 12 0 rfl rfl (by omega) (by decide) dX2_spread_11 (fun H locs hP hS => ?_)
  have hP : va_P D vwCl (mW cI cZ μ (va_up M 12 (upd (M 12) 0 (nI sd))) (va_up V 1 (nI 1))) H := hP
  refine lv_aload_n hx hb dX2_spread_12 rfl (lv_at hl 0 rfl) ?_
  refine va_get (D := D) (ci := 2) (v := .ref (μ 10)) (C := RX2) (T := TX2) (N := 15) hx hb hts (by decide +kernel) hown hK hP 0 rfl rfl 10 (by decide) (hts (.fieldLink RX2 38 "SevenKeysModel" "pieces" "[I") (by decide +kernel)) (fun _ h9 => h9) rfl dX2_spread_13 ?_
  refine lv_iload_n hx hb dX2_spread_16 rfl (lv_at hl 2 rfl) ?_
  refine lv_iload_n hx hb dX2_spread_17 rfl (lv_at hl 3 rfl) ?_
  refine nv_iast hx hb hK hP hMK.D hS 10 0 rfl rfl (by omega) (by decide) dX2_spread_18 (fun H locs hP hS => ?_)
  have hP : va_P D vwCl (mW cI cZ μ (va_up (va_up M 12 (upd (M 12) 0 (nI sd))) 10 (upd ((va_up M 12 (upd (M 12) 0 (nI sd))) 10) sd (nI pn))) (va_up V 1 (nI 1))) H := hP
  refine lv_aload_n hx hb dX2_spread_19 rfl (lv_at hl 0 rfl) ?_
  refine va_get (D := D) (ci := 2) (v := .ref (μ 11)) (C := RX2) (T := TX2) (N := 15) hx hb hts (by decide +kernel) hown hK hP 0 rfl rfl 11 (by decide) (hts (.fieldLink RX2 41 "SevenKeysModel" "steps" "[I") (by decide +kernel)) (fun _ h9 => h9) rfl dX2_spread_20 ?_
  refine lv_iload_n hx hb dX2_spread_23 rfl (lv_at hl 2 rfl) ?_
  refine lv_iconst (v := nI 0) hx hb dX2_spread_24 (by decide) ?_
  refine nv_iast hx hb hK hP hMK.D hS 11 0 rfl rfl (by omega) (by decide) dX2_spread_25 (fun H locs hP hS => ?_)
  have hP : va_P D vwCl (mW cI cZ μ (va_up (va_up (va_up M 12 (upd (M 12) 0 (nI sd))) 10 (upd ((va_up M 12 (upd (M 12) 0 (nI sd))) 10) sd (nI pn))) 11 (upd ((va_up (va_up M 12 (upd (M 12) 0 (nI sd))) 10 (upd ((va_up M 12 (upd (M 12) 0 (nI sd))) 10) sd (nI pn))) 11) sd (nI 0))) (va_up V 1 (nI 1))) H := hP
  refine lv_iconst (v := nI 0) hx hb dX2_spread_26 (by decide) ?_
  refine lv_istore (lv' := [(4, .int (nI 0)), (0, .ref (μ 0)), (1, .int (nI sl)), (2, .int (nI sd)), (3, .int (nI pn))]) hx hb dX2_spread_27 hl (by decide) rfl (fun ls hl => ?_)
  have loop_29 : ∀ (n : Nat) (i : Nat) (M1 : Nat → Nat → Int32) (V1 : Nat → Int32) (b : Bst), (i ≤ 2401) → (rM (M1 10) (M1 11) (M1 12) b) → (V1 1 = nI b.2.2.2) → (wfB (ctL lab) b) → (pcB 2401 b) → (fld (σ sl) pn (2402 - i) i b = flood (σ sl) pn lab pc q0 sd) → (M1 5 = M 5) → (V1 2 = V 2) → 2401 - i < n → ∀ (x4 : Int32), x4 = nI i → ∀ (H : Heap) (locs : List Loc), va_S (xA 13 μ) s.heap H locs → MP D cI cZ μ σ M1 V1 H → ∀ ls : Array Slot, lv_has ls 7 [(0, .ref (μ 0)), (1, .int (nI sl)), (2, .int (nI sd)), (3, .int (nI pn)), (4, .int x4)] → W p l e (headSpec wsX2_spread ({ frames := 3, cells := 0, slots := 0, locals := 67 })).room s m [.ref (μ 0), .int (nI sl), .int (nI sd), .int (nI pn)].toArray below meth c H locs 0 0 (MQ below (qW (some (.int (nI ((flood (σ sl) pn lab pc q0 sd).2.2.2)))) (MF D cI cZ μ σ (flood (σ sl) pn lab pc q0 sd) (M 5) (V 2)) (xA 13 μ)) [.ref (μ 0), .int (nI sl), .int (nI sd), .int (nI pn)].toArray s 0 0 (xA 13 μ)) (F0 m 29 ls []) := by
    intro n
    induction n with
    | zero => intro i M1 V1 b hi hq hV hw hpb hfin h5 h2 hm; exact absurd hm (Nat.not_lt_zero _)
    | succ n ih_29 =>
      intro i M1 V1 b hi hq hV hw hpb hfin h5 h2 hm_29 x4 e4 H locs hS hPP ls hl
      subst e4
      obtain ⟨hRel, hPt, hKg, hP⟩ := hPP
      refine lv_iload hx hb dX2_spread_29 (lv_at hl 4 rfl) ?_
      refine lv_aload_n hx hb dX2_spread_31 rfl (lv_at hl 0 rfl) ?_
      refine va_get (D := D) (ci := 2) (v := .int (V1 1)) (C := RX2) (T := TX2) (N := 15) hx hb hts (by decide +kernel) hown hK hP 0 rfl rfl 13 (by decide) (hts (.fieldLink RX2 107 "SevenKeysModel" "open" "I") (by decide +kernel)) (fun _ h9 => h9) rfl dX2_spread_32 ?_
      have htl := hw.tail
      refine nv_as (nI b.2.2.2) (by exact hV) ?_
      refine nv_icmp_ge (tgt := 150) hx hb dX2_spread_35 (by decide) (by omega) (by omega) (fun c_35 => ?_) (fun c_35 => ?_)
      ·
        refine lv_aload_n hx hb dX2_spread_150 rfl (lv_at hl 0 rfl) ?_
        refine va_get (D := D) (ci := 2) (v := .int (V1 1)) (C := RX2) (T := TX2) (N := 15) hx hb hts (by decide +kernel) hown hK hP 0 rfl rfl 13 (by decide) (hts (.fieldLink RX2 107 "SevenKeysModel" "open" "I") (by decide +kernel)) (fun _ h9 => h9) rfl dX2_spread_151 ?_
        refine nv_as (nI b.2.2.2) (by exact hV) ?_
        have hfb : flood (σ sl) pn lab pc q0 sd = b := by rw [← hfin]; exact fld_done (by omega) _
        exact ret_wi hx hb hr hlocks dX2_spread_154 hS (⟨_, _, ⟨h5, h2, by rw [hfb]; exact hq⟩, hRel, hPt, hKg, hP⟩) (by rw [hfb])
      ·
        have hh := (hw.2.1 i c_35).1
        have hh0 := (hw.2.1 i c_35).2
        have hlb := hw.lab (b.2.2.1 i)
        have hv2 : b.1 (b.2.2.1 i) + 1 ≤ ctL lab + b.2.2.2 + 1 := Nat.succ_le_succ (hw.2.2 _)
        refine lv_iconst (v := nI 1) hx hb dX2_spread_38 (by decide) ?_
        refine lv_istore (lv' := [(5, .int (nI 1)), (0, .ref (μ 0)), (1, .int (nI sl)), (2, .int (nI sd)), (3, .int (nI pn)), (4, .int (nI i))]) hx hb dX2_spread_39 hl (by decide) rfl (fun ls hl => ?_)
        have loop_41 : ∀ (n : Nat) (d : Nat) (M2 : Nat → Nat → Int32) (V2 : Nat → Int32), (d ≤ 6) → (rM (M2 10) (M2 11) (M2 12) (expd (σ sl) pn (b.2.2.1 i) (b.1 (b.2.2.1 i) + 1) d b)) → (V2 1 = nI (expd (σ sl) pn (b.2.2.1 i) (b.1 (b.2.2.1 i) + 1) d b).2.2.2) → (M2 5 = M 5) → (V2 2 = V 2) → 6 - d < n → ∀ (x5 : Int32), x5 = nI (d + 1) → ∀ (H : Heap) (locs : List Loc), va_S (xA 13 μ) s.heap H locs → MP D cI cZ μ σ M2 V2 H → ∀ ls : Array Slot, lv_has ls 7 [(0, .ref (μ 0)), (1, .int (nI sl)), (2, .int (nI sd)), (3, .int (nI pn)), (4, .int (nI i)), (5, .int x5)] → W p l e (headSpec wsX2_spread ({ frames := 3, cells := 0, slots := 0, locals := 67 })).room s m [.ref (μ 0), .int (nI sl), .int (nI sd), .int (nI pn)].toArray below meth c H locs 0 0 (MQ below (qW (some (.int (nI ((flood (σ sl) pn lab pc q0 sd).2.2.2)))) (MF D cI cZ μ σ (flood (σ sl) pn lab pc q0 sd) (M 5) (V 2)) (xA 13 μ)) [.ref (μ 0), .int (nI sl), .int (nI sd), .int (nI pn)].toArray s 0 0 (xA 13 μ)) (F0 m 41 ls []) := by
          intro n
          induction n with
          | zero => intro d M2 V2 hd hq2 hV2 h52 h22 hm; exact absurd hm (Nat.not_lt_zero _)
          | succ n ih_41 =>
            intro d M2 V2 hd hq2 hV2 h52 h22 hm_41 x5 e5 H locs hS hPP ls hl
            subst e5
            obtain ⟨hRel, hPt, hKg, hP⟩ := hPP
            refine lv_iload hx hb dX2_spread_41 (lv_at hl 5 rfl) ?_
            refine lv_bipush (v := nI 6) hx hb dX2_spread_43 (by decide) ?_
            refine nv_icmp_gt (tgt := 144) hx hb dX2_spread_45 (by decide) (by omega) (by omega) (fun c_45 => ?_) (fun c_45 => ?_)
            ·
              refine lv_iinc (v := nI (i + 1)) (lv' := [(4, .int (nI (i + 1))), (0, .ref (μ 0)), (1, .int (nI sl)), (2, .int (nI sd)), (3, .int (nI pn)), (5, .int (nI (d + 1)))]) hx hb dX2_spread_144 hl (k := 4) rfl (inc_nI _) (by decide) rfl (fun ls hl => ?_)
              refine lv_goto (tgt := 29) hx hb dX2_spread_147 (by decide) ?_
              have hd6 : d = 6 := by omega
              subst hd6
              exact ih_29 (i + 1) M2 V2 (expd (σ sl) pn (b.2.2.1 i) (b.1 (b.2.2.1 i) + 1) 6 b) (by omega) (by exact hq2) (by exact hV2) (by exact wf_step hw) (by exact pcB_expd hpb hpn 6) (by rw [← fld_go c_35 (by omega)]; exact hfin) (by exact h52) (by exact h22) (by omega) _ (by first | rfl | exact congrArg nI (by omega)) _ _ hS ⟨hRel, hPt, hKg, hP⟩ _ (lv_sub hl [1, 2, 3, 4, 0] rfl)
            ·
              refine lv_aload_n hx hb dX2_spread_48 rfl (lv_at hl 0 rfl) ?_
              refine lv_aload_n hx hb dX2_spread_49 rfl (lv_at hl 0 rfl) ?_
              refine va_get (D := D) (ci := 2) (v := .ref (μ 12)) (C := RX2) (T := TX2) (N := 15) hx hb hts (by decide +kernel) hown hK hP 0 rfl rfl 12 (by decide) (hts (.fieldLink RX2 44 "SevenKeysModel" "still" "[I") (by decide +kernel)) (fun _ h9 => h9) rfl dX2_spread_50 ?_
              refine lv_iload hx hb dX2_spread_53 (lv_at hl 4 rfl) ?_
              refine nv_iald hx hb hK hP 12 0 rfl rfl (by omega) (by decide) dX2_spread_55 ?_
              refine nv_as (nI (b.2.2.1 i)) (by rw [hq2.2.2 i (Nat.lt_of_lt_of_le c_35 (expd_tl d)), expd_qu c_35 d]) ?_
              refine lv_iload hx hb dX2_spread_56 (lv_at hl 5 rfl) ?_
              refine rd_V S hl (c_X2_nextOf l D cI cZ μ σ M2 V2 (b.2.2.1 i) (d + 1) (by omega) (by omega)) MB.hb gX2_spread_X2_nextOf rfl rfl nf_X2_nextOf rfl rfl dX2_spread_58 (MP.rc0 hMK hP) (MB.at hMK ⟨hRel, hPt, hKg, hP⟩) ?_
              refine lv_istore (lv' := [(6, .int (oI (nbo (b.2.2.1 i) (d + 1)))), (0, .ref (μ 0)), (1, .int (nI sl)), (2, .int (nI sd)), (3, .int (nI pn)), (4, .int (nI i)), (5, .int (nI (d + 1)))]) hx hb dX2_spread_61 hl (by decide) rfl (fun ls hl => ?_)
              rcases hnb : nbo (b.2.2.1 i) (d + 1) with _ | j
              ·
                rw [hnb] at hl
                have hl : lv_has ls 7 [(6, .int (oI none)), (0, .ref (μ 0)), (1, .int (nI sl)), (2, .int (nI sd)), (3, .int (nI pn)), (4, .int (nI i)), (5, .int (nI (d + 1)))] := hl
                have hE : expd (σ sl) pn (b.2.2.1 i) (b.1 (b.2.2.1 i) + 1) (d + 1) b = expd (σ sl) pn (b.2.2.1 i) (b.1 (b.2.2.1 i) + 1) d b := by rw [expd, hnb]; rfl
                refine lv_iload hx hb dX2_spread_63 (lv_at hl 0 rfl) ?_
                refine lv_if_lt (tgt := 138) hx hb dX2_spread_65 (by decide) (fun c_65 => ?_) (fun c_65 => ?_)
                ·
                  refine lv_iinc (v := nI (d + 1 + 1)) (lv' := [(5, .int (nI (d + 1 + 1))), (6, .int (oI none)), (0, .ref (μ 0)), (1, .int (nI sl)), (2, .int (nI sd)), (3, .int (nI pn)), (4, .int (nI i))]) hx hb dX2_spread_138 hl (k := 6) rfl (inc_nI _) (by decide) rfl (fun ls hl => ?_)
                  refine lv_goto (tgt := 41) hx hb dX2_spread_141 (by decide) ?_
                  exact ih_41 (d + 1) M2 V2 (by omega) (by first | (rw [hE]; exact hq2) | (rw [hE]; exact rM_up hq2 (Nat.succ_ne_zero _))) (by first | (rw [hE]; exact hV2) | (rw [hE]; rfl)) (by exact h52) (by exact h22) (by omega) _ (by first | rfl | exact congrArg nI (by omega)) _ _ hS ⟨hRel, hPt, hKg, hP⟩ _ (lv_sub hl [2, 3, 4, 5, 6, 0] rfl)
                ·
                  exact absurd (by decide) c_65
              ·
                have hj := nbo_lt hnb
                rw [hnb] at hl
                have hl : lv_has ls 7 [(6, .int (nI j)), (0, .ref (μ 0)), (1, .int (nI sl)), (2, .int (nI sd)), (3, .int (nI pn)), (4, .int (nI i)), (5, .int (nI (d + 1)))] := hl
                have hwE := (wf_expd (A := σ sl) (pn := pn) (h := b.2.2.1 i) hw (Nat.succ_ne_zero _) hv2 d).1
                have hpj := pcB_expd (A := σ sl) (h := b.2.2.1 i) (v := b.1 (b.2.2.1 i) + 1) hpb hpn d j
                have hge := rM_ge (hq2.1 j hj) (by omega)
                refine lv_iload hx hb dX2_spread_63 (lv_at hl 0 rfl) ?_
                refine lv_if_lt (tgt := 138) hx hb dX2_spread_65 (by decide) (fun c_65 => ?_) (fun c_65 => ?_)
                ·
                  exact absurd c_65 (nI_pos (by omega))
                ·
                  refine lv_aload_n hx hb dX2_spread_68 rfl (lv_at hl 1 rfl) ?_
                  refine lv_iload_n hx hb dX2_spread_69 rfl (lv_at hl 2 rfl) ?_
                  refine lv_iload hx hb dX2_spread_70 (lv_at hl 0 rfl) ?_
                  refine rd_V S hl (c_X2_isIn l D cI cZ μ σ M2 V2 sl j (by omega) (by omega)) MB.hb gX2_spread_X2_isIn rfl rfl nf_X2_isIn rfl rfl dX2_spread_72 (MP.rc0 hMK hP) (MB.at hMK ⟨hRel, hPt, hKg, hP⟩) ?_
                  refine nv_ifz_eq (tgt := 138) hx hb dX2_spread_75 (by decide) (fun c_75 => ?_) (fun c_75 => ?_)
                  ·
                    have hE : expd (σ sl) pn (b.2.2.1 i) (b.1 (b.2.2.1 i) + 1) (d + 1) b = expd (σ sl) pn (b.2.2.1 i) (b.1 (b.2.2.1 i) + 1) d b := by rw [expd, hnb]; exact vis_f (fun q => absurd (q.1.symm.trans c_75) (by decide))
                    refine lv_iinc (v := nI (d + 1 + 1)) (lv' := [(5, .int (nI (d + 1 + 1))), (6, .int (nI j)), (0, .ref (μ 0)), (1, .int (nI sl)), (2, .int (nI sd)), (3, .int (nI pn)), (4, .int (nI i))]) hx hb dX2_spread_138 hl (k := 6) rfl (inc_nI _) (by decide) rfl (fun ls hl => ?_)
                    refine lv_goto (tgt := 41) hx hb dX2_spread_141 (by decide) ?_
                    exact ih_41 (d + 1) M2 V2 (by omega) (by first | (rw [hE]; exact hq2) | (rw [hE]; exact rM_up hq2 (Nat.succ_ne_zero _))) (by first | (rw [hE]; exact hV2) | (rw [hE]; rfl)) (by exact h52) (by exact h22) (by omega) _ (by first | rfl | exact congrArg nI (by omega)) _ _ hS ⟨hRel, hPt, hKg, hP⟩ _ (lv_sub hl [2, 3, 4, 5, 6, 0] rfl)
                  ·
                    refine lv_aload_n hx hb dX2_spread_78 rfl (lv_at hl 1 rfl) ?_
                    refine va_get (D := D) (ci := 2) (v := .ref (μ 10)) (C := RX2) (T := TX2) (N := 15) hx hb hts (by decide +kernel) hown hK hP 0 rfl rfl 10 (by decide) (hts (.fieldLink RX2 38 "SevenKeysModel" "pieces" "[I") (by decide +kernel)) (fun _ h9 => h9) rfl dX2_spread_79 ?_
                    refine lv_iload hx hb dX2_spread_82 (lv_at hl 0 rfl) ?_
                    refine nv_iald hx hb hK hP 10 0 rfl rfl (by omega) (by decide) dX2_spread_84 ?_
                    refine lv_if_ge (tgt := 138) hx hb dX2_spread_85 (by decide) (fun c_85 => ?_) (fun c_85 => ?_)
                    ·
                      have hE : expd (σ sl) pn (b.2.2.1 i) (b.1 (b.2.2.1 i) + 1) (d + 1) b = expd (σ sl) pn (b.2.2.1 i) (b.1 (b.2.2.1 i) + 1) d b := by rw [expd, hnb]; exact vis_f (fun q => hge.mp c_85 q.2)
                      refine lv_iinc (v := nI (d + 1 + 1)) (lv' := [(5, .int (nI (d + 1 + 1))), (6, .int (nI j)), (0, .ref (μ 0)), (1, .int (nI sl)), (2, .int (nI sd)), (3, .int (nI pn)), (4, .int (nI i))]) hx hb dX2_spread_138 hl (k := 6) rfl (inc_nI _) (by decide) rfl (fun ls hl => ?_)
                      refine lv_goto (tgt := 41) hx hb dX2_spread_141 (by decide) ?_
                      exact ih_41 (d + 1) M2 V2 (by omega) (by first | (rw [hE]; exact hq2) | (rw [hE]; exact rM_up hq2 (Nat.succ_ne_zero _))) (by first | (rw [hE]; exact hV2) | (rw [hE]; rfl)) (by exact h52) (by exact h22) (by omega) _ (by first | rfl | exact congrArg nI (by omega)) _ _ hS ⟨hRel, hPt, hKg, hP⟩ _ (lv_sub hl [2, 3, 4, 5, 6, 0] rfl)
                    ·
                      have hj0 : (expd (σ sl) pn (b.2.2.1 i) (b.1 (b.2.2.1 i) + 1) d b).1 j = 0 := Classical.byContradiction (fun q => c_85 (hge.mpr q))
                      have hE : expd (σ sl) pn (b.2.2.1 i) (b.1 (b.2.2.1 i) + 1) (d + 1) b = (va_up (expd (σ sl) pn (b.2.2.1 i) (b.1 (b.2.2.1 i) + 1) d b).1 j (b.1 (b.2.2.1 i) + 1), va_up (expd (σ sl) pn (b.2.2.1 i) (b.1 (b.2.2.1 i) + 1) d b).2.1 j pn, va_up (expd (σ sl) pn (b.2.2.1 i) (b.1 (b.2.2.1 i) + 1) d b).2.2.1 (expd (σ sl) pn (b.2.2.1 i) (b.1 (b.2.2.1 i) + 1) d b).2.2.2 j, (expd (σ sl) pn (b.2.2.1 i) (b.1 (b.2.2.1 i) + 1) d b).2.2.2 + 1) := by rw [expd, hnb]; exact vis_t ⟨c_75, hj0⟩
                      have htE := tail_lt hwE hj hj0
                      have hkp := (Kp_expd (A := σ sl) (pn := pn) (h := b.2.2.1 i) (v := b.1 (b.2.2.1 i) + 1) (b := b) (Nat.succ_ne_zero _) d (b.2.2.1 i)).1 hh0
                      refine lv_aload_n hx hb dX2_spread_88 rfl (lv_at hl 1 rfl) ?_
                      refine va_get (D := D) (ci := 2) (v := .ref (μ 10)) (C := RX2) (T := TX2) (N := 15) hx hb hts (by decide +kernel) hown hK hP 0 rfl rfl 10 (by decide) (hts (.fieldLink RX2 38 "SevenKeysModel" "pieces" "[I") (by decide +kernel)) (fun _ h9 => h9) rfl dX2_spread_89 ?_
                      refine lv_iload hx hb dX2_spread_92 (lv_at hl 0 rfl) ?_
                      refine lv_iload_n hx hb dX2_spread_94 rfl (lv_at hl 4 rfl) ?_
                      refine nv_iast hx hb hK hP hMK.D hS 10 0 rfl rfl (by omega) (by decide) dX2_spread_95 (fun H locs hP hS => ?_)
                      have hP : va_P D vwCl (mW cI cZ μ (va_up M2 10 (upd (M2 10) j (nI pn))) V2) H := hP
                      refine lv_aload_n hx hb dX2_spread_96 rfl (lv_at hl 1 rfl) ?_
                      refine va_get (D := D) (ci := 2) (v := .ref (μ 11)) (C := RX2) (T := TX2) (N := 15) hx hb hts (by decide +kernel) hown hK hP 0 rfl rfl 11 (by decide) (hts (.fieldLink RX2 41 "SevenKeysModel" "steps" "[I") (by decide +kernel)) (fun _ h9 => h9) rfl dX2_spread_97 ?_
                      refine lv_iload hx hb dX2_spread_100 (lv_at hl 0 rfl) ?_
                      refine lv_aload_n hx hb dX2_spread_102 rfl (lv_at hl 1 rfl) ?_
                      refine va_get (D := D) (ci := 2) (v := .ref (μ 11)) (C := RX2) (T := TX2) (N := 15) hx hb hts (by decide +kernel) hown hK hP 0 rfl rfl 11 (by decide) (hts (.fieldLink RX2 41 "SevenKeysModel" "steps" "[I") (by decide +kernel)) (fun _ h9 => h9) rfl dX2_spread_103 ?_
                      refine lv_aload_n hx hb dX2_spread_106 rfl (lv_at hl 1 rfl) ?_
                      refine va_get (D := D) (ci := 2) (v := .ref (μ 12)) (C := RX2) (T := TX2) (N := 15) hx hb hts (by decide +kernel) hown hK hP 0 rfl rfl 12 (by decide) (hts (.fieldLink RX2 44 "SevenKeysModel" "still" "[I") (by decide +kernel)) (fun _ h9 => h9) rfl dX2_spread_107 ?_
                      refine lv_iload hx hb dX2_spread_110 (lv_at hl 5 rfl) ?_
                      refine nv_iald hx hb hK hP 12 0 rfl rfl (by omega) (by decide) dX2_spread_112 ?_
                      refine nv_as (nI (b.2.2.1 i)) (by exact (hq2.2.2 i (Nat.lt_of_lt_of_le c_35 (expd_tl d))).trans (by rw [expd_qu c_35 d])) ?_
                      refine nv_iald hx hb hK hP 11 0 rfl rfl (by omega) (by decide) dX2_spread_113 ?_
                      refine nv_as (nI (b.1 (b.2.2.1 i) - 1)) (by exact (hq2.2.1 _ hh (by rw [hkp.1]; exact hh0)).trans (by rw [hkp.1])) ?_
                      refine lv_iconst (v := nI 1) hx hb dX2_spread_114 (by decide) ?_
                      refine lv_iadd hx hb dX2_spread_115 ?_
                      refine nv_as (nI (b.1 (b.2.2.1 i) + 1 - 1)) (by rw [nI_add]; exact congrArg nI (by omega)) ?_
                      refine nv_iast hx hb hK hP hMK.D hS 11 0 rfl rfl (by omega) (by decide) dX2_spread_116 (fun H locs hP hS => ?_)
                      have hP : va_P D vwCl (mW cI cZ μ (va_up (va_up M2 10 (upd (M2 10) j (nI pn))) 11 (upd ((va_up M2 10 (upd (M2 10) j (nI pn))) 11) j (nI (b.1 (b.2.2.1 i) + 1 - 1)))) V2) H := hP
                      refine lv_aload_n hx hb dX2_spread_117 rfl (lv_at hl 1 rfl) ?_
                      refine va_get (D := D) (ci := 2) (v := .ref (μ 12)) (C := RX2) (T := TX2) (N := 15) hx hb hts (by decide +kernel) hown hK hP 0 rfl rfl 12 (by decide) (hts (.fieldLink RX2 44 "SevenKeysModel" "still" "[I") (by decide +kernel)) (fun _ h9 => h9) rfl dX2_spread_118 ?_
                      refine lv_aload_n hx hb dX2_spread_121 rfl (lv_at hl 1 rfl) ?_
                      refine va_get (D := D) (ci := 2) (v := .int (V2 1)) (C := RX2) (T := TX2) (N := 15) hx hb hts (by decide +kernel) hown hK hP 0 rfl rfl 13 (by decide) (hts (.fieldLink RX2 107 "SevenKeysModel" "open" "I") (by decide +kernel)) (fun _ h9 => h9) rfl dX2_spread_122 ?_
                      refine nv_as (nI ((expd (σ sl) pn (b.2.2.1 i) (b.1 (b.2.2.1 i) + 1) d b).2.2.2)) (by exact hV2) ?_
                      refine lv_iload hx hb dX2_spread_125 (lv_at hl 0 rfl) ?_
                      refine nv_iast hx hb hK hP hMK.D hS 12 0 rfl rfl (by exact htE) (by decide) dX2_spread_127 (fun H locs hP hS => ?_)
                      have hP : va_P D vwCl (mW cI cZ μ (va_up (va_up (va_up M2 10 (upd (M2 10) j (nI pn))) 11 (upd ((va_up M2 10 (upd (M2 10) j (nI pn))) 11) j (nI (b.1 (b.2.2.1 i) + 1 - 1)))) 12 (upd ((va_up (va_up M2 10 (upd (M2 10) j (nI pn))) 11 (upd ((va_up M2 10 (upd (M2 10) j (nI pn))) 11) j (nI (b.1 (b.2.2.1 i) + 1 - 1)))) 12) ((expd (σ sl) pn (b.2.2.1 i) (b.1 (b.2.2.1 i) + 1) d b).2.2.2) (nI j))) V2) H := hP
                      refine lv_aload_n hx hb dX2_spread_128 rfl (lv_at hl 1 rfl) ?_
                      refine lv_dup hx hb dX2_spread_129 rfl ?_
                      refine va_get (D := D) (ci := 2) (v := .int (V2 1)) (C := RX2) (T := TX2) (N := 15) hx hb hts (by decide +kernel) hown hK hP 0 rfl rfl 13 (by decide) (hts (.fieldLink RX2 107 "SevenKeysModel" "open" "I") (by decide +kernel)) (fun _ h9 => h9) rfl dX2_spread_130 ?_
                      refine nv_as (nI ((expd (σ sl) pn (b.2.2.1 i) (b.1 (b.2.2.1 i) + 1) d b).2.2.2)) (by exact hV2) ?_
                      refine lv_iconst (v := nI 1) hx hb dX2_spread_133 (by decide) ?_
                      refine lv_iadd hx hb dX2_spread_134 ?_
                      refine nv_as (nI ((expd (σ sl) pn (b.2.2.1 i) (b.1 (b.2.2.1 i) + 1) d b).2.2.2 + 1)) (nI_add _ _) ?_
                      refine va_put (D := D) (ci := 2) (v := .int (nI ((expd (σ sl) pn (b.2.2.1 i) (b.1 (b.2.2.1 i) + 1) d b).2.2.2 + 1))) (ty := .int) (C := RX2) (T := TX2) (N := 15) hx hb hts (by decide +kernel) tyX2 tyX2_ok nmX2 hown hK hP hMK.D hS 0 rfl rfl 13 (by decide) (hts (.fieldLink RX2 107 "SevenKeysModel" "open" "I") (by decide +kernel)) (fun _ h9 => h9) rfl (by decide +kernel) rfl rfl (Nat.le_of_ble_eq_true rfl) dX2_spread_135 (fun H locs hP hD hS => ?_)
                      have hP : va_P D vwCl (mW cI cZ μ (va_up (va_up (va_up M2 10 (upd (M2 10) j (nI pn))) 11 (upd ((va_up M2 10 (upd (M2 10) j (nI pn))) 11) j (nI (b.1 (b.2.2.1 i) + 1 - 1)))) 12 (upd ((va_up (va_up M2 10 (upd (M2 10) j (nI pn))) 11 (upd ((va_up M2 10 (upd (M2 10) j (nI pn))) 11) j (nI (b.1 (b.2.2.1 i) + 1 - 1)))) 12) ((expd (σ sl) pn (b.2.2.1 i) (b.1 (b.2.2.1 i) + 1) d b).2.2.2) (nI j))) (va_up V2 1 (nI ((expd (σ sl) pn (b.2.2.1 i) (b.1 (b.2.2.1 i) + 1) d b).2.2.2 + 1)))) H := hP
                      refine lv_iinc (v := nI (d + 1 + 1)) (lv' := [(5, .int (nI (d + 1 + 1))), (6, .int (nI j)), (0, .ref (μ 0)), (1, .int (nI sl)), (2, .int (nI sd)), (3, .int (nI pn)), (4, .int (nI i))]) hx hb dX2_spread_138 hl (k := 6) rfl (inc_nI _) (by decide) rfl (fun ls hl => ?_)
                      refine lv_goto (tgt := 41) hx hb dX2_spread_141 (by decide) ?_
                      exact ih_41 (d + 1) (va_up (va_up (va_up M2 10 (upd (M2 10) j (nI pn))) 11 (upd ((va_up M2 10 (upd (M2 10) j (nI pn))) 11) j (nI (b.1 (b.2.2.1 i) + 1 - 1)))) 12 (upd ((va_up (va_up M2 10 (upd (M2 10) j (nI pn))) 11 (upd ((va_up M2 10 (upd (M2 10) j (nI pn))) 11) j (nI (b.1 (b.2.2.1 i) + 1 - 1)))) 12) ((expd (σ sl) pn (b.2.2.1 i) (b.1 (b.2.2.1 i) + 1) d b).2.2.2) (nI j))) (va_up V2 1 (nI ((expd (σ sl) pn (b.2.2.1 i) (b.1 (b.2.2.1 i) + 1) d b).2.2.2 + 1))) (by omega) (by first | (rw [hE]; exact hq2) | (rw [hE]; exact rM_up hq2 (Nat.succ_ne_zero _))) (by first | (rw [hE]; exact hV2) | (rw [hE]; rfl)) (by exact h52) (by exact h22) (by omega) _ (by first | rfl | exact congrArg nI (by omega)) _ _ hS ⟨hRel, hPt, hKg, hP⟩ _ (lv_sub hl [2, 3, 4, 5, 6, 0] rfl)
        exact loop_41 (6 - 0 + 1) 0 M1 V1 (by omega) (by exact hq) (by exact hV) (by exact h5) (by exact h2) (Nat.lt_succ_self _) _ (by first | rfl | exact congrArg nI (by omega)) _ _ hS ⟨hRel, hPt, hKg, hP⟩ _ (lv_sub hl [1, 2, 3, 4, 5, 0] rfl)
  exact loop_29 (2401 - 0 + 1) 0 (va_up (va_up (va_up M 12 (upd (M 12) 0 (nI sd))) 10 (upd ((va_up M 12 (upd (M 12) 0 (nI sd))) 10) sd (nI pn))) 11 (upd ((va_up (va_up M 12 (upd (M 12) 0 (nI sd))) 10 (upd ((va_up M 12 (upd (M 12) 0 (nI sd))) 10) sd (nI pn))) 11) sd (nI 0))) (va_up V 1 (nI 1)) (fl0 lab pc q0 pn sd) (by omega) (by exact rM_0 hf1 hf2) (by rfl) (by exact wf_fl0 hsd hs0 hle) (by exact pcB_fl0 hpc hpn) (by exact flood_def) (by rfl) (by rfl) (Nat.lt_succ_self _) _ rfl _ _ hS ⟨hRel, hPt, hKg, hP⟩ _ (lv_sub hl [1, 2, 3, 4, 0] rfl)
