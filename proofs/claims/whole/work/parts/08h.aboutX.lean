def XG (D : va_G) (cI : ClassId) (ρ : Nat → Nat) (σ : Nat → Nat → Bool) (κ : Int32) (f : Nat → Bool) (H : Heap) : Prop := ∃ mk qu : Nat → Int32, (∀ k, k < 2401 → mk k = bI (f k)) ∧ XP D cI ρ σ κ mk qu H
theorem sw_6 (x : Int32) : x = nI 0 ∨ x = nI 1 ∨ x = nI 2 ∨ x = nI 3 ∨ x = nI 4 ∨ x = nI 5 ∨ x = nI 6 ∨ (x.toInt < 0 ∨ 6 < x.toInt) := by
  by_cases h : x.toInt < 0 ∨ 6 < x.toInt
  · simp [h]
  · have e : ∀ n : Nat, x.toInt = n → x = nI n := fun n q => by rw [iI_of x, q, ← nI_iI]
    rcases (show x.toInt = 0 ∨ x.toInt = 1 ∨ x.toInt = 2 ∨ x.toInt = 3 ∨ x.toInt = 4 ∨ x.toInt = 5 ∨ x.toInt = 6 by omega) with q | q | q | q | q | q | q
    · exact Or.inl (e 0 q)
    · exact Or.inr (Or.inl (e 1 q))
    · exact Or.inr (Or.inr (Or.inl (e 2 q)))
    · exact Or.inr (Or.inr (Or.inr (Or.inl (e 3 q))))
    · exact Or.inr (Or.inr (Or.inr (Or.inr (Or.inl (e 4 q)))))
    · exact Or.inr (Or.inr (Or.inr (Or.inr (Or.inr (Or.inl (e 5 q))))))
    · exact Or.inr (Or.inr (Or.inr (Or.inr (Or.inr (Or.inr (Or.inl (e 6 q)))))))
theorem nf_X1_markPatchesNextTo : nfOk yX1_markPatchesNextTo 3 := by unfold nfOk; decide +kernel
set_option maxHeartbeats 4000000 in
set_option maxRecDepth 100000 in
theorem c_X1_markPatchesNextTo (l : Launch) (D : va_G) (cI cZ : ClassId) (ρ : Nat → Nat) (ts : Nat) (σ : Nat → Nat → Bool) (κ : Int32) (mk : Nat → Int32) (qu : Nat → Int32) (h : Nat) (own : Nat) (L : Nat) (b : (Nat → Bool) × Nat) (hh : h < 2401) (ho : own < 2401) (hL : L ≤ 4) (hm0 : ∀ k, k < 2401 → mk k = bI (b.1 k)) (hb6 : b.2 < 2 ^ 30) : Wr l yX1_markPatchesNextTo wsX1_markPatchesNextTo ({ frames := 2, cells := 0, slots := 0, locals := 45 }) [.ref (ρ 0), .int (nI h), .int (nI own), .int (nI L)] (XB D cI cZ ρ ts σ κ mk qu) (some (.int (nI ((arD own L h 6 b).2 - b.2)))) (XG D cI ρ σ κ (arD own L h 6 b).1) (xA 7 ρ) := by
  refine met_in RX1 (by decide) rfl rfl (Nat.le_of_ble_eq_true rfl) ?_
  intro p e s m below meth c ls S hr hlocks hl hB
  have hx := S.1
  have hb := S.2.1
  have hml := S.2.2.1
  have hown := S.2.2.2.1
  have hts := S.2.2.2.2
  have hl : lv_has ls 8 [(0, .ref (ρ 0)), (1, .int (nI h)), (2, .int (nI own)), (3, .int (nI L))] := hl
  obtain ⟨⟨held, hRel, hP⟩, hXK⟩ := hB
  have hK := hXK.1
  have hS : va_S (xA 7 ρ) s.heap s.heap [] := va_S.rf
  refine lv_iconst (v := nI 0) hx hb dX1_markPatchesNextTo_0 (by decide) ?_
  refine lv_istore (lv' := [(4, .int (nI 0)), (0, .ref (ρ 0)), (1, .int (nI h)), (2, .int (nI own)), (3, .int (nI L))]) hx hb dX1_markPatchesNextTo_1 hl (by decide) rfl (fun ls hl => ?_)
  refine lv_iconst (v := nI 1) hx hb dX1_markPatchesNextTo_3 (by decide) ?_
  refine lv_istore (lv' := [(5, .int (nI 1)), (4, .int (nI 0)), (0, .ref (ρ 0)), (1, .int (nI h)), (2, .int (nI own)), (3, .int (nI L))]) hx hb dX1_markPatchesNextTo_4 hl (by decide) rfl (fun ls hl => ?_)
  have loop_6 : ∀ (n : Nat) (d : Nat) (m1 : Nat → Int32), (d ≤ 6) → (∀ k, k < 2401 → m1 k = bI ((arD own L h d b).1 k)) → 6 - d < n → ∀ (x4 x5 : Int32), x4 = nI ((arD own L h d b).2 - b.2) → x5 = nI (d + 1) → ∀ (H : Heap) (locs : List Loc), va_S (xA 7 ρ) s.heap H locs → XP D cI ρ σ κ m1 qu H → ∀ ls : Array Slot, lv_has ls 8 [(0, .ref (ρ 0)), (1, .int (nI h)), (2, .int (nI own)), (3, .int (nI L)), (4, .int x4), (5, .int x5)] → W p l e (headSpec wsX1_markPatchesNextTo ({ frames := 2, cells := 0, slots := 0, locals := 45 })).room s m [.ref (ρ 0), .int (nI h), .int (nI own), .int (nI L)].toArray below meth c H locs 0 0 (MQ below (qW (some (.int (nI ((arD own L h 6 b).2 - b.2)))) (XG D cI ρ σ κ (arD own L h 6 b).1) (xA 7 ρ)) [.ref (ρ 0), .int (nI h), .int (nI own), .int (nI L)].toArray s 0 0 (xA 7 ρ)) (F0 m 6 ls []) := by
    intro n
    induction n with
    | zero => intro d m1 hd hm hm; exact absurd hm (Nat.not_lt_zero _)
    | succ n ih_6 =>
      intro d m1 hd hm hm_6 x4 x5 e4 e5 H locs hS hPP ls hl
      subst e4
      subst e5
      obtain ⟨held, hRel, hP⟩ := hPP
      refine lv_iload hx hb dX1_markPatchesNextTo_6 (lv_at hl 5 rfl) ?_
      refine lv_bipush (v := nI 6) hx hb dX1_markPatchesNextTo_8 (by decide) ?_
      have hle := arD_le (own := own) (L := L) (h := h) (b := b) d
      refine nv_icmp_gt (tgt := 75) hx hb dX1_markPatchesNextTo_10 (by decide) (by omega) (by omega) (fun c_10 => ?_) (fun c_10 => ?_)
      ·
        refine lv_iload hx hb dX1_markPatchesNextTo_75 (lv_at hl 4 rfl) ?_
        have hd6 : d = 6 := by omega
        subst hd6
        exact ret_wi hx hb hr hlocks dX1_markPatchesNextTo_77 hS (⟨m1, _, hm, held, hRel, hP⟩) (by rfl)
      ·
        refine lv_aload_n hx hb dX1_markPatchesNextTo_13 rfl (lv_at hl 0 rfl) ?_
        refine va_get (D := D) (ci := 1) (v := .ref (ρ 1)) (C := RX1) (T := TX1) (N := 5) hx hb hts (by decide +kernel) hown hK hP 0 rfl rfl 0 (by decide) (hts (.fieldLink RX1 10 "SevenKeys" "sheet" "LSevenKeys$Sheet;") (by decide +kernel)) (fun _ h9 => h9) rfl dX1_markPatchesNextTo_14 ?_
        refine lv_iload_n hx hb dX1_markPatchesNextTo_17 rfl (lv_at hl 1 rfl) ?_
        refine lv_iload hx hb dX1_markPatchesNextTo_18 (lv_at hl 5 rfl) ?_
        refine rd_V S hl (c_X0_neighbour l D cI cZ ρ ts σ κ m1 qu h (d + 1) (by omega) (by omega)) XB.hb gX1_markPatchesNextTo_X0_neighbour rfl rfl nf_X0_neighbour rfl rfl dX1_markPatchesNextTo_20 (XP.rc1 hXK hP) (XB.at hXK hS ⟨held, hRel, hP⟩) ?_
        refine lv_istore (lv' := [(6, .int (oI (nbo h (d + 1)))), (0, .ref (ρ 0)), (1, .int (nI h)), (2, .int (nI own)), (3, .int (nI L)), (4, .int (nI ((arD own L h d b).2 - b.2))), (5, .int (nI (d + 1)))]) hx hb dX1_markPatchesNextTo_23 hl (by decide) rfl (fun ls hl => ?_)
        rcases hnb : nbo h (d + 1) with _ | j
        ·
          rw [hnb] at hl
          have hl : lv_has ls 8 [(6, .int (oI none)), (0, .ref (ρ 0)), (1, .int (nI h)), (2, .int (nI own)), (3, .int (nI L)), (4, .int (nI ((arD own L h d b).2 - b.2))), (5, .int (nI (d + 1)))] := hl
          have hE : arD own L h (d + 1) b = arD own L h d b := by rw [arD, hnb]; rfl
          refine lv_iload hx hb dX1_markPatchesNextTo_25 (lv_at hl 0 rfl) ?_
          refine lv_bipush (v := (-6)) hx hb dX1_markPatchesNextTo_27 (by decide) ?_
          refine lv_icmp_ne (tgt := 36) hx hb dX1_markPatchesNextTo_29 (by decide) (fun c_29 => ?_) (fun c_29 => ?_)
          ·
            exact absurd rfl c_29
          ·
            refine lv_iload_n hx hb dX1_markPatchesNextTo_32 rfl (lv_at hl 3 rfl) ?_
            refine lv_goto (tgt := 42) hx hb dX1_markPatchesNextTo_33 (by decide) ?_
            refine lv_istore (lv' := [(7, .int (nI own)), (6, .int (oI none)), (0, .ref (ρ 0)), (1, .int (nI h)), (2, .int (nI own)), (3, .int (nI L)), (4, .int (nI ((arD own L h d b).2 - b.2))), (5, .int (nI (d + 1)))]) hx hb dX1_markPatchesNextTo_42 hl (by decide) rfl (fun ls hl => ?_)
            refine lv_iload hx hb dX1_markPatchesNextTo_44 (lv_at hl 0 rfl) ?_
            refine lv_iload_n hx hb dX1_markPatchesNextTo_46 rfl (lv_at hl 4 rfl) ?_
            refine nv_icmp_eq (tgt := 69) hx hb dX1_markPatchesNextTo_47 (by decide) (by omega) (by omega) (fun c_47 => ?_) (fun c_47 => ?_)
            ·
              refine lv_iinc (v := nI (d + 1 + 1)) (lv' := [(5, .int (nI (d + 1 + 1))), (7, .int (nI own)), (6, .int (oI none)), (0, .ref (ρ 0)), (1, .int (nI h)), (2, .int (nI own)), (3, .int (nI L)), (4, .int (nI ((arD own L h d b).2 - b.2)))]) hx hb dX1_markPatchesNextTo_69 hl (k := 7) rfl (inc_nI _) (by decide) rfl (fun ls hl => ?_)
              refine lv_goto (tgt := 6) hx hb dX1_markPatchesNextTo_72 (by decide) ?_
              exact ih_6 (d + 1) m1 (by omega) (by first | (rw [hE]; exact hm) | (rw [hE]; exact upd_bI hm)) (by omega) _ _ (by first | (rw [hE]; done) | (rw [hE]; exact congrArg nI (by show _ = (arD own L h d b).2 + 1 - b.2; omega))) (by first | rfl | exact congrArg nI (by omega)) _ _ hS ⟨held, hRel, hP⟩ _ (lv_sub hl [3, 4, 5, 6, 7, 0] rfl)
            ·
              exact absurd rfl c_47
        ·
          have hj := nbo_lt hnb
          have hpj : j / 7 ^ L * 7 ^ L < 2401 := pO_lt hj
          rw [hnb] at hl
          have hl : lv_has ls 8 [(6, .int (nI j)), (0, .ref (ρ 0)), (1, .int (nI h)), (2, .int (nI own)), (3, .int (nI L)), (4, .int (nI ((arD own L h d b).2 - b.2))), (5, .int (nI (d + 1)))] := hl
          refine lv_iload hx hb dX1_markPatchesNextTo_25 (lv_at hl 0 rfl) ?_
          refine lv_bipush (v := (-6)) hx hb dX1_markPatchesNextTo_27 (by decide) ?_
          refine lv_icmp_ne (tgt := 36) hx hb dX1_markPatchesNextTo_29 (by decide) (fun c_29 => ?_) (fun c_29 => ?_)
          ·
            refine lv_iload hx hb dX1_markPatchesNextTo_36 (lv_at hl 0 rfl) ?_
            refine lv_iload_n hx hb dX1_markPatchesNextTo_38 rfl (lv_at hl 4 rfl) ?_
            refine rd_S S hl (c_X1_patchOf l j L (by omega) (by omega)) HB.tt gX1_markPatchesNextTo_X1_patchOf rfl nf_X1_patchOf rfl rfl dX1_markPatchesNextTo_39  (fun _ _ _ => trivial) ?_
            refine lv_istore (lv' := [(7, .int (nI (j / 7 ^ L * 7 ^ L))), (6, .int (nI j)), (0, .ref (ρ 0)), (1, .int (nI h)), (2, .int (nI own)), (3, .int (nI L)), (4, .int (nI ((arD own L h d b).2 - b.2))), (5, .int (nI (d + 1)))]) hx hb dX1_markPatchesNextTo_42 hl (by decide) rfl (fun ls hl => ?_)
            refine lv_iload hx hb dX1_markPatchesNextTo_44 (lv_at hl 0 rfl) ?_
            refine lv_iload_n hx hb dX1_markPatchesNextTo_46 rfl (lv_at hl 4 rfl) ?_
            refine nv_icmp_eq (tgt := 69) hx hb dX1_markPatchesNextTo_47 (by decide) (by omega) (by omega) (fun c_47 => ?_) (fun c_47 => ?_)
            ·
              have hE : arD own L h (d + 1) b = arD own L h d b := by rw [arD, hnb]; exact if_neg (fun q => q.1 c_47)
              refine lv_iinc (v := nI (d + 1 + 1)) (lv' := [(5, .int (nI (d + 1 + 1))), (7, .int (nI (j / 7 ^ L * 7 ^ L))), (6, .int (nI j)), (0, .ref (ρ 0)), (1, .int (nI h)), (2, .int (nI own)), (3, .int (nI L)), (4, .int (nI ((arD own L h d b).2 - b.2)))]) hx hb dX1_markPatchesNextTo_69 hl (k := 7) rfl (inc_nI _) (by decide) rfl (fun ls hl => ?_)
              refine lv_goto (tgt := 6) hx hb dX1_markPatchesNextTo_72 (by decide) ?_
              exact ih_6 (d + 1) m1 (by omega) (by first | (rw [hE]; exact hm) | (rw [hE]; exact upd_bI hm)) (by omega) _ _ (by first | (rw [hE]; done) | (rw [hE]; exact congrArg nI (by show _ = (arD own L h d b).2 + 1 - b.2; omega))) (by first | rfl | exact congrArg nI (by omega)) _ _ hS ⟨held, hRel, hP⟩ _ (lv_sub hl [3, 4, 5, 6, 7, 0] rfl)
            ·
              refine lv_aload_n hx hb dX1_markPatchesNextTo_50 rfl (lv_at hl 2 rfl) ?_
              refine lv_iload hx hb dX1_markPatchesNextTo_51 (lv_at hl 0 rfl) ?_
              refine rd_V S hl (c_X1_isMarked l D cI cZ ρ ts σ κ m1 qu (some (j / 7 ^ L * 7 ^ L)) (by exact fun j h => by first | exact nbo_lt h | (cases h <;> omega))) XB.hb gX1_markPatchesNextTo_X1_isMarked rfl rfl nf_X1_isMarked rfl rfl dX1_markPatchesNextTo_53 (XP.rc0 hXK hP) (XB.at hXK hS ⟨held, hRel, hP⟩) ?_
              refine nv_ifz_ne (tgt := 69) hx hb dX1_markPatchesNextTo_56 (by decide) (fun c_56 => ?_) (fun c_56 => ?_)
              ·
                have hE : arD own L h (d + 1) b = arD own L h d b := by rw [arD, hnb]; exact if_neg (fun q => absurd ((mkd_b (hm _ hpj)).symm.trans c_56) (by rw [show (arD own L h d b).1 (j / 7 ^ L * 7 ^ L) = false from q.2]; decide))
                refine lv_iinc (v := nI (d + 1 + 1)) (lv' := [(5, .int (nI (d + 1 + 1))), (7, .int (nI (j / 7 ^ L * 7 ^ L))), (6, .int (nI j)), (0, .ref (ρ 0)), (1, .int (nI h)), (2, .int (nI own)), (3, .int (nI L)), (4, .int (nI ((arD own L h d b).2 - b.2)))]) hx hb dX1_markPatchesNextTo_69 hl (k := 7) rfl (inc_nI _) (by decide) rfl (fun ls hl => ?_)
                refine lv_goto (tgt := 6) hx hb dX1_markPatchesNextTo_72 (by decide) ?_
                exact ih_6 (d + 1) m1 (by omega) (by first | (rw [hE]; exact hm) | (rw [hE]; exact upd_bI hm)) (by omega) _ _ (by first | (rw [hE]; done) | (rw [hE]; exact congrArg nI (by show _ = (arD own L h d b).2 + 1 - b.2; omega))) (by first | rfl | exact congrArg nI (by omega)) _ _ hS ⟨held, hRel, hP⟩ _ (lv_sub hl [3, 4, 5, 6, 7, 0] rfl)
              ·
                have hE : arD own L h (d + 1) b = (va_up (arD own L h d b).1 (j / 7 ^ L * 7 ^ L) true, (arD own L h d b).2 + 1) := by rw [arD, hnb]; exact if_pos ⟨c_47, (mkd_b (hm _ hpj)).symm.trans c_56⟩
                refine lv_aload_n hx hb dX1_markPatchesNextTo_59 rfl (lv_at hl 2 rfl) ?_
                refine lv_iload hx hb dX1_markPatchesNextTo_60 (lv_at hl 0 rfl) ?_
                refine lv_iconst (v := nI 1) hx hb dX1_markPatchesNextTo_62 (by decide) ?_
                refine wr_V S hl (c_X1_mark l D cI cZ ρ ts σ κ m1 qu (j / 7 ^ L * 7 ^ L) (nI 1) (by omega)) XB.hb gX1_markPatchesNextTo_X1_mark rfl rfl nf_X1_mark rfl rfl dX1_markPatchesNextTo_63 (XP.rc0 hXK hP) (XB.at hXK hS ⟨held, hRel, hP⟩) hS (fun _ h => h) (fun H locs hPP hS _ hkp => ?_)
                obtain ⟨held, hRel, hP⟩ := hPP
                refine W.eq (g2 := F0 m 66 ls []) rfl ?_
                refine lv_iinc (v := nI ((arD own L h d b).2 - b.2 + 1)) (lv' := [(4, .int (nI ((arD own L h d b).2 - b.2 + 1))), (7, .int (nI (j / 7 ^ L * 7 ^ L))), (6, .int (nI j)), (0, .ref (ρ 0)), (1, .int (nI h)), (2, .int (nI own)), (3, .int (nI L)), (5, .int (nI (d + 1)))]) hx hb dX1_markPatchesNextTo_66 hl (k := 6) rfl (inc_nI _) (by decide) rfl (fun ls hl => ?_)
                refine lv_iinc (v := nI (d + 1 + 1)) (lv' := [(5, .int (nI (d + 1 + 1))), (4, .int (nI ((arD own L h d b).2 - b.2 + 1))), (7, .int (nI (j / 7 ^ L * 7 ^ L))), (6, .int (nI j)), (0, .ref (ρ 0)), (1, .int (nI h)), (2, .int (nI own)), (3, .int (nI L))]) hx hb dX1_markPatchesNextTo_69 hl (k := 7) rfl (inc_nI _) (by decide) rfl (fun ls hl => ?_)
                refine lv_goto (tgt := 6) hx hb dX1_markPatchesNextTo_72 (by decide) ?_
                exact ih_6 (d + 1) (upd m1 (j / 7 ^ L * 7 ^ L) (nI 1)) (by omega) (by first | (rw [hE]; exact hm) | (rw [hE]; exact upd_bI hm)) (by omega) _ _ (by first | (rw [hE]; done) | (rw [hE]; exact congrArg nI (by show _ = (arD own L h d b).2 + 1 - b.2; omega))) (by first | rfl | exact congrArg nI (by omega)) _ _ hS ⟨held, hRel, hP⟩ _ (lv_sub hl [4, 5, 6, 7, 1, 0] rfl)
          ·
            exact absurd c_29 (nI_ne6 (by omega))
  exact loop_6 (6 - 0 + 1) 0 mk (by omega) (by exact hm0) (Nat.lt_succ_self _) _ _ (by exact congrArg nI (Nat.sub_self _).symm) (by first | rfl | exact congrArg nI (by omega)) _ _ hS ⟨held, hRel, hP⟩ _ (lv_sub hl [2, 3, 4, 5, 1, 0] rfl)
theorem nf_X1_around : nfOk yX1_around 2 := by unfold nfOk; decide +kernel
set_option maxHeartbeats 4000000 in
set_option maxRecDepth 100000 in
theorem c_X1_around (l : Launch) (D : va_G) (cI cZ : ClassId) (ρ : Nat → Nat) (ts : Nat) (σ : Nat → Nat → Bool) (κ : Int32) (mk : Nat → Int32) (qu : Nat → Int32) (x : Int32) (y : Int32) : Wr l yX1_around wsX1_around ({ frames := 3, cells := 0, slots := 0, locals := 72 }) [.ref (ρ 0), .int x, .int y] (XB D cI cZ ρ ts σ κ mk qu) (some (.int (aroundR x y))) (XS D cI ρ σ κ) (xA 7 ρ) := by
  refine met_in RX1 (by decide) rfl rfl (Nat.le_of_ble_eq_true rfl) ?_
  intro p e s m below meth c ls S hr hlocks hl hB
  have hx := S.1
  have hb := S.2.1
  have hml := S.2.2.1
  have hown := S.2.2.2.1
  have hts := S.2.2.2.2
  have hl : lv_has ls 7 [(0, .ref (ρ 0)), (1, .int x), (2, .int y)] := hl
  obtain ⟨⟨held, hRel, hP⟩, hXK⟩ := hB
  have hK := hXK.1
  have hS : va_S (xA 7 ρ) s.heap s.heap [] := va_S.rf
  refine lv_iload_n hx hb dX1_around_0 rfl (lv_at hl 1 rfl) ?_
  refine rd_S S hl (c_X1_isKey l x) HB.tt gX1_around_X1_isKey rfl nf_X1_isKey rfl rfl dX1_around_1  (fun _ _ _ => trivial) ?_
  refine nv_ifz_eq (tgt := 14) hx hb dX1_around_4 (by decide) (fun c_4 => ?_) (fun c_4 => ?_)
  ·
    refine lv_bipush (v := (-2)) hx hb dX1_around_14 (by decide) ?_
    exact ret_wi hx hb hr hlocks dX1_around_16 hS (⟨_, _, held, hRel, hP⟩) (by first | (simp [aroundR, gd, gs, c_4, c_11]; done) | (simp [aroundR, gd, gs, c_4]; done))
  ·
    obtain ⟨k, hk, hxk⟩ := wI_nat c_4 (by decide)
    subst hxk
    have hck : (nI k).toNatClampNeg = k := nI_clamp (by omega)
    refine lv_iload_n hx hb dX1_around_7 rfl (lv_at hl 2 rfl) ?_
    refine rd_S S hl (c_X1_isLevel l y) HB.tt gX1_around_X1_isLevel rfl nf_X1_isLevel rfl rfl dX1_around_8  (fun _ _ _ => trivial) ?_
    refine nv_ifz_ne (tgt := 17) hx hb dX1_around_11 (by decide) (fun c_11 => ?_) (fun c_11 => ?_)
    ·
      obtain ⟨L, hL, hxL⟩ := wI_nat c_11 (by decide)
      subst hxL
      have hcL : (nI L).toNatClampNeg = L := nI_clamp (by omega)
      refine lv_aload_n hx hb dX1_around_17 rfl (lv_at hl 0 rfl) ?_
      refine va_get (D := D) (ci := 1) (v := .ref (ρ 3)) (C := RX1) (T := TX1) (N := 5) hx hb hts (by decide +kernel) hown hK hP 0 rfl rfl 3 (by decide) (hts (.fieldLink RX1 24 "SevenKeys" "marks" "[I") (by decide +kernel)) (fun _ h9 => h9) rfl dX1_around_18 ?_
      refine lv_iconst (v := nI 0) hx hb dX1_around_21 (by decide) ?_
      refine wr_S S hl (c_J7_fill_53178 l D cI cZ (ρ 3) 2401 mk (nI 0) (by decide)) FB.hb gX1_around_J7_fill_53178 rfl nf_J7_fill_53178 rfl rfl dX1_around_22  (FB.at hK hP 3 rfl) hS (fun q h => ⟨3, by omega, h⟩) (fun H locs hPP hS _ hkp => ?_)
      have hP : va_P D vwCl (xW cI ρ held κ (fun _ => nI 0) qu) H := xfill hXK.2.1 hP hPP hkp
      refine W.eq (g2 := F0 m 25 ls []) rfl ?_
      refine lv_iload_n hx hb dX1_around_25 rfl (lv_at hl 1 rfl) ?_
      refine lv_iload_n hx hb dX1_around_26 rfl (lv_at hl 2 rfl) ?_
      refine rd_S S hl (c_X1_patchOf l k L (by omega) (by omega)) HB.tt gX1_around_X1_patchOf rfl nf_X1_patchOf rfl rfl dX1_around_27  (fun _ _ _ => trivial) ?_
      refine lv_istore_n (lv' := [(3, .int (nI (k / 7 ^ L * 7 ^ L))), (0, .ref (ρ 0)), (1, .int (nI k)), (2, .int (nI L))]) hx hb dX1_around_30 rfl hl (by decide) rfl (fun ls hl => ?_)
      refine lv_iload_n hx hb dX1_around_31 rfl (lv_at hl 0 rfl) ?_
      refine lv_iload_n hx hb dX1_around_32 rfl (lv_at hl 3 rfl) ?_
      refine rd_S S hl (c_X1_patchSize l L (by omega)) HB.tt gX1_around_X1_patchSize rfl nf_X1_patchSize rfl rfl dX1_around_33  (fun _ _ _ => trivial) ?_
      refine lv_iadd hx hb dX1_around_36 ?_
      refine nv_as (nI (k / 7 ^ L * 7 ^ L + (7 ^ L))) (nI_add _ _) ?_
      refine lv_istore (lv' := [(4, .int (nI (k / 7 ^ L * 7 ^ L + (7 ^ L)))), (3, .int (nI (k / 7 ^ L * 7 ^ L))), (0, .ref (ρ 0)), (1, .int (nI k)), (2, .int (nI L))]) hx hb dX1_around_37 hl (by decide) rfl (fun ls hl => ?_)
      refine lv_iconst (v := nI 0) hx hb dX1_around_39 (by decide) ?_
      refine lv_istore (lv' := [(5, .int (nI 0)), (4, .int (nI (k / 7 ^ L * 7 ^ L + (7 ^ L)))), (3, .int (nI (k / 7 ^ L * 7 ^ L))), (0, .ref (ρ 0)), (1, .int (nI k)), (2, .int (nI L))]) hx hb dX1_around_40 hl (by decide) rfl (fun ls hl => ?_)
      refine lv_iload_n hx hb dX1_around_42 rfl (lv_at hl 2 rfl) ?_
      refine lv_istore (lv' := [(6, .int (nI (k / 7 ^ L * 7 ^ L))), (5, .int (nI 0)), (4, .int (nI (k / 7 ^ L * 7 ^ L + (7 ^ L)))), (3, .int (nI (k / 7 ^ L * 7 ^ L))), (0, .ref (ρ 0)), (1, .int (nI k)), (2, .int (nI L))]) hx hb dX1_around_43 hl (by decide) rfl (fun ls hl => ?_)
      have hp := pO_le (k := k) (L := L) (by omega) (by omega)
      have loop_45 : ∀ (n : Nat) (t : Nat) (m1 : Nat → Int32) (q1 : Nat → Int32), (t ≤ 7 ^ L) → (∀ j, j < 2401 → m1 j = bI ((arH (k / 7 ^ L * 7 ^ L) L t).1 j)) → 7 ^ L - t < n → ∀ (x5 x6 : Int32), x5 = nI ((arH (k / 7 ^ L * 7 ^ L) L t).2) → x6 = nI (k / 7 ^ L * 7 ^ L + t) → ∀ (H : Heap) (locs : List Loc), va_S (xA 7 ρ) s.heap H locs → XP D cI ρ σ κ m1 q1 H → ∀ ls : Array Slot, lv_has ls 7 [(0, .ref (ρ 0)), (1, .int (nI k)), (2, .int (nI L)), (3, .int (nI (k / 7 ^ L * 7 ^ L))), (4, .int (nI (k / 7 ^ L * 7 ^ L + (7 ^ L)))), (5, .int x5), (6, .int x6)] → W p l e (headSpec wsX1_around ({ frames := 3, cells := 0, slots := 0, locals := 72 })).room s m [.ref (ρ 0), .int (nI k), .int (nI L)].toArray below meth c H locs 0 0 (MQ below (qW (some (.int (aroundR (nI k) (nI L)))) (XS D cI ρ σ κ) (xA 7 ρ)) [.ref (ρ 0), .int (nI k), .int (nI L)].toArray s 0 0 (xA 7 ρ)) (F0 m 45 ls []) := by
        intro n
        induction n with
        | zero => intro t m1 q1 ht hm hm; exact absurd hm (Nat.not_lt_zero _)
        | succ n ih_45 =>
          intro t m1 q1 ht hm hm_45 x5 x6 e5 e6 H locs hS hPP ls hl
          subst e5
          subst e6
          obtain ⟨held, hRel, hP⟩ := hPP
          refine lv_iload hx hb dX1_around_45 (lv_at hl 6 rfl) ?_
          refine lv_iload hx hb dX1_around_47 (lv_at hl 4 rfl) ?_
          refine nv_icmp_ge (tgt := 71) hx hb dX1_around_49 (by decide) (by omega) (by omega) (fun c_49 => ?_) (fun c_49 => ?_)
          ·
            refine lv_iload hx hb dX1_around_71 (lv_at hl 5 rfl) ?_
            have htt : t = 7 ^ L := by omega
            exact ret_wi hx hb hr hlocks dX1_around_73 hS (⟨_, _, held, hRel, hP⟩) (by rw [htt]; simp [aroundR, gd, pO, c_4, c_11, hck, hcL])
          ·
            refine lv_iload hx hb dX1_around_52 (lv_at hl 5 rfl) ?_
            refine lv_aload_n hx hb dX1_around_54 rfl (lv_at hl 0 rfl) ?_
            refine lv_iload hx hb dX1_around_55 (lv_at hl 6 rfl) ?_
            refine lv_iload_n hx hb dX1_around_57 rfl (lv_at hl 3 rfl) ?_
            refine lv_iload_n hx hb dX1_around_58 rfl (lv_at hl 2 rfl) ?_
            have hah := arH_le (own := k / 7 ^ L * 7 ^ L) (L := L) t
            refine wr_V S hl (c_X1_markPatchesNextTo l D cI cZ ρ ts σ κ m1 q1 (k / 7 ^ L * 7 ^ L + t) (k / 7 ^ L * 7 ^ L) L (arH (k / 7 ^ L * 7 ^ L) L t) (by omega) (by omega) (by omega) (by exact hm) (by omega)) XB.hb gX1_around_X1_markPatchesNextTo rfl rfl nf_X1_markPatchesNextTo rfl rfl dX1_around_59 (XP.rc0 hXK hP) (XB.at hXK hS ⟨held, hRel, hP⟩) hS (fun _ h => h) (fun H locs hPP hS _ hkp => ?_)
            obtain ⟨m_59, q_59, hmm_59, held, hRel, hP⟩ := hPP
            refine W.eq (g2 := F0 m 62 ls [.int (nI ((arD (k / 7 ^ L * 7 ^ L) L (k / 7 ^ L * 7 ^ L + t) 6 (arH (k / 7 ^ L * 7 ^ L) L t)).2 - (arH (k / 7 ^ L * 7 ^ L) L t).2)), .int (nI ((arH (k / 7 ^ L * 7 ^ L) L t).2))]) rfl ?_
            refine lv_iadd hx hb dX1_around_62 ?_
            refine nv_as (nI ((arH (k / 7 ^ L * 7 ^ L) L t).2 + ((arD (k / 7 ^ L * 7 ^ L) L (k / 7 ^ L * 7 ^ L + t) 6 (arH (k / 7 ^ L * 7 ^ L) L t)).2 - (arH (k / 7 ^ L * 7 ^ L) L t).2))) (nI_add _ _) ?_
            refine lv_istore (lv' := [(5, .int (nI ((arH (k / 7 ^ L * 7 ^ L) L t).2 + ((arD (k / 7 ^ L * 7 ^ L) L (k / 7 ^ L * 7 ^ L + t) 6 (arH (k / 7 ^ L * 7 ^ L) L t)).2 - (arH (k / 7 ^ L * 7 ^ L) L t).2)))), (0, .ref (ρ 0)), (1, .int (nI k)), (2, .int (nI L)), (3, .int (nI (k / 7 ^ L * 7 ^ L))), (4, .int (nI (k / 7 ^ L * 7 ^ L + (7 ^ L)))), (6, .int (nI (k / 7 ^ L * 7 ^ L + t)))]) hx hb dX1_around_63 hl (by decide) rfl (fun ls hl => ?_)
            refine lv_iinc (v := nI (k / 7 ^ L * 7 ^ L + t + 1)) (lv' := [(6, .int (nI (k / 7 ^ L * 7 ^ L + t + 1))), (5, .int (nI ((arH (k / 7 ^ L * 7 ^ L) L t).2 + ((arD (k / 7 ^ L * 7 ^ L) L (k / 7 ^ L * 7 ^ L + t) 6 (arH (k / 7 ^ L * 7 ^ L) L t)).2 - (arH (k / 7 ^ L * 7 ^ L) L t).2)))), (0, .ref (ρ 0)), (1, .int (nI k)), (2, .int (nI L)), (3, .int (nI (k / 7 ^ L * 7 ^ L))), (4, .int (nI (k / 7 ^ L * 7 ^ L + (7 ^ L))))]) hx hb dX1_around_65 hl (k := 6) rfl (inc_nI _) (by decide) rfl (fun ls hl => ?_)
            refine lv_goto (tgt := 45) hx hb dX1_around_68 (by decide) ?_
            exact ih_45 (t + 1) m_59 q_59 (by omega) (by exact hmm_59) (by omega) _ _ (by exact congrArg nI (Nat.add_sub_cancel' (arD_le 6).1)) (by rfl) _ _ hS ⟨held, hRel, hP⟩ _ (lv_sub hl [2, 3, 4, 5, 6, 1, 0] rfl)
      exact loop_45 (7 ^ L - 0 + 1) 0 (fun _ => nI 0) qu (by exact Nat.zero_le _) (by exact fun _ _ => rfl) (Nat.lt_succ_self _) _ _ (by rfl) (by rfl) _ _ hS ⟨held, hRel, hP⟩ _ (lv_sub hl [4, 5, 6, 3, 2, 1, 0] rfl)
    ·
      refine lv_bipush (v := (-2)) hx hb dX1_around_14 (by decide) ?_
      exact ret_wi hx hb hr hlocks dX1_around_16 hS (⟨_, _, held, hRel, hP⟩) (by first | (simp [aroundR, gd, gs, c_4, c_11]; done) | (simp [aroundR, gd, gs, c_4]; done))
theorem nf_X1_about : nfOk yX1_about 2 := by unfold nfOk; decide +kernel
set_option maxHeartbeats 4000000 in
set_option maxRecDepth 100000 in
theorem c_X1_about (l : Launch) (D : va_G) (cI cZ : ClassId) (ρ : Nat → Nat) (ts : Nat) (σ : Nat → Nat → Bool) (κ : Int32) (mk : Nat → Int32) (qu : Nat → Int32) (a : Int32) (x : Int32) : Wr l yX1_about wsX1_about ({ frames := 6, cells := 0, slots := 0, locals := 138 }) [.ref (ρ 0), .int a, .int x] (XB D cI cZ ρ ts σ κ mk qu) (some (.int (aboutR σ a x))) (XS D cI ρ σ κ) (xA 7 ρ) := by
  refine met_in RX1 (by decide) rfl rfl (Nat.le_of_ble_eq_true rfl) ?_
  intro p e s m below meth c ls S hr hlocks hl hB
  have hx := S.1
  have hb := S.2.1
  have hml := S.2.2.1
  have hown := S.2.2.2.1
  have hts := S.2.2.2.2
  have hl : lv_has ls 3 [(0, .ref (ρ 0)), (1, .int a), (2, .int x)] := hl
  obtain ⟨⟨held, hRel, hP⟩, hXK⟩ := hB
  have hK := hXK.1
  have hS : va_S (xA 7 ρ) s.heap s.heap [] := va_S.rf
  refine lv_iload_n hx hb dX1_about_0 rfl (lv_at hl 1 rfl) ?_
  refine rd_S S hl (c_X1_isSlot l a) HB.tt gX1_about_X1_isSlot rfl nf_X1_isSlot rfl rfl dX1_about_1  (fun _ _ _ => trivial) ?_
  refine nv_ifz_ne (tgt := 9) hx hb dX1_about_4 (by decide) (fun c_4 => ?_) (fun c_4 => ?_)
  ·
    obtain ⟨sl, hsl, hxsl⟩ := wI_nat c_4 (by decide)
    subst hxsl
    have hcsl : (nI sl).toNatClampNeg = sl := nI_clamp (by omega)
    refine lv_iload_n hx hb dX1_about_9 rfl (lv_at hl 2 rfl) ?_
    rcases sw_6 x with rfl | rfl | rfl | rfl | rfl | rfl | rfl | ho
    ·
      refine lv_tableIn (off := 42) (tgt := 52) hx hb dX1_about_10 (by decide) (by decide) (by decide) (by decide) ?_
      refine lv_aload_n hx hb dX1_about_52 rfl (lv_at hl 0 rfl) ?_
      refine lv_iload_n hx hb dX1_about_53 rfl (lv_at hl 1 rfl) ?_
      refine rd_V S hl (c_X1_sizeOf l D cI cZ ρ ts σ κ mk qu sl (by omega)) XB.hb gX1_about_X1_sizeOf rfl rfl nf_X1_sizeOf rfl rfl dX1_about_54 (XP.rc0 hXK hP) (XB.at hXK hS ⟨held, hRel, hP⟩) ?_
      exact ret_wi hx hb hr hlocks dX1_about_57 hS (⟨_, _, held, hRel, hP⟩) (by unfold aboutR gs; rw [show isS (nI sl) = true from c_4, show cl (nI sl) = sl from hcsl]; show _ = aboutF (σ sl) (nI 0); unfold aboutF; rw [if_pos rfl])
    ·
      refine lv_tableIn (off := 48) (tgt := 58) hx hb dX1_about_10 (by decide) (by decide) (by decide) (by decide) ?_
      refine lv_aload_n hx hb dX1_about_58 rfl (lv_at hl 0 rfl) ?_
      refine lv_iload_n hx hb dX1_about_59 rfl (lv_at hl 1 rfl) ?_
      refine rd_V S hl (c_X1_countPacked l D cI cZ ρ ts σ κ mk qu sl (by omega)) XB.hb gX1_about_X1_countPacked rfl rfl nf_X1_countPacked rfl rfl dX1_about_60 (XP.rc0 hXK hP) (XB.at hXK hS ⟨held, hRel, hP⟩) ?_
      exact ret_wi hx hb hr hlocks dX1_about_63 hS (⟨_, _, held, hRel, hP⟩) (by unfold aboutR gs; rw [show isS (nI sl) = true from c_4, show cl (nI sl) = sl from hcsl]; show _ = aboutF (σ sl) (nI 1); unfold aboutF; rw [if_neg (by decide), if_pos rfl])
    ·
      refine lv_tableIn (off := 54) (tgt := 64) hx hb dX1_about_10 (by decide) (by decide) (by decide) (by decide) ?_
      refine lv_aload_n hx hb dX1_about_64 rfl (lv_at hl 0 rfl) ?_
      refine lv_iload_n hx hb dX1_about_65 rfl (lv_at hl 1 rfl) ?_
      refine rd_V S hl (c_X1_borderOf l D cI cZ ρ ts σ κ mk qu sl (by omega)) XB.hb gX1_about_X1_borderOf rfl rfl nf_X1_borderOf rfl rfl dX1_about_66 (XP.rc0 hXK hP) (XB.at hXK hS ⟨held, hRel, hP⟩) ?_
      exact ret_wi hx hb hr hlocks dX1_about_69 hS (⟨_, _, held, hRel, hP⟩) (by unfold aboutR gs; rw [show isS (nI sl) = true from c_4, show cl (nI sl) = sl from hcsl]; show _ = aboutF (σ sl) (nI 2); unfold aboutF; rw [if_neg (by decide), if_neg (by decide), if_pos rfl])
    ·
      refine lv_tableIn (off := 60) (tgt := 70) hx hb dX1_about_10 (by decide) (by decide) (by decide) (by decide) ?_
      refine lv_aload_n hx hb dX1_about_70 rfl (lv_at hl 0 rfl) ?_
      refine lv_iload_n hx hb dX1_about_71 rfl (lv_at hl 1 rfl) ?_
      refine wr_V S hl (c_X1_countPieces l D cI cZ ρ ts σ κ mk qu sl (by omega)) XB.hb gX1_about_X1_countPieces rfl rfl nf_X1_countPieces rfl rfl dX1_about_72 (XP.rc0 hXK hP) (XB.at hXK hS ⟨held, hRel, hP⟩) hS (fun _ h => h) (fun H locs hPP hS _ hkp => ?_)
      obtain ⟨m_72, q_72, held, hRel, hP⟩ := hPP
      refine W.eq (g2 := F0 m 75 ls [.int (nI ((lay (σ sl) 2401).2.1))]) rfl ?_
      exact ret_wi hx hb hr hlocks dX1_about_75 hS (⟨_, _, held, hRel, hP⟩) (by unfold aboutR gs; rw [show isS (nI sl) = true from c_4, show cl (nI sl) = sl from hcsl]; show _ = aboutF (σ sl) (nI 3); unfold aboutF; rw [if_neg (by decide), if_neg (by decide), if_neg (by decide), if_pos rfl])
    ·
      refine lv_tableIn (off := 66) (tgt := 76) hx hb dX1_about_10 (by decide) (by decide) (by decide) (by decide) ?_
      refine lv_aload_n hx hb dX1_about_76 rfl (lv_at hl 0 rfl) ?_
      refine lv_iload_n hx hb dX1_about_77 rfl (lv_at hl 1 rfl) ?_
      refine wr_V S hl (c_X1_greatestPiece l D cI cZ ρ ts σ κ mk qu sl (by omega)) XB.hb gX1_about_X1_greatestPiece rfl rfl nf_X1_greatestPiece rfl rfl dX1_about_78 (XP.rc0 hXK hP) (XB.at hXK hS ⟨held, hRel, hP⟩) hS (fun _ h => h) (fun H locs hPP hS _ hkp => ?_)
      obtain ⟨m_78, q_78, held, hRel, hP⟩ := hPP
      refine W.eq (g2 := F0 m 81 ls [.int (nI ((lay (σ sl) 2401).2.2))]) rfl ?_
      exact ret_wi hx hb hr hlocks dX1_about_81 hS (⟨_, _, held, hRel, hP⟩) (by unfold aboutR gs; rw [show isS (nI sl) = true from c_4, show cl (nI sl) = sl from hcsl]; show _ = aboutF (σ sl) (nI 4); unfold aboutF; rw [if_neg (by decide), if_neg (by decide), if_neg (by decide), if_neg (by decide), if_pos rfl])
    ·
      refine lv_tableIn (off := 72) (tgt := 82) hx hb dX1_about_10 (by decide) (by decide) (by decide) (by decide) ?_
      refine lv_aload_n hx hb dX1_about_82 rfl (lv_at hl 0 rfl) ?_
      refine lv_iload_n hx hb dX1_about_83 rfl (lv_at hl 1 rfl) ?_
      refine rd_V S hl (c_X1_leastKey l D cI cZ ρ ts σ κ mk qu sl (by omega)) XB.hb gX1_about_X1_leastKey rfl rfl nf_X1_leastKey rfl rfl dX1_about_84 (XP.rc0 hXK hP) (XB.at hXK hS ⟨held, hRel, hP⟩) ?_
      exact ret_wi hx hb hr hlocks dX1_about_87 hS (⟨_, _, held, hRel, hP⟩) (by unfold aboutR gs; rw [show isS (nI sl) = true from c_4, show cl (nI sl) = sl from hcsl]; show _ = aboutF (σ sl) (nI 5); unfold aboutF; rw [if_neg (by decide), if_neg (by decide), if_neg (by decide), if_neg (by decide), if_neg (by decide), if_pos rfl])
    ·
      refine lv_tableIn (off := 78) (tgt := 88) hx hb dX1_about_10 (by decide) (by decide) (by decide) (by decide) ?_
      refine lv_aload_n hx hb dX1_about_88 rfl (lv_at hl 0 rfl) ?_
      refine lv_iload_n hx hb dX1_about_89 rfl (lv_at hl 1 rfl) ?_
      refine rd_V S hl (c_X1_greatestKey l D cI cZ ρ ts σ κ mk qu sl (by omega)) XB.hb gX1_about_X1_greatestKey rfl rfl nf_X1_greatestKey rfl rfl dX1_about_90 (XP.rc0 hXK hP) (XB.at hXK hS ⟨held, hRel, hP⟩) ?_
      exact ret_wi hx hb hr hlocks dX1_about_93 hS (⟨_, _, held, hRel, hP⟩) (by unfold aboutR gs; rw [show isS (nI sl) = true from c_4, show cl (nI sl) = sl from hcsl]; show _ = aboutF (σ sl) (nI 6); unfold aboutF; rw [if_neg (by decide), if_neg (by decide), if_neg (by decide), if_neg (by decide), if_neg (by decide), if_neg (by decide), if_pos rfl])
    ·
      refine lv_tableOut (tgt := 94) hx hb dX1_about_10 ho (by decide) ?_
      refine lv_bipush (v := (-2)) hx hb dX1_about_94 (by decide) ?_
      exact ret_wi hx hb hr hlocks dX1_about_96 hS (⟨_, _, held, hRel, hP⟩) (by unfold aboutR gs; rw [show isS (nI sl) = true from c_4]; show _ = aboutF _ _; unfold aboutF; rw [if_neg (sw_ne (by omega) ho (by omega) (by omega)), if_neg (sw_ne (by omega) ho (by omega) (by omega)), if_neg (sw_ne (by omega) ho (by omega) (by omega)), if_neg (sw_ne (by omega) ho (by omega) (by omega)), if_neg (sw_ne (by omega) ho (by omega) (by omega)), if_neg (sw_ne (by omega) ho (by omega) (by omega)), if_neg (sw_ne (by omega) ho (by omega) (by omega))])
  ·
    refine lv_iconst (v := (-1)) hx hb dX1_about_7 (by decide) ?_
    exact ret_wi hx hb hr hlocks dX1_about_8 hS (⟨_, _, held, hRel, hP⟩) (by first | (simp [aboutR, gd, gs, c_4]; done))
