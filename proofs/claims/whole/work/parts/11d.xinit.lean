theorem SHB_hb {D : va_G} {cI cZ : ClassId} {sz ta tb : Nat} {A : Nat → Prop} {ws : va_W} : HB (fun U => U.heap.size = sz ∧ va_P D vwCl ws U.heap ∧ KK D cI cZ U ∧ SAB ta tb A U U.heap) := by
  intro U V hh hv h
  have ha : U.vm.Alike V.vm := by rw [hv]; exact Vm.Alike.refl _
  exact ⟨by rw [← hh]; exact h.1, by rw [← hh]; exact h.2.1, va_K.moved ha h.2.2.1, SAB.hb U V hh hv h.2.2.2⟩
theorem In_of {A : Nat → Prop} {ws : va_W} {n : Nat} {ρ : Nat → Nat} (hD : va_D A ws) (h : ∀ i, i < n → ∃ e, ws[i]? = some (ρ i, e)) : In7 n ρ ∧ ∀ i, i < n → A (ρ i) := by
  refine ⟨fun i j hi hj e => ?_, fun i hi => ?_⟩
  · obtain ⟨e1, h1⟩ := h i hi
    obtain ⟨e2, h2⟩ := h j hj
    exact hD.1 i j _ _ h1 h2 e
  · obtain ⟨e1, h1⟩ := h i hi
    exact hD.2 i _ h1
theorem XW_has {cI : ClassId} {ρ : Nat → Nat} {held : Nat → Int32} {κ : Int32} {mk qu : Nat → Int32} : ∀ i, i < 7 → ∃ e, (xW cI ρ held κ mk qu)[i]? = some (ρ i, e) := by
  intro i hi
  match i, hi with
  | 0, _ => exact ⟨_, rfl⟩
  | 1, _ => exact ⟨_, rfl⟩
  | 2, _ => exact ⟨_, rfl⟩
  | 3, _ => exact ⟨_, rfl⟩
  | 4, _ => exact ⟨_, rfl⟩
  | 5, _ => exact ⟨_, rfl⟩
  | 6, _ => exact ⟨_, rfl⟩
  | i + 7, hi => omega
theorem MW_has {cI cZ : ClassId} {μ : Nat → Nat} {M : Nat → Nat → Int32} {V : Nat → Int32} : ∀ i, i < 13 → ∃ e, (mW cI cZ μ M V)[i]? = some (μ i, e) := by
  intro i hi
  match i, hi with
  | 0, _ => exact ⟨_, rfl⟩
  | 1, _ => exact ⟨_, rfl⟩
  | 2, _ => exact ⟨_, rfl⟩
  | 3, _ => exact ⟨_, rfl⟩
  | 4, _ => exact ⟨_, rfl⟩
  | 5, _ => exact ⟨_, rfl⟩
  | 6, _ => exact ⟨_, rfl⟩
  | 7, _ => exact ⟨_, rfl⟩
  | 8, _ => exact ⟨_, rfl⟩
  | 9, _ => exact ⟨_, rfl⟩
  | 10, _ => exact ⟨_, rfl⟩
  | 11, _ => exact ⟨_, rfl⟩
  | 12, _ => exact ⟨_, rfl⟩
  | i + 13, hi => omega
theorem RelX_0 : RelX (fun _ => 0) (fun _ _ => false) := fun k _ i _ => by rw [b_0, Bool.and_false]
theorem RelM_0 : RelM (fun _ => 0) (fun _ _ => false) := fun _ _ _ _ => rfl
theorem nf_X1_init : nfOk yX1_init 0 := by unfold nfOk; decide +kernel
set_option maxHeartbeats 8000000 in
set_option maxRecDepth 100000 in
theorem c_X1_init (l : Launch) (D : va_G) (cI cZ : ClassId) (q sz : Nat) (ta tb : Nat) : Met l yX1_init wsX1_init ({ frames := 3, cells := 6, slots := 13831, locals := 69 }) (va_Pc [.ref q] (fun U => U.heap.size = sz ∧ va_P D vwCl [(q, .inr (1, [.null, .null, .int 0, .null, .null]))] U.heap ∧ KK D cI cZ U ∧ SAB ta tb (AI q sz) U U.heap)) (qW none (fun H => ∃ (ρ : Nat → Nat) (mk qu : Nat → Int32), ρ 0 = q ∧ In7 7 ρ ∧ (∀ i, i < 7 → AI q sz (ρ i)) ∧ XP D cI ρ (fun _ _ => false) (nI 0) mk qu H) (AI q sz)) 6 13831 (AI q sz) := by
  refine met_inI RX1 (by decide) rfl rfl (Nat.le_of_ble_eq_true rfl) ?_
  intro p e s m below meth c ls S hr hlocks hin hl hB
  have hx := S.1
  have hb := S.2.1
  have hml := S.2.2.1
  have hown := S.2.2.2.1
  have hts := S.2.2.2.2
  obtain ⟨hsz, hP, hK, hSt⟩ := hB
  subst hsz
  have hl : lv_has ls 1 [(0, .ref q)] := hl
  have hD : va_D (AI q s.heap.size) [(q, .inr (1, [.null, .null, .int 0, .null, .null]))] := oneA
  have hA : ∀ a : Nat, s.heap.size ≤ a → AI q s.heap.size a := fun a h => Or.inr h
  have hS : va_S (AI q s.heap.size) s.heap s.heap [] := va_S.rf
  refine lv_aload_n hx hb dX1_init_0 rfl (lv_at hl 0 rfl) ?_
  refine W.objInit hx hb hown (hts (.methodLink RX1 1 objectInit) (by decide +kernel)) (hts (.instanceMethod objectInit) (by decide +kernel)) (hts _ (List.mem_of_getElem? (i := 3) rfl)) rfl (by rw [hml]; exact hl.1) rfl dX1_init_1 (Nat.le_of_ble_eq_true rfl) (Nat.le_of_ble_eq_true rfl) ?_
  refine W.eq (g2 := F0 m 4 ls []) rfl ?_
  refine lv_aload_n hx hb dX1_init_4 rfl (lv_at hl 0 rfl) ?_
  refine va_new (ci := 0) (fs := [.null, .null]) (C := RX0) (T := TX0) (N := 2) hx hb hts (by decide +kernel) tyX0 tyX0_ok hown (hts (.classLink RX1 7 RX0) (by decide +kernel)) (hts (.instantiable RX0 2) (by decide +kernel)) (hts (.initialized RX0) (by decide +kernel)) hK hP hD hS hA rfl (fun j hj => by rcases (show j = 0 ∨ j = 1 by omega) with rfl | rfl <;> rfl) (Nat.le_of_ble_eq_true rfl) (Nat.le_of_ble_eq_true rfl) dX1_init_5 (fun sh H hP hD hS => ?_)
  have hP : va_P D vwCl [(q, .inr (1, [.null, .null, .int 0, .null, .null])), (sh, .inr (0, [.null, .null]))] H := hP
  have hD : va_D (AI q s.heap.size) [(q, .inr (1, [.null, .null, .int 0, .null, .null])), (sh, .inr (0, [.null, .null]))] := hD
  refine W.widen (k := 1) (n := 2) (by omega) (by omega) ?_
  refine lv_dup hx hb dX1_init_8 rfl ?_
  have hqs : q ≠ sh := fun z => absurd (hD.1 0 1 _ _ rfl rfl z) (by decide)
  have hqH : q < H.size := (hP 0 _ rfl).lt
  have hshA : s.heap.size ≤ sh := (hD.2 1 _ rfl).elim (fun z => absurd z.symm hqs) id
  have hsub : ∀ a, AI sh H.size a → AI q s.heap.size a := fun a h => h.elim (fun z => Or.inr (by rw [z]; exact hshA)) (fun z => Or.inr (Nat.le_trans hS.1 z))
  refine wr_goN (W.runI (b := sh) (As := []) (rest := [.ref sh, .ref q]) S (c_X0_init l D cI cZ sh H.size ta tb) (cwI 0 hts gX1_init_X0_init rfl rfl rfl (hts (.initialized RX0) (by decide +kernel)) (hts (.methodLink RX1 9 yX0_init) (by decide +kernel)) (hts (.instanceMethod yX0_init) (by decide +kernel)) rfl nf_X0_init ⟨Nat.le_of_ble_eq_true rfl, Nat.le_of_ble_eq_true rfl⟩) ⟨SHB_hb.fb _, fun U h1 h2 => ⟨rfl, by rw [h1], by rw [h1]; exact hP.sub [1] rfl, va_K.moved h2.alike hK, SAB.at hSt hS hsub U h1 h2⟩⟩ rfl rfl hl.1 rfl (lv_room (Nat.le_of_ble_eq_true rfl)) dX1_init_9 ⟨Nat.le_of_ble_eq_true rfl, Nat.le_of_ble_eq_true rfl⟩) hS hsub (fun H1 locs hPP hS hz hkp => ?_)
  obtain ⟨ce, ke, hP1, hD1⟩ := hPP
  have hPq : va_P D vwCl [(q, .inr (1, [.null, .null, .int 0, .null, .null]))] H1 := (hP.sub (ws' := [(q, .inr (1, [.null, .null, .int 0, .null, .null]))]) [0] rfl).kept (fun k x hx => by
    have e : x.1 = q := by
      match k, hx with
      | 0, hx => cases hx; rfl
      | k + 1, hx => simp at hx
    rw [e]
    exact hkp q hqH (fun z => z.elim hqs (fun w => absurd w (Nat.not_le.mpr hqH))))
  have hDq : va_D (AI q s.heap.size) [(q, .inr (1, [.null, .null, .int 0, .null, .null]))] := oneA
  have hD := hDq.app (hD1.weaken (fun _ a _ h => hsub a.1 h)) (fun i j a b h1 h2 e => by
    have e1 : a.1 = q := by
      match i, h1 with
      | 0, h1 => cases h1; rfl
      | i + 1, h1 => simp at h1
    have h3 := hD1.2 j b h2
    rw [← e, e1] at h3
    exact h3.elim hqs (fun w => absurd w (Nat.not_le.mpr hqH)))
  have hP := hPq.app hP1
  generalize H1 = H at hP hS ⊢
  have hP : va_P D vwCl [(q, .inr (1, [.null, .null, .int 0, .null, .null])), (sh, .inr (0, [.ref ce, .ref ke])), (ce, .inl (cI, 2401, .inl cellF)), (ke, .inl (cI, 4225, .inl keyF))] H := hP
  have hD : va_D (AI q s.heap.size) [(q, .inr (1, [.null, .null, .int 0, .null, .null])), (sh, .inr (0, [.ref ce, .ref ke])), (ce, .inl (cI, 2401, .inl cellF)), (ke, .inl (cI, 4225, .inl keyF))] := hD
  refine W.widen (k := 3) (n := 6628) (by omega) (by omega) ?_
  refine va_putF (D := D) (ci := 1) (v := .ref sh) (ty := .object "SevenKeys$Sheet") (C := RX1) (T := TX1) (N := 5) hx hb hts (by decide +kernel) tyX1 tyX1_ok nmX1 hown hK hP hD hS 0 rfl rfl 0 (by decide) (hts (.fieldLink RX1 10 "SevenKeys" "sheet" "LSevenKeys$Sheet;") (by decide +kernel)) (fun _ h9 => h9) rfl hin rfl (by decide +kernel) rfl rfl (Nat.le_of_ble_eq_true rfl) dX1_init_12 (fun H locs hP hD hS => ?_)
  have hP : va_P D vwCl [(q, .inr (1, [.ref sh, .null, .int 0, .null, .null])), (sh, .inr (0, [.ref ce, .ref ke])), (ce, .inl (cI, 2401, .inl cellF)), (ke, .inl (cI, 4225, .inl keyF))] H := hP
  have hD : va_D (AI q s.heap.size) [(q, .inr (1, [.ref sh, .null, .int 0, .null, .null])), (sh, .inr (0, [.ref ce, .ref ke])), (ce, .inl (cI, 2401, .inl cellF)), (ke, .inl (cI, 4225, .inl keyF))] := hD
  refine lv_aload_n hx hb dX1_init_15 rfl (lv_at hl 0 rfl) ?_
  refine lv_sipush (v := nI 2401) hx hb dX1_init_16 (by decide) ?_
  refine va_newa (atype := .int) (a0 := (2401, .inl (fun _ => 0))) hx hb (hts (.arrayClass .int) (by decide +kernel)) rfl hK hP hD hS hA (fun _ => rfl) (by decide) (by decide) (Nat.le_of_ble_eq_true rfl) (Nat.le_of_ble_eq_true rfl) (Nat.le_of_ble_eq_true rfl) dX1_init_19 (fun hd cA H hK2 hP hD hS => ?_)
  rw [cA_int hK2] at hP hD
  have hP : va_P D vwCl [(q, .inr (1, [.ref sh, .null, .int 0, .null, .null])), (sh, .inr (0, [.ref ce, .ref ke])), (ce, .inl (cI, 2401, .inl cellF)), (ke, .inl (cI, 4225, .inl keyF)), (hd, .inl (cI, 2401, .inl (fun _ => 0)))] H := hP
  have hD : va_D (AI q s.heap.size) [(q, .inr (1, [.ref sh, .null, .int 0, .null, .null])), (sh, .inr (0, [.ref ce, .ref ke])), (ce, .inl (cI, 2401, .inl cellF)), (ke, .inl (cI, 4225, .inl keyF)), (hd, .inl (cI, 2401, .inl (fun _ => 0)))] := hD
  refine W.widen (k := 4) (n := 9029) (by omega) (by omega) ?_
  refine va_putF (D := D) (ci := 1) (v := .ref hd) (ty := .array .int) (C := RX1) (T := TX1) (N := 5) hx hb hts (by decide +kernel) tyX1 tyX1_ok nmX1 hown hK hP hD hS 0 rfl rfl 1 (by decide) (hts (.fieldLink RX1 16 "SevenKeys" "held" "[I") (by decide +kernel)) (fun _ h9 => h9) rfl hin rfl (by decide +kernel) rfl rfl (Nat.le_of_ble_eq_true rfl) dX1_init_21 (fun H locs hP hD hS => ?_)
  have hP : va_P D vwCl [(q, .inr (1, [.ref sh, .ref hd, .int 0, .null, .null])), (sh, .inr (0, [.ref ce, .ref ke])), (ce, .inl (cI, 2401, .inl cellF)), (ke, .inl (cI, 4225, .inl keyF)), (hd, .inl (cI, 2401, .inl (fun _ => 0)))] H := hP
  have hD : va_D (AI q s.heap.size) [(q, .inr (1, [.ref sh, .ref hd, .int 0, .null, .null])), (sh, .inr (0, [.ref ce, .ref ke])), (ce, .inl (cI, 2401, .inl cellF)), (ke, .inl (cI, 4225, .inl keyF)), (hd, .inl (cI, 2401, .inl (fun _ => 0)))] := hD
  refine lv_aload_n hx hb dX1_init_24 rfl (lv_at hl 0 rfl) ?_
  refine lv_iconst (v := nI 0) hx hb dX1_init_25 (by decide) ?_
  refine va_put (D := D) (ci := 1) (v := .int (nI 0)) (ty := .int) (C := RX1) (T := TX1) (N := 5) hx hb hts (by decide +kernel) tyX1 tyX1_ok nmX1 hown hK hP hD hS 0 rfl rfl 2 (by decide) (hts (.fieldLink RX1 20 "SevenKeys" "keptImages" "I") (by decide +kernel)) (fun _ h9 => h9) rfl (by decide +kernel) rfl rfl (Nat.le_of_ble_eq_true rfl) dX1_init_26 (fun H locs hP hD hS => ?_)
  have hP : va_P D vwCl [(q, .inr (1, [.ref sh, .ref hd, .int (nI 0), .null, .null])), (sh, .inr (0, [.ref ce, .ref ke])), (ce, .inl (cI, 2401, .inl cellF)), (ke, .inl (cI, 4225, .inl keyF)), (hd, .inl (cI, 2401, .inl (fun _ => 0)))] H := hP
  have hD : va_D (AI q s.heap.size) [(q, .inr (1, [.ref sh, .ref hd, .int (nI 0), .null, .null])), (sh, .inr (0, [.ref ce, .ref ke])), (ce, .inl (cI, 2401, .inl cellF)), (ke, .inl (cI, 4225, .inl keyF)), (hd, .inl (cI, 2401, .inl (fun _ => 0)))] := hD
  refine lv_aload_n hx hb dX1_init_29 rfl (lv_at hl 0 rfl) ?_
  refine lv_sipush (v := nI 2401) hx hb dX1_init_30 (by decide) ?_
  refine va_newa (atype := .int) (a0 := (2401, .inl (fun _ => 0))) hx hb (hts (.arrayClass .int) (by decide +kernel)) rfl hK hP hD hS hA (fun _ => rfl) (by decide) (by decide) (Nat.le_of_ble_eq_true rfl) (Nat.le_of_ble_eq_true rfl) (Nat.le_of_ble_eq_true rfl) dX1_init_33 (fun mk cA H hK2 hP hD hS => ?_)
  rw [cA_int hK2] at hP hD
  have hP : va_P D vwCl [(q, .inr (1, [.ref sh, .ref hd, .int (nI 0), .null, .null])), (sh, .inr (0, [.ref ce, .ref ke])), (ce, .inl (cI, 2401, .inl cellF)), (ke, .inl (cI, 4225, .inl keyF)), (hd, .inl (cI, 2401, .inl (fun _ => 0))), (mk, .inl (cI, 2401, .inl (fun _ => 0)))] H := hP
  have hD : va_D (AI q s.heap.size) [(q, .inr (1, [.ref sh, .ref hd, .int (nI 0), .null, .null])), (sh, .inr (0, [.ref ce, .ref ke])), (ce, .inl (cI, 2401, .inl cellF)), (ke, .inl (cI, 4225, .inl keyF)), (hd, .inl (cI, 2401, .inl (fun _ => 0))), (mk, .inl (cI, 2401, .inl (fun _ => 0)))] := hD
  refine W.widen (k := 5) (n := 11430) (by omega) (by omega) ?_
  refine va_putF (D := D) (ci := 1) (v := .ref mk) (ty := .array .int) (C := RX1) (T := TX1) (N := 5) hx hb hts (by decide +kernel) tyX1 tyX1_ok nmX1 hown hK hP hD hS 0 rfl rfl 3 (by decide) (hts (.fieldLink RX1 24 "SevenKeys" "marks" "[I") (by decide +kernel)) (fun _ h9 => h9) rfl hin rfl (by decide +kernel) rfl rfl (Nat.le_of_ble_eq_true rfl) dX1_init_35 (fun H locs hP hD hS => ?_)
  have hP : va_P D vwCl [(q, .inr (1, [.ref sh, .ref hd, .int (nI 0), .ref mk, .null])), (sh, .inr (0, [.ref ce, .ref ke])), (ce, .inl (cI, 2401, .inl cellF)), (ke, .inl (cI, 4225, .inl keyF)), (hd, .inl (cI, 2401, .inl (fun _ => 0))), (mk, .inl (cI, 2401, .inl (fun _ => 0)))] H := hP
  have hD : va_D (AI q s.heap.size) [(q, .inr (1, [.ref sh, .ref hd, .int (nI 0), .ref mk, .null])), (sh, .inr (0, [.ref ce, .ref ke])), (ce, .inl (cI, 2401, .inl cellF)), (ke, .inl (cI, 4225, .inl keyF)), (hd, .inl (cI, 2401, .inl (fun _ => 0))), (mk, .inl (cI, 2401, .inl (fun _ => 0)))] := hD
  refine lv_aload_n hx hb dX1_init_38 rfl (lv_at hl 0 rfl) ?_
  refine lv_sipush (v := nI 2401) hx hb dX1_init_39 (by decide) ?_
  refine va_newa (atype := .int) (a0 := (2401, .inl (fun _ => 0))) hx hb (hts (.arrayClass .int) (by decide +kernel)) rfl hK hP hD hS hA (fun _ => rfl) (by decide) (by decide) (Nat.le_of_ble_eq_true rfl) (Nat.le_of_ble_eq_true rfl) (Nat.le_of_ble_eq_true rfl) dX1_init_42 (fun qu cA H hK2 hP hD hS => ?_)
  rw [cA_int hK2] at hP hD
  have hP : va_P D vwCl [(q, .inr (1, [.ref sh, .ref hd, .int (nI 0), .ref mk, .null])), (sh, .inr (0, [.ref ce, .ref ke])), (ce, .inl (cI, 2401, .inl cellF)), (ke, .inl (cI, 4225, .inl keyF)), (hd, .inl (cI, 2401, .inl (fun _ => 0))), (mk, .inl (cI, 2401, .inl (fun _ => 0))), (qu, .inl (cI, 2401, .inl (fun _ => 0)))] H := hP
  have hD : va_D (AI q s.heap.size) [(q, .inr (1, [.ref sh, .ref hd, .int (nI 0), .ref mk, .null])), (sh, .inr (0, [.ref ce, .ref ke])), (ce, .inl (cI, 2401, .inl cellF)), (ke, .inl (cI, 4225, .inl keyF)), (hd, .inl (cI, 2401, .inl (fun _ => 0))), (mk, .inl (cI, 2401, .inl (fun _ => 0))), (qu, .inl (cI, 2401, .inl (fun _ => 0)))] := hD
  refine W.widen (k := 6) (n := 13831) (by omega) (by omega) ?_
  refine va_putF (D := D) (ci := 1) (v := .ref qu) (ty := .array .int) (C := RX1) (T := TX1) (N := 5) hx hb hts (by decide +kernel) tyX1 tyX1_ok nmX1 hown hK hP hD hS 0 rfl rfl 4 (by decide) (hts (.fieldLink RX1 27 "SevenKeys" "queue" "[I") (by decide +kernel)) (fun _ h9 => h9) rfl hin rfl (by decide +kernel) rfl rfl (Nat.le_of_ble_eq_true rfl) dX1_init_44 (fun H locs hP hD hS => ?_)
  have hP : va_P D vwCl [(q, .inr (1, [.ref sh, .ref hd, .int (nI 0), .ref mk, .ref qu])), (sh, .inr (0, [.ref ce, .ref ke])), (ce, .inl (cI, 2401, .inl cellF)), (ke, .inl (cI, 4225, .inl keyF)), (hd, .inl (cI, 2401, .inl (fun _ => 0))), (mk, .inl (cI, 2401, .inl (fun _ => 0))), (qu, .inl (cI, 2401, .inl (fun _ => 0)))] H := hP
  have hD : va_D (AI q s.heap.size) [(q, .inr (1, [.ref sh, .ref hd, .int (nI 0), .ref mk, .ref qu])), (sh, .inr (0, [.ref ce, .ref ke])), (ce, .inl (cI, 2401, .inl cellF)), (ke, .inl (cI, 4225, .inl keyF)), (hd, .inl (cI, 2401, .inl (fun _ => 0))), (mk, .inl (cI, 2401, .inl (fun _ => 0))), (qu, .inl (cI, 2401, .inl (fun _ => 0)))] := hD
  have hP9 : va_P D vwCl (xW cI (mkA [q, sh, hd, mk, qu, ce, ke]) (fun _ => 0) (nI 0) (fun _ => 0) (fun _ => 0)) H := hP.sub [0, 1, 4, 5, 6, 2, 3] rfl
  have hD9 : va_D (AI q s.heap.size) (xW cI (mkA [q, sh, hd, mk, qu, ce, ke]) (fun _ => 0) (nI 0) (fun _ => 0) (fun _ => 0)) := hD.sub [0, 1, 4, 5, 6, 2, 3] (by decide) rfl
  have hI9 := In_of hD9 XW_has
  exact ret_nv hx hb hr hlocks dX1_init_47 hS ⟨_, _, _, rfl, hI9.1, hI9.2, _, RelX_0, hP9⟩
