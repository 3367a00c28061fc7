theorem ac_int {args : Array Value} {s : State} (h : (Cond.arrayClass .int).before args s = true) : ∃ cI : ClassId, ArrOfT s cI .int ∧ va_RA s cI .int := by
  obtain ⟨c, k, comp, h1, h2, h3⟩ := Cond.arrayClass_spec h
  exact ⟨c, fun n z => ⟨fun k h => (by cases h), k, h2, comp, h3⟩, h1⟩
theorem ac_bool {args : Array Value} {s : State} (h : (Cond.arrayClass .boolean).before args s = true) : ∃ cI : ClassId, ArrOfT s cI .boolean ∧ va_RA s cI .boolean := by
  obtain ⟨c, k, comp, h1, h2, h3⟩ := Cond.arrayClass_spec h
  exact ⟨c, fun n z => ⟨fun k h => (by cases h), k, h2, comp, h3⟩, h1⟩
theorem MHB_hb {D : va_G} {cI cZ : ClassId} {sz : Nat} {ws : va_W} : HB (fun U => U.heap.size = sz ∧ va_P D vwCl ws U.heap ∧ KK D cI cZ U) := by
  intro U V hh hv h
  have ha : U.vm.Alike V.vm := by rw [hv]; exact Vm.Alike.refl _
  exact ⟨by rw [← hh]; exact h.1, by rw [← hh]; exact h.2.1, va_K.moved ha h.2.2⟩
theorem tb_SIDE_A {s : State} {b : Nat} (hgf : ∀ c ∈ flatC (Jvm.Cond.and given_1 narrow_1), c.before #[Value.ref b] s = true) (hAs : ∀ a : Nat, a < s.heap.size → ¬ AL s a) : ∃ t : Nat, (Term.static "SevenKeys$Sheet" "SIDE_A" "[I").eval #[Value.ref b] s none [] s = some (.ref t) ∧ va_T .int t 7 (fun j => .int (iI (sA j))) (AL s) s s.heap := by
  refine va_Tof (tm := .static "SevenKeys$Sheet" "SIDE_A" "[I") (ty := .int) (N := 7) (f := fun j => .int (iI (sA j))) (by decide) (hgf (.arrayOf (.static "SevenKeys$Sheet" "SIDE_A" "[I") .int) (by decide +kernel)) (va_eqt (hgf (.eq (.length (.static "SevenKeys$Sheet" "SIDE_A" "[I")) (.int 7)) (by decide +kernel))) (fun j hj => ?_) hAs
  rcases (show j = 0 ∨ j = 1 ∨ j = 2 ∨ j = 3 ∨ j = 4 ∨ j = 5 ∨ j = 6 by omega) with rfl | rfl | rfl | rfl | rfl | rfl | rfl
  · exact (va_eqt (hgf (.eq (.elem (.static "SevenKeys$Sheet" "SIDE_A" "[I") (.int 0)) (.int 0)) (by decide +kernel))).trans (congrArg (fun z => some (Value.int z)) (show (0 : Int32) = iI (sA 0) by decide))
  · exact (va_eqt (hgf (.eq (.elem (.static "SevenKeys$Sheet" "SIDE_A" "[I") (.int 1)) (.int 1)) (by decide +kernel))).trans (congrArg (fun z => some (Value.int z)) (show (1 : Int32) = iI (sA 1) by decide))
  · exact (va_eqt (hgf (.eq (.elem (.static "SevenKeys$Sheet" "SIDE_A" "[I") (.int 2)) (.int 0)) (by decide +kernel))).trans (congrArg (fun z => some (Value.int z)) (show (0 : Int32) = iI (sA 2) by decide))
  · exact (va_eqt (hgf (.eq (.elem (.static "SevenKeys$Sheet" "SIDE_A" "[I") (.int 3)) (.int (-1))) (by decide +kernel))).trans (congrArg (fun z => some (Value.int z)) (show ((-1) : Int32) = iI (sA 3) by decide))
  · exact (va_eqt (hgf (.eq (.elem (.static "SevenKeys$Sheet" "SIDE_A" "[I") (.int 4)) (.int (-1))) (by decide +kernel))).trans (congrArg (fun z => some (Value.int z)) (show ((-1) : Int32) = iI (sA 4) by decide))
  · exact (va_eqt (hgf (.eq (.elem (.static "SevenKeys$Sheet" "SIDE_A" "[I") (.int 5)) (.int 0)) (by decide +kernel))).trans (congrArg (fun z => some (Value.int z)) (show (0 : Int32) = iI (sA 5) by decide))
  · exact (va_eqt (hgf (.eq (.elem (.static "SevenKeys$Sheet" "SIDE_A" "[I") (.int 6)) (.int 1)) (by decide +kernel))).trans (congrArg (fun z => some (Value.int z)) (show (1 : Int32) = iI (sA 6) by decide))
theorem tb_SIDE_B {s : State} {b : Nat} (hgf : ∀ c ∈ flatC (Jvm.Cond.and given_1 narrow_1), c.before #[Value.ref b] s = true) (hAs : ∀ a : Nat, a < s.heap.size → ¬ AL s a) : ∃ t : Nat, (Term.static "SevenKeys$Sheet" "SIDE_B" "[I").eval #[Value.ref b] s none [] s = some (.ref t) ∧ va_T .int t 7 (fun j => .int (iI (sB j))) (AL s) s s.heap := by
  refine va_Tof (tm := .static "SevenKeys$Sheet" "SIDE_B" "[I") (ty := .int) (N := 7) (f := fun j => .int (iI (sB j))) (by decide) (hgf (.arrayOf (.static "SevenKeys$Sheet" "SIDE_B" "[I") .int) (by decide +kernel)) (va_eqt (hgf (.eq (.length (.static "SevenKeys$Sheet" "SIDE_B" "[I")) (.int 7)) (by decide +kernel))) (fun j hj => ?_) hAs
  rcases (show j = 0 ∨ j = 1 ∨ j = 2 ∨ j = 3 ∨ j = 4 ∨ j = 5 ∨ j = 6 by omega) with rfl | rfl | rfl | rfl | rfl | rfl | rfl
  · exact (va_eqt (hgf (.eq (.elem (.static "SevenKeys$Sheet" "SIDE_B" "[I") (.int 0)) (.int 0)) (by decide +kernel))).trans (congrArg (fun z => some (Value.int z)) (show (0 : Int32) = iI (sB 0) by decide))
  · exact (va_eqt (hgf (.eq (.elem (.static "SevenKeys$Sheet" "SIDE_B" "[I") (.int 1)) (.int 0)) (by decide +kernel))).trans (congrArg (fun z => some (Value.int z)) (show (0 : Int32) = iI (sB 1) by decide))
  · exact (va_eqt (hgf (.eq (.elem (.static "SevenKeys$Sheet" "SIDE_B" "[I") (.int 2)) (.int 1)) (by decide +kernel))).trans (congrArg (fun z => some (Value.int z)) (show (1 : Int32) = iI (sB 2) by decide))
  · exact (va_eqt (hgf (.eq (.elem (.static "SevenKeys$Sheet" "SIDE_B" "[I") (.int 3)) (.int 1)) (by decide +kernel))).trans (congrArg (fun z => some (Value.int z)) (show (1 : Int32) = iI (sB 3) by decide))
  · exact (va_eqt (hgf (.eq (.elem (.static "SevenKeys$Sheet" "SIDE_B" "[I") (.int 4)) (.int 0)) (by decide +kernel))).trans (congrArg (fun z => some (Value.int z)) (show (0 : Int32) = iI (sB 4) by decide))
  · exact (va_eqt (hgf (.eq (.elem (.static "SevenKeys$Sheet" "SIDE_B" "[I") (.int 5)) (.int (-1))) (by decide +kernel))).trans (congrArg (fun z => some (Value.int z)) (show ((-1) : Int32) = iI (sB 5) by decide))
  · exact (va_eqt (hgf (.eq (.elem (.static "SevenKeys$Sheet" "SIDE_B" "[I") (.int 6)) (.int (-1))) (by decide +kernel))).trans (congrArg (fun z => some (Value.int z)) (show ((-1) : Int32) = iI (sB 6) by decide))
theorem tb_SIDE_STEPS {s : State} {b : Nat} (hgf : ∀ c ∈ flatC (Jvm.Cond.and given_1 narrow_1), c.before #[Value.ref b] s = true) (hAs : ∀ a : Nat, a < s.heap.size → ¬ AL s a) : ∃ t : Nat, (Term.static "SevenKeys$Sheet" "SIDE_STEPS" "[I").eval #[Value.ref b] s none [] s = some (.ref t) ∧ va_T .int t 7 (fun j => .int (stF j)) (AL s) s s.heap := by
  refine va_Tof (tm := .static "SevenKeys$Sheet" "SIDE_STEPS" "[I") (ty := .int) (N := 7) (f := fun j => .int (stF j)) (by decide) (hgf (.arrayOf (.static "SevenKeys$Sheet" "SIDE_STEPS" "[I") .int) (by decide +kernel)) (va_eqt (hgf (.eq (.length (.static "SevenKeys$Sheet" "SIDE_STEPS" "[I")) (.int 7)) (by decide +kernel))) (fun j hj => ?_) hAs
  rcases (show j = 0 ∨ j = 1 ∨ j = 2 ∨ j = 3 ∨ j = 4 ∨ j = 5 ∨ j = 6 by omega) with rfl | rfl | rfl | rfl | rfl | rfl | rfl
  · exact (va_eqt (hgf (.eq (.elem (.static "SevenKeys$Sheet" "SIDE_STEPS" "[I") (.int 0)) (.int 0)) (by decide +kernel))).trans (congrArg (fun z => some (Value.int z)) (show (0 : Int32) = stF 0 by decide))
  · exact (va_eqt (hgf (.eq (.elem (.static "SevenKeys$Sheet" "SIDE_STEPS" "[I") (.int 1)) (.int 65)) (by decide +kernel))).trans (congrArg (fun z => some (Value.int z)) (show (65 : Int32) = stF 1 by decide))
  · exact (va_eqt (hgf (.eq (.elem (.static "SevenKeys$Sheet" "SIDE_STEPS" "[I") (.int 2)) (.int 1)) (by decide +kernel))).trans (congrArg (fun z => some (Value.int z)) (show (1 : Int32) = stF 2 by decide))
  · exact (va_eqt (hgf (.eq (.elem (.static "SevenKeys$Sheet" "SIDE_STEPS" "[I") (.int 3)) (.int (-64))) (by decide +kernel))).trans (congrArg (fun z => some (Value.int z)) (show ((-64) : Int32) = stF 3 by decide))
  · exact (va_eqt (hgf (.eq (.elem (.static "SevenKeys$Sheet" "SIDE_STEPS" "[I") (.int 4)) (.int (-65))) (by decide +kernel))).trans (congrArg (fun z => some (Value.int z)) (show ((-65) : Int32) = stF 4 by decide))
  · exact (va_eqt (hgf (.eq (.elem (.static "SevenKeys$Sheet" "SIDE_STEPS" "[I") (.int 5)) (.int (-1))) (by decide +kernel))).trans (congrArg (fun z => some (Value.int z)) (show ((-1) : Int32) = stF 5 by decide))
  · exact (va_eqt (hgf (.eq (.elem (.static "SevenKeys$Sheet" "SIDE_STEPS" "[I") (.int 6)) (.int 64)) (by decide +kernel))).trans (congrArg (fun z => some (Value.int z)) (show (64 : Int32) = stF 6 by decide))
set_option maxHeartbeats 16000000 in
set_option maxRecDepth 100000 in
theorem whole_start {p : Program} {e : Env} {s : State} {m : MethodId} {below : List Frame} {meth : Method} {c : Code} (l : Launch) (hflags : l.flags = flags0) {b L : Nat} {xs : Nat → Int32} (hL : L ≤ 2560) (C0 : lw_At p s m meth c b L xs) : W p l e room_1 s m #[Value.ref b] below meth c s.heap [] 0 0 (lw_Z below #[Value.ref b] s) (entryFrame m ([Value.ref b] : List Value).toArray 4) := by
  obtain ⟨hx, hb, hr, hml, hown, hts, hX, hbl, hlocks, hgv⟩ := id C0
  have htsL : ∀ w ∈ wsL_law, w.before #[Value.ref b] s = true := fun w h => hts w (wsL_law_in w h)
  have S : CallFix p m c cL_law 4 s #[Value.ref b] wsL_law RL := ⟨hx, hb, hml, hown, htsL⟩
  have hAs : ∀ a : Nat, a < s.heap.size → ¬ AL s a := fun a h => Nat.not_le.mpr h
  have hA : ∀ q : Nat, s.heap.size ≤ q → AL s q := fun _ h => h
  obtain ⟨c0, iS0, hKn0⟩ := u_known (C := RX0) (T := TX0) (N := 2) (n := 2) hts inX0 (htsL (.instantiable RX0 2) (by decide +kernel))
  obtain ⟨c1, iS1, hKn1⟩ := u_known (C := RX1) (T := TX1) (N := 5) (n := 5) hts inX1 (htsL (.instantiable RX1 5) (by decide +kernel))
  obtain ⟨c2, iS2, hKn2⟩ := u_known (C := RX2) (T := TX2) (N := 15) (n := 15) hts inX2 (htsL (.instantiable RX2 15) (by decide +kernel))
  obtain ⟨D, hKc⟩ : ∃ D : va_G, ∀ (k : Nat) (q : vw_C), vwCl[k]? = some q → u_Kn s q.1 q.2.1 q.2.2 (D.1 k) (D.2 k) := by
    refine ⟨(fun k => if k = 0 then c0 else if k = 1 then c1 else c2, fun k => if k = 0 then iS0 else if k = 1 then iS1 else iS2), ?_⟩
    intro k q hq
    match k, hq with
    | 0, hq => cases hq; exact hKn0
    | 1, hq => cases hq; exact hKn1
    | 2, hq => cases hq; exact hKn2
    | k + 3, hq => simp [vwCl] at hq
  obtain ⟨cI, hI1, hI2⟩ := ac_int (htsL (.arrayClass .int) (by decide +kernel))
  obtain ⟨cZ, hZ1, hZ2⟩ := ac_bool (htsL (.arrayClass .boolean) (by decide +kernel))
  have hK : KK D cI cZ s := ⟨hKc, fun k q h => by
    match k, h with
    | 0, h => cases h; exact ⟨hI1, hI2⟩
    | 1, h => cases h; exact ⟨hZ1, hZ2⟩
    | k + 2, h => simp at h⟩
  have hgf := flat_of_before _ hgv
  obtain ⟨ta, hva, hTa⟩ := tb_SIDE_A hgf hAs
  obtain ⟨tb, hvb, hTb⟩ := tb_SIDE_B hgf hAs
  obtain ⟨ts, hvs, hTs⟩ := tb_SIDE_STEPS hgf hAs
  have hini : (Cond.initialized RX0).before #[Value.ref b] s = true := htsL (.initialized RX0) (by decide +kernel)
  have hZa : va_Z RX0 "SIDE_A" "[I" (.ref ta) (AL s) s s.heap := va_Zref (hts (.laysStatic RX0 "SIDE_A" "[I") (List.mem_of_getElem? (i := 68) (by decide +kernel))) hini hva hAs
  have hZb : va_Z RX0 "SIDE_B" "[I" (.ref tb) (AL s) s s.heap := va_Zref (hts (.laysStatic RX0 "SIDE_B" "[I") (List.mem_of_getElem? (i := 73) (by decide +kernel))) hini hvb hAs
  have hZs : va_Z RX0 "SIDE_STEPS" "[I" (.ref ts) (AL s) s s.heap := va_Zref (hts (.laysStatic RX0 "SIDE_STEPS" "[I") (List.mem_of_getElem? (i := 137) (by decide +kernel))) hini hvs hAs
  have hN1 : va_Nw (.methodLinkNest RX0 31 yX1_valueAt "SevenKeys") s := va_Nw.of rfl (hts (.methodLinkNest RX0 31 yX1_valueAt "SevenKeys") (List.mem_of_getElem? (i := 69) (by decide +kernel)))
  have hN2 : va_Nw (.methodLinkNest RX0 42 yX1_within "SevenKeys") s := va_Nw.of rfl (hts (.methodLinkNest RX0 42 yX1_within "SevenKeys") (List.mem_of_getElem? (i := 127) (by decide +kernel)))
  have hSt : SAB ta tb (AL s) s s.heap := ⟨hZa, hTa, hZb, hTb, hN1⟩
  have hS : va_S (AL s) s.heap s.heap [] := va_S.rf
  have hP0 : va_P D vwCl [] s.heap := fun k q h => by simp at h
  have hD0 : va_D (AL s) [] := ⟨fun i j p q h => by simp at h, fun k q h => by simp at h⟩
  have hl := lv_entry ([.ref b]) (n := 4) (Nat.le_of_ble_eq_true rfl)
  rw [lg_entry_eq]
  generalize (lg_sl ([.ref b]) ++ List.replicate (4 - (lg_sl ([.ref b])).length) Slot.unset).toArray = ls at hl ⊢
  have hl : lv_has ls 4 [(0, .ref b)] := hl
  refine va_new (ci := 1) (fs := [.null, .null, .int 0, .null, .null]) (C := RX1) (T := TX1) (N := 5) hx hb htsL inlX1 tyX1 tyX1_ok hown (htsL (.classLink RL 7 RX1) (by decide +kernel)) (htsL (.instantiable RX1 5) (by decide +kernel)) (htsL (.initialized RX1) (by decide +kernel)) hK hP0 hD0 hS hA rfl (fun j hj => by rcases (show j = 0 ∨ j = 1 ∨ j = 2 ∨ j = 3 ∨ j = 4 by omega) with rfl | rfl | rfl | rfl | rfl <;> rfl) (Nat.le_of_ble_eq_true rfl) (Nat.le_of_ble_eq_true rfl) dL_law_0 (fun qx H hP1 hD1 hS => ?_)
  have hP1 : va_P D vwCl [(qx, .inr (1, [.null, .null, .int 0, .null, .null]))] H := hP1
  have hD1 : va_D (AL s) [(qx, .inr (1, [.null, .null, .int 0, .null, .null]))] := hD1
  refine lv_dup hx hb dL_law_3 rfl ?_
  have hsub : ∀ a, AI qx H.size a → AL s a := fun a h => h.elim (fun z => by rw [z]; exact hD1.2 0 (qx, .inr (1, [.null, .null, .int 0, .null, .null])) rfl) (fun z => Nat.le_trans hS.1 z)
  refine wr_goN (W.runI (b := qx) (As := []) (rest := [.ref qx]) S (c_X1_init l D cI cZ qx H.size ta tb) (cwI 0 htsL gL_law_X1_init rfl rfl rfl (htsL (.initialized RX1) (by decide +kernel)) (htsL (.methodLink RL 9 yX1_init) (by decide +kernel)) (htsL (.instanceMethod yX1_init) (by decide +kernel)) rfl nf_X1_init ⟨Nat.le_of_ble_eq_true rfl, Nat.le_of_ble_eq_true rfl⟩) ⟨SHB_hb.fb _, fun U h1 h2 => ⟨rfl, by rw [h1], by rw [h1]; exact hP1, va_K.moved h2.alike hK, SAB.at hSt hS hsub U h1 h2⟩⟩ rfl rfl hl.1 rfl (lv_room (Nat.le_of_ble_eq_true rfl)) dL_law_4 ⟨Nat.le_of_ble_eq_true rfl, Nat.le_of_ble_eq_true rfl⟩) hS hsub (fun H2 locs2 hPP hS2 _ _ => ?_)
  obtain ⟨ρ, mk, qu, hρ0, hIn, hAr, held, hRel, hP2⟩ := hPP
  have hAρ : ∀ i, i < 7 → AL s (ρ i) := fun i hi => hsub _ (hAr i hi)
  clear hsub hAr hP1 hD1 hS
  subst hρ0
  have hD2 : va_D (AL s) (xW cI ρ held (nI 0) mk qu) := (hIn.D XW_at).weaken (fun k a h z => by obtain ⟨i, hi, w⟩ := z; rw [w]; exact hAρ i hi)
  refine lv_astore_n (lv' := [(1, .ref (ρ 0)), (0, .ref b)]) hx hb dL_law_7 rfl hl (by decide) rfl (fun ls2 hl2 => ?_)
  refine va_new (ci := 2) (fs := [.null, .null, .null, .null, .null, .null, .null, .null, .null, .int 0, .null, .null, .null, .int 0, .int 0]) (C := RX2) (T := TX2) (N := 15) hx hb htsL inlX2 tyX2 tyX2_ok hown (htsL (.classLink RL 10 RX2) (by decide +kernel)) (htsL (.instantiable RX2 15) (by decide +kernel)) (htsL (.initialized RX2) (by decide +kernel)) hK hP2 hD2 hS2 hA rfl (fun j hj => by rcases (show j = 0 ∨ j = 1 ∨ j = 2 ∨ j = 3 ∨ j = 4 ∨ j = 5 ∨ j = 6 ∨ j = 7 ∨ j = 8 ∨ j = 9 ∨ j = 10 ∨ j = 11 ∨ j = 12 ∨ j = 13 ∨ j = 14 by omega) with rfl | rfl | rfl | rfl | rfl | rfl | rfl | rfl | rfl | rfl | rfl | rfl | rfl | rfl | rfl <;> rfl) (Nat.le_of_ble_eq_true rfl) (Nat.le_of_ble_eq_true rfl) dL_law_8 (fun qm H3 hP3 hD3 hS3 => ?_)
  have hne : ∀ i, i < 7 → ρ i ≠ qm := by
    intro i hi z
    match i, hi with
    | 0, _ => exact absurd (hD3.1 0 7 _ _ rfl rfl z) (by decide)
    | 1, _ => exact absurd (hD3.1 1 7 _ _ rfl rfl z) (by decide)
    | 2, _ => exact absurd (hD3.1 2 7 _ _ rfl rfl z) (by decide)
    | 3, _ => exact absurd (hD3.1 3 7 _ _ rfl rfl z) (by decide)
    | 4, _ => exact absurd (hD3.1 4 7 _ _ rfl rfl z) (by decide)
    | 5, _ => exact absurd (hD3.1 5 7 _ _ rfl rfl z) (by decide)
    | 6, _ => exact absurd (hD3.1 6 7 _ _ rfl rfl z) (by decide)
    | i + 7, hi => omega
  have hlt : ∀ i, i < 7 → ρ i < H3.size := by
    intro i hi
    match i, hi with
    | 0, _ => exact (hP3 0 _ rfl).lt
    | 1, _ => exact (hP3 1 _ rfl).lt
    | 2, _ => exact (hP3 2 _ rfl).lt
    | 3, _ => exact (hP3 3 _ rfl).lt
    | 4, _ => exact (hP3 4 _ rfl).lt
    | 5, _ => exact (hP3 5 _ rfl).lt
    | 6, _ => exact (hP3 6 _ rfl).lt
    | i + 7, hi => omega
  have hqm : AL s qm := hD3.2 7 (qm, .inr (2, [.null, .null, .null, .null, .null, .null, .null, .null, .null, .int 0, .null, .null, .null, .int 0, .int 0])) rfl
  have hPm : va_P D vwCl [(qm, .inr (2, [.null, .null, .null, .null, .null, .null, .null, .null, .null, .int 0, .null, .null, .null, .int 0, .int 0]))] H3 := hP3.sub [7] rfl
  have hPx : va_P D vwCl (xW cI ρ held (nI 0) mk qu) H3 := hP3.sub [0, 1, 2, 3, 4, 5, 6] rfl
  refine lv_dup hx hb dL_law_11 rfl ?_
  have hsub : ∀ a, AI qm H3.size a → AL s a := fun a h => h.elim (fun z => by rw [z]; exact hqm) (fun z => Nat.le_trans hS3.1 z)
  refine wr_goN (W.runI (b := qm) (As := []) (rest := [.ref qm]) S (c_X2_init l D cI cZ qm H3.size) (cwI 0 htsL gL_law_X2_init rfl rfl rfl (htsL (.initialized RX2) (by decide +kernel)) (htsL (.methodLink RL 12 yX2_init) (by decide +kernel)) (htsL (.instanceMethod yX2_init) (by decide +kernel)) rfl nf_X2_init ⟨Nat.le_of_ble_eq_true rfl, Nat.le_of_ble_eq_true rfl⟩) ⟨MHB_hb.fb _, fun U h1 h2 => ⟨rfl, by rw [h1], by rw [h1]; exact hPm, va_K.moved h2.alike hK⟩⟩ rfl rfl hl2.1 rfl (lv_room (Nat.le_of_ble_eq_true rfl)) dL_law_12 ⟨Nat.le_of_ble_eq_true rfl, Nat.le_of_ble_eq_true rfl⟩) hS3 hsub (fun H4 locs4 hPP hS4 _ hkp => ?_)
  obtain ⟨μ, M, V, hμ0, hInM, hAr, h5, hMP⟩ := hPP
  have hAm : ∀ j, j < 13 → AL s (μ j) := fun j hj => hsub _ (hAr j hj)
  have hd : ∀ i j, i < 7 → j < 13 → ρ i ≠ μ j := fun i j hi hj z => (hAr j hj).elim (fun w => hne i hi (z.trans w)) (fun w => absurd (hlt i hi) (by rw [z]; exact Nat.not_lt.mpr w))
  have hPx4 : va_P D vwCl (xW cI ρ held (nI 0) mk qu) H4 := hPx.kept (fun k a h => by
    have hk := XW_at k a h
    rw [hk.2]
    exact hkp (ρ k) (hlt k hk.1) (fun z => z.elim (hne k hk.1) (fun w => absurd (hlt k hk.1) (Nat.not_lt.mpr w))))
  clear hsub hAr hP3 hD3 hPm hkp hne hqm
  subst hμ0
  refine lv_astore_n (lv' := [(2, .ref (μ 0)), (1, .ref (ρ 0)), (0, .ref b)]) hx hb dL_law_15 rfl hl2 (by decide) rfl (fun ls3 hl3 => ?_)
  refine lv_iconst (v := nI 0) hx hb dL_law_16 (by decide) ?_
  refine lv_istore_n (lv' := [(3, .int (nI 0)), (2, .ref (μ 0)), (1, .ref (ρ 0)), (0, .ref b)]) hx hb dL_law_17 rfl hl3 (by decide) rfl (fun ls4 hl4 => ?_)
  have hXL : XKL D cI cZ ρ ts (AL s) s := ⟨hK, hIn, hAρ, hZs, hTs, hN1, hN2⟩
  refine W.widen (k := 20) (n := 78915) (Nat.le_of_ble_eq_true rfl) (Nat.le_of_ble_eq_true rfl) ?_
  exact law_loop hL C0 hXL ⟨hK, hInM⟩ hAm hd 2566 0 (by omega) (by omega) (fun _ _ => false) (fun _ => false) H4 locs4 hS4 ⟨mk, qu, held, hRel, hPx4⟩ ⟨M, V, h5, hMP⟩ ls4 (lv_sub hl4 [3, 2, 1, 0] rfl)
