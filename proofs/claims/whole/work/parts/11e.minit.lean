theorem gi_leaf {k : Nat} (hk : k < 2401) : nI 121 * (iI (pts k 4).1 + nI 60) + iI (pts k 4).2 + nI 60 = nI (gN k) := by
  have h := (gN_lt hk).2
  rw [pts_4, nI_iI 121, nI_iI 60, iI_add, iI_mul, iI_add, iI_add, nI_iI (gN k), h]
  rfl
theorem ab_step {f g : Nat → Int32} {i : Nat} (h : ∀ k, k < i → f k = iI (ptA k) ∧ g k = iI (ptB k)) : ∀ k, k < i + 1 → upd f i (iI (pts i 4).1) k = iI (ptA k) ∧ upd g i (iI (pts i 4).2) k = iI (ptB k) := by
  intro k hk
  unfold upd
  by_cases e : k = i
  · rw [if_pos e, if_pos e, e]; exact ⟨rfl, rfl⟩
  · rw [if_neg e, if_neg e]; exact h k (by omega)
theorem nf_X2_init : nfOk yX2_init 0 := by unfold nfOk; decide +kernel
set_option maxHeartbeats 8000000 in
set_option maxRecDepth 100000 in
theorem c_X2_init (l : Launch) (D : va_G) (cI cZ : ClassId) (q sz : Nat) : Met l yX2_init wsX2_init ({ frames := 1, cells := 12, slots := 65064, locals := 20 }) (va_Pc [.ref q] (fun U => U.heap.size = sz ∧ va_P D vwCl [(q, .inr (2, [.null, .null, .null, .null, .null, .null, .null, .null, .null, .int 0, .null, .null, .null, .int 0, .int 0]))] U.heap ∧ KK D cI cZ U)) (qW none (fun H => ∃ (ν : Nat → Nat) (M : Nat → Nat → Int32) (V : Nat → Int32), ν 0 = q ∧ In7 13 ν ∧ (∀ i, i < 13 → AI q sz (ν i)) ∧ (∀ j, j < 2 → M 5 j = bI false) ∧ MP D cI cZ ν (fun _ _ => false) M V H) (AI q sz)) 12 65064 (AI q sz) := by
  refine met_inI RX2 (by decide) rfl rfl (Nat.le_of_ble_eq_true rfl) ?_
  intro p e s m below meth c ls S hr hlocks hin hl hB
  have hx := S.1
  have hb := S.2.1
  have hml := S.2.2.1
  have hown := S.2.2.2.1
  have hts := S.2.2.2.2
  obtain ⟨hsz, hP, hK⟩ := hB
  subst hsz
  have hl : lv_has ls 7 [(0, .ref q)] := hl
  have hD : va_D (AI q s.heap.size) [(q, .inr (2, [.null, .null, .null, .null, .null, .null, .null, .null, .null, .int 0, .null, .null, .null, .int 0, .int 0]))] := oneA
  have hA : ∀ a : Nat, s.heap.size ≤ a → AI q s.heap.size a := fun a h => Or.inr h
  have hS : va_S (AI q s.heap.size) s.heap s.heap [] := va_S.rf
  refine lv_aload_n hx hb dX2_init_0 rfl (lv_at hl 0 rfl) ?_
  refine W.objInit hx hb hown (hts (.methodLink RX2 1 objectInit) (by decide +kernel)) (hts (.instanceMethod objectInit) (by decide +kernel)) (hts _ (List.mem_of_getElem? (i := 3) rfl)) rfl (by rw [hml]; exact hl.1) rfl dX2_init_1 (Nat.le_of_ble_eq_true rfl) (Nat.le_of_ble_eq_true rfl) ?_
  refine W.eq (g2 := F0 m 4 ls []) rfl ?_
  refine lv_aload_n hx hb dX2_init_4 rfl (lv_at hl 0 rfl) ?_
  refine lv_sipush (v := nI 2401) hx hb dX2_init_5 (by decide) ?_
  refine va_newa (atype := .int) (a0 := (2401, .inl (fun _ => 0))) hx hb (hts (.arrayClass .int) (by decide +kernel)) rfl hK hP hD hS hA (fun _ => rfl) (by decide) (by decide) (Nat.le_of_ble_eq_true rfl) (Nat.le_of_ble_eq_true rfl) (Nat.le_of_ble_eq_true rfl) dX2_init_8 (fun a1 cA H hK2 hP hD hS => ?_)
  rw [cA_int hK2] at hP hD
  have hP : va_P D vwCl [(q, .inr (2, [.null, .null, .null, .null, .null, .null, .null, .null, .null, .int 0, .null, .null, .null, .int 0, .int 0])), (a1, .inl (cI, 2401, .inl (fun _ => 0)))] H := hP
  have hD : va_D (AI q s.heap.size) [(q, .inr (2, [.null, .null, .null, .null, .null, .null, .null, .null, .null, .int 0, .null, .null, .null, .int 0, .int 0])), (a1, .inl (cI, 2401, .inl (fun _ => 0)))] := hD
  refine W.widen (k := 1) (n := 2401) (by omega) (by omega) ?_
  refine va_putF (D := D) (ci := 2) (v := .ref a1) (ty := .array .int) (C := RX2) (T := TX2) (N := 15) hx hb hts (by decide +kernel) tyX2 tyX2_ok nmX2 hown hK hP hD hS 0 rfl rfl 0 (by decide) (hts (.fieldLink RX2 7 "SevenKeysModel" "as" "[I") (by decide +kernel)) (fun _ h9 => h9) rfl hin rfl (by decide +kernel) rfl rfl (Nat.le_of_ble_eq_true rfl) dX2_init_10 (fun H locs hP hD hS => ?_)
  have hP : va_P D vwCl [(q, .inr (2, [.ref a1, .null, .null, .null, .null, .null, .null, .null, .null, .int 0, .null, .null, .null, .int 0, .int 0])), (a1, .inl (cI, 2401, .inl (fun _ => 0)))] H := hP
  have hD : va_D (AI q s.heap.size) [(q, .inr (2, [.ref a1, .null, .null, .null, .null, .null, .null, .null, .null, .int 0, .null, .null, .null, .int 0, .int 0])), (a1, .inl (cI, 2401, .inl (fun _ => 0)))] := hD
  refine lv_aload_n hx hb dX2_init_13 rfl (lv_at hl 0 rfl) ?_
  refine lv_sipush (v := nI 2401) hx hb dX2_init_14 (by decide) ?_
  refine va_newa (atype := .int) (a0 := (2401, .inl (fun _ => 0))) hx hb (hts (.arrayClass .int) (by decide +kernel)) rfl hK hP hD hS hA (fun _ => rfl) (by decide) (by decide) (Nat.le_of_ble_eq_true rfl) (Nat.le_of_ble_eq_true rfl) (Nat.le_of_ble_eq_true rfl) dX2_init_17 (fun a2 cA H hK2 hP hD hS => ?_)
  rw [cA_int hK2] at hP hD
  have hP : va_P D vwCl [(q, .inr (2, [.ref a1, .null, .null, .null, .null, .null, .null, .null, .null, .int 0, .null, .null, .null, .int 0, .int 0])), (a1, .inl (cI, 2401, .inl (fun _ => 0))), (a2, .inl (cI, 2401, .inl (fun _ => 0)))] H := hP
  have hD : va_D (AI q s.heap.size) [(q, .inr (2, [.ref a1, .null, .null, .null, .null, .null, .null, .null, .null, .int 0, .null, .null, .null, .int 0, .int 0])), (a1, .inl (cI, 2401, .inl (fun _ => 0))), (a2, .inl (cI, 2401, .inl (fun _ => 0)))] := hD
  refine W.widen (k := 2) (n := 4802) (by omega) (by omega) ?_
  refine va_putF (D := D) (ci := 2) (v := .ref a2) (ty := .array .int) (C := RX2) (T := TX2) (N := 15) hx hb hts (by decide +kernel) tyX2 tyX2_ok nmX2 hown hK hP hD hS 0 rfl rfl 1 (by decide) (hts (.fieldLink RX2 13 "SevenKeysModel" "bs" "[I") (by decide +kernel)) (fun _ h9 => h9) rfl hin rfl (by decide +kernel) rfl rfl (Nat.le_of_ble_eq_true rfl) dX2_init_19 (fun H locs hP hD hS => ?_)
  have hP : va_P D vwCl [(q, .inr (2, [.ref a1, .ref a2, .null, .null, .null, .null, .null, .null, .null, .int 0, .null, .null, .null, .int 0, .int 0])), (a1, .inl (cI, 2401, .inl (fun _ => 0))), (a2, .inl (cI, 2401, .inl (fun _ => 0)))] H := hP
  have hD : va_D (AI q s.heap.size) [(q, .inr (2, [.ref a1, .ref a2, .null, .null, .null, .null, .null, .null, .null, .int 0, .null, .null, .null, .int 0, .int 0])), (a1, .inl (cI, 2401, .inl (fun _ => 0))), (a2, .inl (cI, 2401, .inl (fun _ => 0)))] := hD
  refine lv_aload_n hx hb dX2_init_22 rfl (lv_at hl 0 rfl) ?_
  refine lv_sipush (v := nI 14641) hx hb dX2_init_23 (by decide) ?_
  refine va_newa (atype := .int) (a0 := (14641, .inl (fun _ => 0))) hx hb (hts (.arrayClass .int) (by decide +kernel)) rfl hK hP hD hS hA (fun _ => rfl) (by decide) (by decide) (Nat.le_of_ble_eq_true rfl) (Nat.le_of_ble_eq_true rfl) (Nat.le_of_ble_eq_true rfl) dX2_init_26 (fun a3 cA H hK2 hP hD hS => ?_)
  rw [cA_int hK2] at hP hD
  have hP : va_P D vwCl [(q, .inr (2, [.ref a1, .ref a2, .null, .null, .null, .null, .null, .null, .null, .int 0, .null, .null, .null, .int 0, .int 0])), (a1, .inl (cI, 2401, .inl (fun _ => 0))), (a2, .inl (cI, 2401, .inl (fun _ => 0))), (a3, .inl (cI, 14641, .inl (fun _ => 0)))] H := hP
  have hD : va_D (AI q s.heap.size) [(q, .inr (2, [.ref a1, .ref a2, .null, .null, .null, .null, .null, .null, .null, .int 0, .null, .null, .null, .int 0, .int 0])), (a1, .inl (cI, 2401, .inl (fun _ => 0))), (a2, .inl (cI, 2401, .inl (fun _ => 0))), (a3, .inl (cI, 14641, .inl (fun _ => 0)))] := hD
  refine W.widen (k := 3) (n := 19443) (by omega) (by omega) ?_
  refine va_putF (D := D) (ci := 2) (v := .ref a3) (ty := .array .int) (C := RX2) (T := TX2) (N := 15) hx hb hts (by decide +kernel) tyX2 tyX2_ok nmX2 hown hK hP hD hS 0 rfl rfl 2 (by decide) (hts (.fieldLink RX2 16 "SevenKeysModel" "keys" "[I") (by decide +kernel)) (fun _ h9 => h9) rfl hin rfl (by decide +kernel) rfl rfl (Nat.le_of_ble_eq_true rfl) dX2_init_28 (fun H locs hP hD hS => ?_)
  have hP : va_P D vwCl [(q, .inr (2, [.ref a1, .ref a2, .ref a3, .null, .null, .null, .null, .null, .null, .int 0, .null, .null, .null, .int 0, .int 0])), (a1, .inl (cI, 2401, .inl (fun _ => 0))), (a2, .inl (cI, 2401, .inl (fun _ => 0))), (a3, .inl (cI, 14641, .inl (fun _ => 0)))] H := hP
  have hD : va_D (AI q s.heap.size) [(q, .inr (2, [.ref a1, .ref a2, .ref a3, .null, .null, .null, .null, .null, .null, .int 0, .null, .null, .null, .int 0, .int 0])), (a1, .inl (cI, 2401, .inl (fun _ => 0))), (a2, .inl (cI, 2401, .inl (fun _ => 0))), (a3, .inl (cI, 14641, .inl (fun _ => 0)))] := hD
  refine lv_aload_n hx hb dX2_init_31 rfl (lv_at hl 0 rfl) ?_
  refine lv_sipush (v := nI 28812) hx hb dX2_init_32 (by decide) ?_
  refine va_newa (atype := .boolean) (a0 := (28812, .inl (fun _ => 0))) hx hb (hts (.arrayClass .boolean) (by decide +kernel)) rfl hK hP hD hS hA (fun _ => rfl) (by decide) (by decide) (Nat.le_of_ble_eq_true rfl) (Nat.le_of_ble_eq_true rfl) (Nat.le_of_ble_eq_true rfl) dX2_init_35 (fun a4 cA H hK2 hP hD hS => ?_)
  rw [cA_bool hK2] at hP hD
  have hP : va_P D vwCl [(q, .inr (2, [.ref a1, .ref a2, .ref a3, .null, .null, .null, .null, .null, .null, .int 0, .null, .null, .null, .int 0, .int 0])), (a1, .inl (cI, 2401, .inl (fun _ => 0))), (a2, .inl (cI, 2401, .inl (fun _ => 0))), (a3, .inl (cI, 14641, .inl (fun _ => 0))), (a4, .inl (cZ, 28812, .inl (fun _ => 0)))] H := hP
  have hD : va_D (AI q s.heap.size) [(q, .inr (2, [.ref a1, .ref a2, .ref a3, .null, .null, .null, .null, .null, .null, .int 0, .null, .null, .null, .int 0, .int 0])), (a1, .inl (cI, 2401, .inl (fun _ => 0))), (a2, .inl (cI, 2401, .inl (fun _ => 0))), (a3, .inl (cI, 14641, .inl (fun _ => 0))), (a4, .inl (cZ, 28812, .inl (fun _ => 0)))] := hD
  refine W.widen (k := 4) (n := 48255) (by omega) (by omega) ?_
  refine va_putF (D := D) (ci := 2) (v := .ref a4) (ty := .array .boolean) (C := RX2) (T := TX2) (N := 15) hx hb hts (by decide +kernel) tyX2 tyX2_ok nmX2 hown hK hP hD hS 0 rfl rfl 3 (by decide) (hts (.fieldLink RX2 19 "SevenKeysModel" "sets" "[Z") (by decide +kernel)) (fun _ h9 => h9) rfl hin rfl (by decide +kernel) rfl rfl (Nat.le_of_ble_eq_true rfl) dX2_init_37 (fun H locs hP hD hS => ?_)
  have hP : va_P D vwCl [(q, .inr (2, [.ref a1, .ref a2, .ref a3, .ref a4, .null, .null, .null, .null, .null, .int 0, .null, .null, .null, .int 0, .int 0])), (a1, .inl (cI, 2401, .inl (fun _ => 0))), (a2, .inl (cI, 2401, .inl (fun _ => 0))), (a3, .inl (cI, 14641, .inl (fun _ => 0))), (a4, .inl (cZ, 28812, .inl (fun _ => 0)))] H := hP
  have hD : va_D (AI q s.heap.size) [(q, .inr (2, [.ref a1, .ref a2, .ref a3, .ref a4, .null, .null, .null, .null, .null, .int 0, .null, .null, .null, .int 0, .int 0])), (a1, .inl (cI, 2401, .inl (fun _ => 0))), (a2, .inl (cI, 2401, .inl (fun _ => 0))), (a3, .inl (cI, 14641, .inl (fun _ => 0))), (a4, .inl (cZ, 28812, .inl (fun _ => 0)))] := hD
  refine lv_aload_n hx hb dX2_init_40 rfl (lv_at hl 0 rfl) ?_
  refine lv_iconst (v := nI 2) hx hb dX2_init_41 (by decide) ?_
  refine va_newa (atype := .boolean) (a0 := (2, .inl (fun _ => 0))) hx hb (hts (.arrayClass .boolean) (by decide +kernel)) rfl hK hP hD hS hA (fun _ => rfl) (by decide) (by decide) (Nat.le_of_ble_eq_true rfl) (Nat.le_of_ble_eq_true rfl) (Nat.le_of_ble_eq_true rfl) dX2_init_42 (fun a5 cA H hK2 hP hD hS => ?_)
  rw [cA_bool hK2] at hP hD
  have hP : va_P D vwCl [(q, .inr (2, [.ref a1, .ref a2, .ref a3, .ref a4, .null, .null, .null, .null, .null, .int 0, .null, .null, .null, .int 0, .int 0])), (a1, .inl (cI, 2401, .inl (fun _ => 0))), (a2, .inl (cI, 2401, .inl (fun _ => 0))), (a3, .inl (cI, 14641, .inl (fun _ => 0))), (a4, .inl (cZ, 28812, .inl (fun _ => 0))), (a5, .inl (cZ, 2, .inl (fun _ => 0)))] H := hP
  have hD : va_D (AI q s.heap.size) [(q, .inr (2, [.ref a1, .ref a2, .ref a3, .ref a4, .null, .null, .null, .null, .null, .int 0, .null, .null, .null, .int 0, .int 0])), (a1, .inl (cI, 2401, .inl (fun _ => 0))), (a2, .inl (cI, 2401, .inl (fun _ => 0))), (a3, .inl (cI, 14641, .inl (fun _ => 0))), (a4, .inl (cZ, 28812, .inl (fun _ => 0))), (a5, .inl (cZ, 2, .inl (fun _ => 0)))] := hD
  refine W.widen (k := 5) (n := 48257) (by omega) (by omega) ?_
  refine va_putF (D := D) (ci := 2) (v := .ref a5) (ty := .array .boolean) (C := RX2) (T := TX2) (N := 15) hx hb hts (by decide +kernel) tyX2 tyX2_ok nmX2 hown hK hP hD hS 0 rfl rfl 4 (by decide) (hts (.fieldLink RX2 23 "SevenKeysModel" "isKept" "[Z") (by decide +kernel)) (fun _ h9 => h9) rfl hin rfl (by decide +kernel) rfl rfl (Nat.le_of_ble_eq_true rfl) dX2_init_44 (fun H locs hP hD hS => ?_)
  have hP : va_P D vwCl [(q, .inr (2, [.ref a1, .ref a2, .ref a3, .ref a4, .ref a5, .null, .null, .null, .null, .int 0, .null, .null, .null, .int 0, .int 0])), (a1, .inl (cI, 2401, .inl (fun _ => 0))), (a2, .inl (cI, 2401, .inl (fun _ => 0))), (a3, .inl (cI, 14641, .inl (fun _ => 0))), (a4, .inl (cZ, 28812, .inl (fun _ => 0))), (a5, .inl (cZ, 2, .inl (fun _ => 0)))] H := hP
  have hD : va_D (AI q s.heap.size) [(q, .inr (2, [.ref a1, .ref a2, .ref a3, .ref a4, .ref a5, .null, .null, .null, .null, .int 0, .null, .null, .null, .int 0, .int 0])), (a1, .inl (cI, 2401, .inl (fun _ => 0))), (a2, .inl (cI, 2401, .inl (fun _ => 0))), (a3, .inl (cI, 14641, .inl (fun _ => 0))), (a4, .inl (cZ, 28812, .inl (fun _ => 0))), (a5, .inl (cZ, 2, .inl (fun _ => 0)))] := hD
  refine lv_aload_n hx hb dX2_init_47 rfl (lv_at hl 0 rfl) ?_
  refine lv_sipush (v := nI 2401) hx hb dX2_init_48 (by decide) ?_
  refine va_newa (atype := .boolean) (a0 := (2401, .inl (fun _ => 0))) hx hb (hts (.arrayClass .boolean) (by decide +kernel)) rfl hK hP hD hS hA (fun _ => rfl) (by decide) (by decide) (Nat.le_of_ble_eq_true rfl) (Nat.le_of_ble_eq_true rfl) (Nat.le_of_ble_eq_true rfl) dX2_init_51 (fun a6 cA H hK2 hP hD hS => ?_)
  rw [cA_bool hK2] at hP hD
  have hP : va_P D vwCl [(q, .inr (2, [.ref a1, .ref a2, .ref a3, .ref a4, .ref a5, .null, .null, .null, .null, .int 0, .null, .null, .null, .int 0, .int 0])), (a1, .inl (cI, 2401, .inl (fun _ => 0))), (a2, .inl (cI, 2401, .inl (fun _ => 0))), (a3, .inl (cI, 14641, .inl (fun _ => 0))), (a4, .inl (cZ, 28812, .inl (fun _ => 0))), (a5, .inl (cZ, 2, .inl (fun _ => 0))), (a6, .inl (cZ, 2401, .inl (fun _ => 0)))] H := hP
  have hD : va_D (AI q s.heap.size) [(q, .inr (2, [.ref a1, .ref a2, .ref a3, .ref a4, .ref a5, .null, .null, .null, .null, .int 0, .null, .null, .null, .int 0, .int 0])), (a1, .inl (cI, 2401, .inl (fun _ => 0))), (a2, .inl (cI, 2401, .inl (fun _ => 0))), (a3, .inl (cI, 14641, .inl (fun _ => 0))), (a4, .inl (cZ, 28812, .inl (fun _ => 0))), (a5, .inl (cZ, 2, .inl (fun _ => 0))), (a6, .inl (cZ, 2401, .inl (fun _ => 0)))] := hD
  refine W.widen (k := 6) (n := 50658) (by omega) (by omega) ?_
  refine va_putF (D := D) (ci := 2) (v := .ref a6) (ty := .array .boolean) (C := RX2) (T := TX2) (N := 15) hx hb hts (by decide +kernel) tyX2 tyX2_ok nmX2 hown hK hP hD hS 0 rfl rfl 5 (by decide) (hts (.fieldLink RX2 26 "SevenKeysModel" "isMet" "[Z") (by decide +kernel)) (fun _ h9 => h9) rfl hin rfl (by decide +kernel) rfl rfl (Nat.le_of_ble_eq_true rfl) dX2_init_53 (fun H locs hP hD hS => ?_)
  have hP : va_P D vwCl [(q, .inr (2, [.ref a1, .ref a2, .ref a3, .ref a4, .ref a5, .ref a6, .null, .null, .null, .int 0, .null, .null, .null, .int 0, .int 0])), (a1, .inl (cI, 2401, .inl (fun _ => 0))), (a2, .inl (cI, 2401, .inl (fun _ => 0))), (a3, .inl (cI, 14641, .inl (fun _ => 0))), (a4, .inl (cZ, 28812, .inl (fun _ => 0))), (a5, .inl (cZ, 2, .inl (fun _ => 0))), (a6, .inl (cZ, 2401, .inl (fun _ => 0)))] H := hP
  have hD : va_D (AI q s.heap.size) [(q, .inr (2, [.ref a1, .ref a2, .ref a3, .ref a4, .ref a5, .ref a6, .null, .null, .null, .int 0, .null, .null, .null, .int 0, .int 0])), (a1, .inl (cI, 2401, .inl (fun _ => 0))), (a2, .inl (cI, 2401, .inl (fun _ => 0))), (a3, .inl (cI, 14641, .inl (fun _ => 0))), (a4, .inl (cZ, 28812, .inl (fun _ => 0))), (a5, .inl (cZ, 2, .inl (fun _ => 0))), (a6, .inl (cZ, 2401, .inl (fun _ => 0)))] := hD
  refine lv_aload_n hx hb dX2_init_56 rfl (lv_at hl 0 rfl) ?_
  refine lv_sipush (v := nI 2401) hx hb dX2_init_57 (by decide) ?_
  refine va_newa (atype := .boolean) (a0 := (2401, .inl (fun _ => 0))) hx hb (hts (.arrayClass .boolean) (by decide +kernel)) rfl hK hP hD hS hA (fun _ => rfl) (by decide) (by decide) (Nat.le_of_ble_eq_true rfl) (Nat.le_of_ble_eq_true rfl) (Nat.le_of_ble_eq_true rfl) dX2_init_60 (fun a7 cA H hK2 hP hD hS => ?_)
  rw [cA_bool hK2] at hP hD
  have hP : va_P D vwCl [(q, .inr (2, [.ref a1, .ref a2, .ref a3, .ref a4, .ref a5, .ref a6, .null, .null, .null, .int 0, .null, .null, .null, .int 0, .int 0])), (a1, .inl (cI, 2401, .inl (fun _ => 0))), (a2, .inl (cI, 2401, .inl (fun _ => 0))), (a3, .inl (cI, 14641, .inl (fun _ => 0))), (a4, .inl (cZ, 28812, .inl (fun _ => 0))), (a5, .inl (cZ, 2, .inl (fun _ => 0))), (a6, .inl (cZ, 2401, .inl (fun _ => 0))), (a7, .inl (cZ, 2401, .inl (fun _ => 0)))] H := hP
  have hD : va_D (AI q s.heap.size) [(q, .inr (2, [.ref a1, .ref a2, .ref a3, .ref a4, .ref a5, .ref a6, .null, .null, .null, .int 0, .null, .null, .null, .int 0, .int 0])), (a1, .inl (cI, 2401, .inl (fun _ => 0))), (a2, .inl (cI, 2401, .inl (fun _ => 0))), (a3, .inl (cI, 14641, .inl (fun _ => 0))), (a4, .inl (cZ, 28812, .inl (fun _ => 0))), (a5, .inl (cZ, 2, .inl (fun _ => 0))), (a6, .inl (cZ, 2401, .inl (fun _ => 0))), (a7, .inl (cZ, 2401, .inl (fun _ => 0)))] := hD
  refine W.widen (k := 7) (n := 53059) (by omega) (by omega) ?_
  refine va_putF (D := D) (ci := 2) (v := .ref a7) (ty := .array .boolean) (C := RX2) (T := TX2) (N := 15) hx hb hts (by decide +kernel) tyX2 tyX2_ok nmX2 hown hK hP hD hS 0 rfl rfl 6 (by decide) (hts (.fieldLink RX2 29 "SevenKeysModel" "made" "[Z") (by decide +kernel)) (fun _ h9 => h9) rfl hin rfl (by decide +kernel) rfl rfl (Nat.le_of_ble_eq_true rfl) dX2_init_62 (fun H locs hP hD hS => ?_)
  have hP : va_P D vwCl [(q, .inr (2, [.ref a1, .ref a2, .ref a3, .ref a4, .ref a5, .ref a6, .ref a7, .null, .null, .int 0, .null, .null, .null, .int 0, .int 0])), (a1, .inl (cI, 2401, .inl (fun _ => 0))), (a2, .inl (cI, 2401, .inl (fun _ => 0))), (a3, .inl (cI, 14641, .inl (fun _ => 0))), (a4, .inl (cZ, 28812, .inl (fun _ => 0))), (a5, .inl (cZ, 2, .inl (fun _ => 0))), (a6, .inl (cZ, 2401, .inl (fun _ => 0))), (a7, .inl (cZ, 2401, .inl (fun _ => 0)))] H := hP
  have hD : va_D (AI q s.heap.size) [(q, .inr (2, [.ref a1, .ref a2, .ref a3, .ref a4, .ref a5, .ref a6, .ref a7, .null, .null, .int 0, .null, .null, .null, .int 0, .int 0])), (a1, .inl (cI, 2401, .inl (fun _ => 0))), (a2, .inl (cI, 2401, .inl (fun _ => 0))), (a3, .inl (cI, 14641, .inl (fun _ => 0))), (a4, .inl (cZ, 28812, .inl (fun _ => 0))), (a5, .inl (cZ, 2, .inl (fun _ => 0))), (a6, .inl (cZ, 2401, .inl (fun _ => 0))), (a7, .inl (cZ, 2401, .inl (fun _ => 0)))] := hD
  refine lv_aload_n hx hb dX2_init_65 rfl (lv_at hl 0 rfl) ?_
  refine lv_sipush (v := nI 2401) hx hb dX2_init_66 (by decide) ?_
  refine va_newa (atype := .int) (a0 := (2401, .inl (fun _ => 0))) hx hb (hts (.arrayClass .int) (by decide +kernel)) rfl hK hP hD hS hA (fun _ => rfl) (by decide) (by decide) (Nat.le_of_ble_eq_true rfl) (Nat.le_of_ble_eq_true rfl) (Nat.le_of_ble_eq_true rfl) dX2_init_69 (fun a8 cA H hK2 hP hD hS => ?_)
  rw [cA_int hK2] at hP hD
  have hP : va_P D vwCl [(q, .inr (2, [.ref a1, .ref a2, .ref a3, .ref a4, .ref a5, .ref a6, .ref a7, .null, .null, .int 0, .null, .null, .null, .int 0, .int 0])), (a1, .inl (cI, 2401, .inl (fun _ => 0))), (a2, .inl (cI, 2401, .inl (fun _ => 0))), (a3, .inl (cI, 14641, .inl (fun _ => 0))), (a4, .inl (cZ, 28812, .inl (fun _ => 0))), (a5, .inl (cZ, 2, .inl (fun _ => 0))), (a6, .inl (cZ, 2401, .inl (fun _ => 0))), (a7, .inl (cZ, 2401, .inl (fun _ => 0))), (a8, .inl (cI, 2401, .inl (fun _ => 0)))] H := hP
  have hD : va_D (AI q s.heap.size) [(q, .inr (2, [.ref a1, .ref a2, .ref a3, .ref a4, .ref a5, .ref a6, .ref a7, .null, .null, .int 0, .null, .null, .null, .int 0, .int 0])), (a1, .inl (cI, 2401, .inl (fun _ => 0))), (a2, .inl (cI, 2401, .inl (fun _ => 0))), (a3, .inl (cI, 14641, .inl (fun _ => 0))), (a4, .inl (cZ, 28812, .inl (fun _ => 0))), (a5, .inl (cZ, 2, .inl (fun _ => 0))), (a6, .inl (cZ, 2401, .inl (fun _ => 0))), (a7, .inl (cZ, 2401, .inl (fun _ => 0))), (a8, .inl (cI, 2401, .inl (fun _ => 0)))] := hD
  refine W.widen (k := 8) (n := 55460) (by omega) (by omega) ?_
  refine va_putF (D := D) (ci := 2) (v := .ref a8) (ty := .array .int) (C := RX2) (T := TX2) (N := 15) hx hb hts (by decide +kernel) tyX2 tyX2_ok nmX2 hown hK hP hD hS 0 rfl rfl 7 (by decide) (hts (.fieldLink RX2 32 "SevenKeysModel" "patches" "[I") (by decide +kernel)) (fun _ h9 => h9) rfl hin rfl (by decide +kernel) rfl rfl (Nat.le_of_ble_eq_true rfl) dX2_init_71 (fun H locs hP hD hS => ?_)
  have hP : va_P D vwCl [(q, .inr (2, [.ref a1, .ref a2, .ref a3, .ref a4, .ref a5, .ref a6, .ref a7, .ref a8, .null, .int 0, .null, .null, .null, .int 0, .int 0])), (a1, .inl (cI, 2401, .inl (fun _ => 0))), (a2, .inl (cI, 2401, .inl (fun _ => 0))), (a3, .inl (cI, 14641, .inl (fun _ => 0))), (a4, .inl (cZ, 28812, .inl (fun _ => 0))), (a5, .inl (cZ, 2, .inl (fun _ => 0))), (a6, .inl (cZ, 2401, .inl (fun _ => 0))), (a7, .inl (cZ, 2401, .inl (fun _ => 0))), (a8, .inl (cI, 2401, .inl (fun _ => 0)))] H := hP
  have hD : va_D (AI q s.heap.size) [(q, .inr (2, [.ref a1, .ref a2, .ref a3, .ref a4, .ref a5, .ref a6, .ref a7, .ref a8, .null, .int 0, .null, .null, .null, .int 0, .int 0])), (a1, .inl (cI, 2401, .inl (fun _ => 0))), (a2, .inl (cI, 2401, .inl (fun _ => 0))), (a3, .inl (cI, 14641, .inl (fun _ => 0))), (a4, .inl (cZ, 28812, .inl (fun _ => 0))), (a5, .inl (cZ, 2, .inl (fun _ => 0))), (a6, .inl (cZ, 2401, .inl (fun _ => 0))), (a7, .inl (cZ, 2401, .inl (fun _ => 0))), (a8, .inl (cI, 2401, .inl (fun _ => 0)))] := hD
  refine lv_aload_n hx hb dX2_init_74 rfl (lv_at hl 0 rfl) ?_
  refine lv_sipush (v := nI 2401) hx hb dX2_init_75 (by decide) ?_
  refine va_newa (atype := .int) (a0 := (2401, .inl (fun _ => 0))) hx hb (hts (.arrayClass .int) (by decide +kernel)) rfl hK hP hD hS hA (fun _ => rfl) (by decide) (by decide) (Nat.le_of_ble_eq_true rfl) (Nat.le_of_ble_eq_true rfl) (Nat.le_of_ble_eq_true rfl) dX2_init_78 (fun a9 cA H hK2 hP hD hS => ?_)
  rw [cA_int hK2] at hP hD
  have hP : va_P D vwCl [(q, .inr (2, [.ref a1, .ref a2, .ref a3, .ref a4, .ref a5, .ref a6, .ref a7, .ref a8, .null, .int 0, .null, .null, .null, .int 0, .int 0])), (a1, .inl (cI, 2401, .inl (fun _ => 0))), (a2, .inl (cI, 2401, .inl (fun _ => 0))), (a3, .inl (cI, 14641, .inl (fun _ => 0))), (a4, .inl (cZ, 28812, .inl (fun _ => 0))), (a5, .inl (cZ, 2, .inl (fun _ => 0))), (a6, .inl (cZ, 2401, .inl (fun _ => 0))), (a7, .inl (cZ, 2401, .inl (fun _ => 0))), (a8, .inl (cI, 2401, .inl (fun _ => 0))), (a9, .inl (cI, 2401, .inl (fun _ => 0)))] H := hP
  have hD : va_D (AI q s.heap.size) [(q, .inr (2, [.ref a1, .ref a2, .ref a3, .ref a4, .ref a5, .ref a6, .ref a7, .ref a8, .null, .int 0, .null, .null, .null, .int 0, .int 0])), (a1, .inl (cI, 2401, .inl (fun _ => 0))), (a2, .inl (cI, 2401, .inl (fun _ => 0))), (a3, .inl (cI, 14641, .inl (fun _ => 0))), (a4, .inl (cZ, 28812, .inl (fun _ => 0))), (a5, .inl (cZ, 2, .inl (fun _ => 0))), (a6, .inl (cZ, 2401, .inl (fun _ => 0))), (a7, .inl (cZ, 2401, .inl (fun _ => 0))), (a8, .inl (cI, 2401, .inl (fun _ => 0))), (a9, .inl (cI, 2401, .inl (fun _ => 0)))] := hD
  refine W.widen (k := 9) (n := 57861) (by omega) (by omega) ?_
  refine va_putF (D := D) (ci := 2) (v := .ref a9) (ty := .array .int) (C := RX2) (T := TX2) (N := 15) hx hb hts (by decide +kernel) tyX2 tyX2_ok nmX2 hown hK hP hD hS 0 rfl rfl 8 (by decide) (hts (.fieldLink RX2 35 "SevenKeysModel" "levels" "[I") (by decide +kernel)) (fun _ h9 => h9) rfl hin rfl (by decide +kernel) rfl rfl (Nat.le_of_ble_eq_true rfl) dX2_init_80 (fun H locs hP hD hS => ?_)
  have hP : va_P D vwCl [(q, .inr (2, [.ref a1, .ref a2, .ref a3, .ref a4, .ref a5, .ref a6, .ref a7, .ref a8, .ref a9, .int 0, .null, .null, .null, .int 0, .int 0])), (a1, .inl (cI, 2401, .inl (fun _ => 0))), (a2, .inl (cI, 2401, .inl (fun _ => 0))), (a3, .inl (cI, 14641, .inl (fun _ => 0))), (a4, .inl (cZ, 28812, .inl (fun _ => 0))), (a5, .inl (cZ, 2, .inl (fun _ => 0))), (a6, .inl (cZ, 2401, .inl (fun _ => 0))), (a7, .inl (cZ, 2401, .inl (fun _ => 0))), (a8, .inl (cI, 2401, .inl (fun _ => 0))), (a9, .inl (cI, 2401, .inl (fun _ => 0)))] H := hP
  have hD : va_D (AI q s.heap.size) [(q, .inr (2, [.ref a1, .ref a2, .ref a3, .ref a4, .ref a5, .ref a6, .ref a7, .ref a8, .ref a9, .int 0, .null, .null, .null, .int 0, .int 0])), (a1, .inl (cI, 2401, .inl (fun _ => 0))), (a2, .inl (cI, 2401, .inl (fun _ => 0))), (a3, .inl (cI, 14641, .inl (fun _ => 0))), (a4, .inl (cZ, 28812, .inl (fun _ => 0))), (a5, .inl (cZ, 2, .inl (fun _ => 0))), (a6, .inl (cZ, 2401, .inl (fun _ => 0))), (a7, .inl (cZ, 2401, .inl (fun _ => 0))), (a8, .inl (cI, 2401, .inl (fun _ => 0))), (a9, .inl (cI, 2401, .inl (fun _ => 0)))] := hD
  refine lv_aload_n hx hb dX2_init_83 rfl (lv_at hl 0 rfl) ?_
  refine lv_sipush (v := nI 2401) hx hb dX2_init_84 (by decide) ?_
  refine va_newa (atype := .int) (a0 := (2401, .inl (fun _ => 0))) hx hb (hts (.arrayClass .int) (by decide +kernel)) rfl hK hP hD hS hA (fun _ => rfl) (by decide) (by decide) (Nat.le_of_ble_eq_true rfl) (Nat.le_of_ble_eq_true rfl) (Nat.le_of_ble_eq_true rfl) dX2_init_87 (fun a10 cA H hK2 hP hD hS => ?_)
  rw [cA_int hK2] at hP hD
  have hP : va_P D vwCl [(q, .inr (2, [.ref a1, .ref a2, .ref a3, .ref a4, .ref a5, .ref a6, .ref a7, .ref a8, .ref a9, .int 0, .null, .null, .null, .int 0, .int 0])), (a1, .inl (cI, 2401, .inl (fun _ => 0))), (a2, .inl (cI, 2401, .inl (fun _ => 0))), (a3, .inl (cI, 14641, .inl (fun _ => 0))), (a4, .inl (cZ, 28812, .inl (fun _ => 0))), (a5, .inl (cZ, 2, .inl (fun _ => 0))), (a6, .inl (cZ, 2401, .inl (fun _ => 0))), (a7, .inl (cZ, 2401, .inl (fun _ => 0))), (a8, .inl (cI, 2401, .inl (fun _ => 0))), (a9, .inl (cI, 2401, .inl (fun _ => 0))), (a10, .inl (cI, 2401, .inl (fun _ => 0)))] H := hP
  have hD : va_D (AI q s.heap.size) [(q, .inr (2, [.ref a1, .ref a2, .ref a3, .ref a4, .ref a5, .ref a6, .ref a7, .ref a8, .ref a9, .int 0, .null, .null, .null, .int 0, .int 0])), (a1, .inl (cI, 2401, .inl (fun _ => 0))), (a2, .inl (cI, 2401, .inl (fun _ => 0))), (a3, .inl (cI, 14641, .inl (fun _ => 0))), (a4, .inl (cZ, 28812, .inl (fun _ => 0))), (a5, .inl (cZ, 2, .inl (fun _ => 0))), (a6, .inl (cZ, 2401, .inl (fun _ => 0))), (a7, .inl (cZ, 2401, .inl (fun _ => 0))), (a8, .inl (cI, 2401, .inl (fun _ => 0))), (a9, .inl (cI, 2401, .inl (fun _ => 0))), (a10, .inl (cI, 2401, .inl (fun _ => 0)))] := hD
  refine W.widen (k := 10) (n := 60262) (by omega) (by omega) ?_
  refine va_putF (D := D) (ci := 2) (v := .ref a10) (ty := .array .int) (C := RX2) (T := TX2) (N := 15) hx hb hts (by decide +kernel) tyX2 tyX2_ok nmX2 hown hK hP hD hS 0 rfl rfl 10 (by decide) (hts (.fieldLink RX2 38 "SevenKeysModel" "pieces" "[I") (by decide +kernel)) (fun _ h9 => h9) rfl hin rfl (by decide +kernel) rfl rfl (Nat.le_of_ble_eq_true rfl) dX2_init_89 (fun H locs hP hD hS => ?_)
  have hP : va_P D vwCl [(q, .inr (2, [.ref a1, .ref a2, .ref a3, .ref a4, .ref a5, .ref a6, .ref a7, .ref a8, .ref a9, .int 0, .ref a10, .null, .null, .int 0, .int 0])), (a1, .inl (cI, 2401, .inl (fun _ => 0))), (a2, .inl (cI, 2401, .inl (fun _ => 0))), (a3, .inl (cI, 14641, .inl (fun _ => 0))), (a4, .inl (cZ, 28812, .inl (fun _ => 0))), (a5, .inl (cZ, 2, .inl (fun _ => 0))), (a6, .inl (cZ, 2401, .inl (fun _ => 0))), (a7, .inl (cZ, 2401, .inl (fun _ => 0))), (a8, .inl (cI, 2401, .inl (fun _ => 0))), (a9, .inl (cI, 2401, .inl (fun _ => 0))), (a10, .inl (cI, 2401, .inl (fun _ => 0)))] H := hP
  have hD : va_D (AI q s.heap.size) [(q, .inr (2, [.ref a1, .ref a2, .ref a3, .ref a4, .ref a5, .ref a6, .ref a7, .ref a8, .ref a9, .int 0, .ref a10, .null, .null, .int 0, .int 0])), (a1, .inl (cI, 2401, .inl (fun _ => 0))), (a2, .inl (cI, 2401, .inl (fun _ => 0))), (a3, .inl (cI, 14641, .inl (fun _ => 0))), (a4, .inl (cZ, 28812, .inl (fun _ => 0))), (a5, .inl (cZ, 2, .inl (fun _ => 0))), (a6, .inl (cZ, 2401, .inl (fun _ => 0))), (a7, .inl (cZ, 2401, .inl (fun _ => 0))), (a8, .inl (cI, 2401, .inl (fun _ => 0))), (a9, .inl (cI, 2401, .inl (fun _ => 0))), (a10, .inl (cI, 2401, .inl (fun _ => 0)))] := hD
  refine lv_aload_n hx hb dX2_init_92 rfl (lv_at hl 0 rfl) ?_
  refine lv_sipush (v := nI 2401) hx hb dX2_init_93 (by decide) ?_
  refine va_newa (atype := .int) (a0 := (2401, .inl (fun _ => 0))) hx hb (hts (.arrayClass .int) (by decide +kernel)) rfl hK hP hD hS hA (fun _ => rfl) (by decide) (by decide) (Nat.le_of_ble_eq_true rfl) (Nat.le_of_ble_eq_true rfl) (Nat.le_of_ble_eq_true rfl) dX2_init_96 (fun a11 cA H hK2 hP hD hS => ?_)
  rw [cA_int hK2] at hP hD
  have hP : va_P D vwCl [(q, .inr (2, [.ref a1, .ref a2, .ref a3, .ref a4, .ref a5, .ref a6, .ref a7, .ref a8, .ref a9, .int 0, .ref a10, .null, .null, .int 0, .int 0])), (a1, .inl (cI, 2401, .inl (fun _ => 0))), (a2, .inl (cI, 2401, .inl (fun _ => 0))), (a3, .inl (cI, 14641, .inl (fun _ => 0))), (a4, .inl (cZ, 28812, .inl (fun _ => 0))), (a5, .inl (cZ, 2, .inl (fun _ => 0))), (a6, .inl (cZ, 2401, .inl (fun _ => 0))), (a7, .inl (cZ, 2401, .inl (fun _ => 0))), (a8, .inl (cI, 2401, .inl (fun _ => 0))), (a9, .inl (cI, 2401, .inl (fun _ => 0))), (a10, .inl (cI, 2401, .inl (fun _ => 0))), (a11, .inl (cI, 2401, .inl (fun _ => 0)))] H := hP
  have hD : va_D (AI q s.heap.size) [(q, .inr (2, [.ref a1, .ref a2, .ref a3, .ref a4, .ref a5, .ref a6, .ref a7, .ref a8, .ref a9, .int 0, .ref a10, .null, .null, .int 0, .int 0])), (a1, .inl (cI, 2401, .inl (fun _ => 0))), (a2, .inl (cI, 2401, .inl (fun _ => 0))), (a3, .inl (cI, 14641, .inl (fun _ => 0))), (a4, .inl (cZ, 28812, .inl (fun _ => 0))), (a5, .inl (cZ, 2, .inl (fun _ => 0))), (a6, .inl (cZ, 2401, .inl (fun _ => 0))), (a7, .inl (cZ, 2401, .inl (fun _ => 0))), (a8, .inl (cI, 2401, .inl (fun _ => 0))), (a9, .inl (cI, 2401, .inl (fun _ => 0))), (a10, .inl (cI, 2401, .inl (fun _ => 0))), (a11, .inl (cI, 2401, .inl (fun _ => 0)))] := hD
  refine W.widen (k := 11) (n := 62663) (by omega) (by omega) ?_
  refine va_putF (D := D) (ci := 2) (v := .ref a11) (ty := .array .int) (C := RX2) (T := TX2) (N := 15) hx hb hts (by decide +kernel) tyX2 tyX2_ok nmX2 hown hK hP hD hS 0 rfl rfl 11 (by decide) (hts (.fieldLink RX2 41 "SevenKeysModel" "steps" "[I") (by decide +kernel)) (fun _ h9 => h9) rfl hin rfl (by decide +kernel) rfl rfl (Nat.le_of_ble_eq_true rfl) dX2_init_98 (fun H locs hP hD hS => ?_)
  have hP : va_P D vwCl [(q, .inr (2, [.ref a1, .ref a2, .ref a3, .ref a4, .ref a5, .ref a6, .ref a7, .ref a8, .ref a9, .int 0, .ref a10, .ref a11, .null, .int 0, .int 0])), (a1, .inl (cI, 2401, .inl (fun _ => 0))), (a2, .inl (cI, 2401, .inl (fun _ => 0))), (a3, .inl (cI, 14641, .inl (fun _ => 0))), (a4, .inl (cZ, 28812, .inl (fun _ => 0))), (a5, .inl (cZ, 2, .inl (fun _ => 0))), (a6, .inl (cZ, 2401, .inl (fun _ => 0))), (a7, .inl (cZ, 2401, .inl (fun _ => 0))), (a8, .inl (cI, 2401, .inl (fun _ => 0))), (a9, .inl (cI, 2401, .inl (fun _ => 0))), (a10, .inl (cI, 2401, .inl (fun _ => 0))), (a11, .inl (cI, 2401, .inl (fun _ => 0)))] H := hP
  have hD : va_D (AI q s.heap.size) [(q, .inr (2, [.ref a1, .ref a2, .ref a3, .ref a4, .ref a5, .ref a6, .ref a7, .ref a8, .ref a9, .int 0, .ref a10, .ref a11, .null, .int 0, .int 0])), (a1, .inl (cI, 2401, .inl (fun _ => 0))), (a2, .inl (cI, 2401, .inl (fun _ => 0))), (a3, .inl (cI, 14641, .inl (fun _ => 0))), (a4, .inl (cZ, 28812, .inl (fun _ => 0))), (a5, .inl (cZ, 2, .inl (fun _ => 0))), (a6, .inl (cZ, 2401, .inl (fun _ => 0))), (a7, .inl (cZ, 2401, .inl (fun _ => 0))), (a8, .inl (cI, 2401, .inl (fun _ => 0))), (a9, .inl (cI, 2401, .inl (fun _ => 0))), (a10, .inl (cI, 2401, .inl (fun _ => 0))), (a11, .inl (cI, 2401, .inl (fun _ => 0)))] := hD
  refine lv_aload_n hx hb dX2_init_101 rfl (lv_at hl 0 rfl) ?_
  refine lv_sipush (v := nI 2401) hx hb dX2_init_102 (by decide) ?_
  refine va_newa (atype := .int) (a0 := (2401, .inl (fun _ => 0))) hx hb (hts (.arrayClass .int) (by decide +kernel)) rfl hK hP hD hS hA (fun _ => rfl) (by decide) (by decide) (Nat.le_of_ble_eq_true rfl) (Nat.le_of_ble_eq_true rfl) (Nat.le_of_ble_eq_true rfl) dX2_init_105 (fun a12 cA H hK2 hP hD hS => ?_)
  rw [cA_int hK2] at hP hD
  have hP : va_P D vwCl [(q, .inr (2, [.ref a1, .ref a2, .ref a3, .ref a4, .ref a5, .ref a6, .ref a7, .ref a8, .ref a9, .int 0, .ref a10, .ref a11, .null, .int 0, .int 0])), (a1, .inl (cI, 2401, .inl (fun _ => 0))), (a2, .inl (cI, 2401, .inl (fun _ => 0))), (a3, .inl (cI, 14641, .inl (fun _ => 0))), (a4, .inl (cZ, 28812, .inl (fun _ => 0))), (a5, .inl (cZ, 2, .inl (fun _ => 0))), (a6, .inl (cZ, 2401, .inl (fun _ => 0))), (a7, .inl (cZ, 2401, .inl (fun _ => 0))), (a8, .inl (cI, 2401, .inl (fun _ => 0))), (a9, .inl (cI, 2401, .inl (fun _ => 0))), (a10, .inl (cI, 2401, .inl (fun _ => 0))), (a11, .inl (cI, 2401, .inl (fun _ => 0))), (a12, .inl (cI, 2401, .inl (fun _ => 0)))] H := hP
  have hD : va_D (AI q s.heap.size) [(q, .inr (2, [.ref a1, .ref a2, .ref a3, .ref a4, .ref a5, .ref a6, .ref a7, .ref a8, .ref a9, .int 0, .ref a10, .ref a11, .null, .int 0, .int 0])), (a1, .inl (cI, 2401, .inl (fun _ => 0))), (a2, .inl (cI, 2401, .inl (fun _ => 0))), (a3, .inl (cI, 14641, .inl (fun _ => 0))), (a4, .inl (cZ, 28812, .inl (fun _ => 0))), (a5, .inl (cZ, 2, .inl (fun _ => 0))), (a6, .inl (cZ, 2401, .inl (fun _ => 0))), (a7, .inl (cZ, 2401, .inl (fun _ => 0))), (a8, .inl (cI, 2401, .inl (fun _ => 0))), (a9, .inl (cI, 2401, .inl (fun _ => 0))), (a10, .inl (cI, 2401, .inl (fun _ => 0))), (a11, .inl (cI, 2401, .inl (fun _ => 0))), (a12, .inl (cI, 2401, .inl (fun _ => 0)))] := hD
  refine W.widen (k := 12) (n := 65064) (by omega) (by omega) ?_
  refine va_putF (D := D) (ci := 2) (v := .ref a12) (ty := .array .int) (C := RX2) (T := TX2) (N := 15) hx hb hts (by decide +kernel) tyX2 tyX2_ok nmX2 hown hK hP hD hS 0 rfl rfl 12 (by decide) (hts (.fieldLink RX2 44 "SevenKeysModel" "still" "[I") (by decide +kernel)) (fun _ h9 => h9) rfl hin rfl (by decide +kernel) rfl rfl (Nat.le_of_ble_eq_true rfl) dX2_init_107 (fun H locs hP hD hS => ?_)
  have hP : va_P D vwCl [(q, .inr (2, [.ref a1, .ref a2, .ref a3, .ref a4, .ref a5, .ref a6, .ref a7, .ref a8, .ref a9, .int 0, .ref a10, .ref a11, .ref a12, .int 0, .int 0])), (a1, .inl (cI, 2401, .inl (fun _ => 0))), (a2, .inl (cI, 2401, .inl (fun _ => 0))), (a3, .inl (cI, 14641, .inl (fun _ => 0))), (a4, .inl (cZ, 28812, .inl (fun _ => 0))), (a5, .inl (cZ, 2, .inl (fun _ => 0))), (a6, .inl (cZ, 2401, .inl (fun _ => 0))), (a7, .inl (cZ, 2401, .inl (fun _ => 0))), (a8, .inl (cI, 2401, .inl (fun _ => 0))), (a9, .inl (cI, 2401, .inl (fun _ => 0))), (a10, .inl (cI, 2401, .inl (fun _ => 0))), (a11, .inl (cI, 2401, .inl (fun _ => 0))), (a12, .inl (cI, 2401, .inl (fun _ => 0)))] H := hP
  have hD : va_D (AI q s.heap.size) [(q, .inr (2, [.ref a1, .ref a2, .ref a3, .ref a4, .ref a5, .ref a6, .ref a7, .ref a8, .ref a9, .int 0, .ref a10, .ref a11, .ref a12, .int 0, .int 0])), (a1, .inl (cI, 2401, .inl (fun _ => 0))), (a2, .inl (cI, 2401, .inl (fun _ => 0))), (a3, .inl (cI, 14641, .inl (fun _ => 0))), (a4, .inl (cZ, 28812, .inl (fun _ => 0))), (a5, .inl (cZ, 2, .inl (fun _ => 0))), (a6, .inl (cZ, 2401, .inl (fun _ => 0))), (a7, .inl (cZ, 2401, .inl (fun _ => 0))), (a8, .inl (cI, 2401, .inl (fun _ => 0))), (a9, .inl (cI, 2401, .inl (fun _ => 0))), (a10, .inl (cI, 2401, .inl (fun _ => 0))), (a11, .inl (cI, 2401, .inl (fun _ => 0))), (a12, .inl (cI, 2401, .inl (fun _ => 0)))] := hD
  have hPm : va_P D vwCl (mW cI cZ (mkA [q, a1, a2, a3, a4, a5, a6, a7, a8, a9, a10, a11, a12]) (fun _ _ => 0) (fun _ => 0)) H := hP
  have hDd : va_D (AI q s.heap.size) (mW cI cZ (mkA [q, a1, a2, a3, a4, a5, a6, a7, a8, a9, a10, a11, a12]) (fun _ _ => 0) (fun _ => 0)) := hD
  have hq0 : (mkA [q, a1, a2, a3, a4, a5, a6, a7, a8, a9, a10, a11, a12]) 0 = q := rfl
  clear hP hD
  generalize mkA [q, a1, a2, a3, a4, a5, a6, a7, a8, a9, a10, a11, a12] = μ at hPm hDd hq0
  subst hq0
  have hP := hPm
  obtain ⟨hIn, hAm⟩ := In_of hDd MW_has
  have hDm : ∀ (M : Nat → Nat → Int32) (V : Nat → Int32), va_D (AI (μ 0) s.heap.size) (mW cI cZ μ M V) := fun M V => (hIn.D MW_at).weaken (fun k a h z => by obtain ⟨i, hi, e⟩ := z; rw [e]; exact hAm i hi)
  refine lv_iconst (v := nI 0) hx hb dX2_init_110 (by decide) ?_
  refine lv_istore_n (lv' := [(1, .int (nI 0)), (0, .ref (μ 0))]) hx hb dX2_init_111 rfl hl (by decide) rfl (fun ls hl => ?_)
  have loop_112 : ∀ (n : Nat) (i : Nat) (M1 : Nat → Nat → Int32), (i ≤ 2401) → (∀ k, k < i → M1 1 k = iI (ptA k) ∧ M1 2 k = iI (ptB k)) → (M1 3 = keyGn i) → (M1 4 = fun _ => 0) → (M1 5 = fun _ => 0) → 2401 - i < n → ∀ (x1 : Int32), x1 = nI i → ∀ (H : Heap) (locs : List Loc), va_S (AI (μ 0) s.heap.size) s.heap H locs → va_P D vwCl (mW cI cZ μ M1 (fun _ => 0)) H → ∀ ls : Array Slot, lv_has ls 7 [(0, .ref (μ 0)), (1, .int x1)] → W p l e (headSpec wsX2_init ({ frames := 1, cells := 12, slots := 65064, locals := 20 })).room s m [.ref (μ 0)].toArray below meth c H locs 12 65064 (MQ below (qW none (fun H => ∃ (ν : Nat → Nat) (M : Nat → Nat → Int32) (V : Nat → Int32), ν 0 = μ 0 ∧ In7 13 ν ∧ (∀ i, i < 13 → AI (μ 0) s.heap.size (ν i)) ∧ (∀ j, j < 2 → M 5 j = bI false) ∧ MP D cI cZ ν (fun _ _ => false) M V H) (AI (μ 0) s.heap.size)) [.ref (μ 0)].toArray s 12 65064 (AI (μ 0) s.heap.size)) (F0 m 112 ls []) := by
    intro n
    induction n with
    | zero => intro i M1 hi h12 h3 h4 h5 hm; exact absurd hm (Nat.not_lt_zero _)
    | succ n ih_112 =>
      intro i M1 hi h12 h3 h4 h5 hm_112 x1 e1 H locs hS hPP ls hl
      subst e1
      have hP := hPP
      refine lv_iload_n hx hb dX2_init_112 rfl (lv_at hl 1 rfl) ?_
      refine lv_sipush (v := nI 2401) hx hb dX2_init_113 (by decide) ?_
      refine nv_icmp_ge (tgt := 220) hx hb dX2_init_116 (by decide) (by omega) (by omega) (fun c_116 => ?_) (fun c_116 => ?_)
      ·
        have hi2 : i = 2401 := by omega
        subst hi2
        exact ret_nv hx hb hr hlocks dX2_init_220 hS ⟨μ, M1, _, rfl, hIn, hAm, fun j _ => by rw [h5]; rfl, by rw [h4]; exact RelM_0, h12, h3, hP⟩
      ·
        refine lv_iconst (v := nI 0) hx hb dX2_init_119 (by decide) ?_
        refine lv_istore_n (lv' := [(2, .int (nI 0)), (0, .ref (μ 0)), (1, .int (nI i))]) hx hb dX2_init_120 rfl hl (by decide) rfl (fun ls hl => ?_)
        refine lv_iconst (v := nI 0) hx hb dX2_init_121 (by decide) ?_
        refine lv_istore_n (lv' := [(3, .int (nI 0)), (2, .int (nI 0)), (0, .ref (μ 0)), (1, .int (nI i))]) hx hb dX2_init_122 rfl hl (by decide) rfl (fun ls hl => ?_)
        refine lv_sipush (v := nI 343) hx hb dX2_init_123 (by decide) ?_
        refine lv_istore (lv' := [(4, .int (nI 343)), (3, .int (nI 0)), (2, .int (nI 0)), (0, .ref (μ 0)), (1, .int (nI i))]) hx hb dX2_init_126 hl (by decide) rfl (fun ls hl => ?_)
        have loop_128 : ∀ (n : Nat) (t : Nat), (t ≤ 4) → 4 - t < n → ∀ (x2 x3 x4 : Int32), x2 = iI (pts i t).1 → x3 = iI (pts i t).2 → x4 = nI (343 / 7 ^ t) → ∀ (H : Heap) (locs : List Loc), va_S (AI (μ 0) s.heap.size) s.heap H locs → va_P D vwCl (mW cI cZ μ M1 (fun _ => 0)) H → ∀ ls : Array Slot, lv_has ls 7 [(0, .ref (μ 0)), (1, .int (nI i)), (2, .int x2), (3, .int x3), (4, .int x4)] → W p l e (headSpec wsX2_init ({ frames := 1, cells := 12, slots := 65064, locals := 20 })).room s m [.ref (μ 0)].toArray below meth c H locs 12 65064 (MQ below (qW none (fun H => ∃ (ν : Nat → Nat) (M : Nat → Nat → Int32) (V : Nat → Int32), ν 0 = μ 0 ∧ In7 13 ν ∧ (∀ i, i < 13 → AI (μ 0) s.heap.size (ν i)) ∧ (∀ j, j < 2 → M 5 j = bI false) ∧ MP D cI cZ ν (fun _ _ => false) M V H) (AI (μ 0) s.heap.size)) [.ref (μ 0)].toArray s 12 65064 (AI (μ 0) s.heap.size)) (F0 m 128 ls []) := by
          intro n
          induction n with
          | zero => intro t ht hm; exact absurd hm (Nat.not_lt_zero _)
          | succ n ih_128 =>
            intro t ht hm_128 x2 x3 x4 e2 e3 e4 H locs hS hPP ls hl
            subst e2
            subst e3
            subst e4
            have hP := hPP
            refine lv_iload hx hb dX2_init_128 (lv_at hl 4 rfl) ?_
            refine lv_if_le (tgt := 180) hx hb dX2_init_130 (by decide) (fun c_130 => ?_) (fun c_130 => ?_)
            ·
              have ht4 := pl_le c_130 ht
              subst ht4
              refine lv_aload_n hx hb dX2_init_180 rfl (lv_at hl 0 rfl) ?_
              refine va_get (D := D) (ci := 2) (v := .ref (μ 1)) (C := RX2) (T := TX2) (N := 15) hx hb hts (by decide +kernel) hown hK hP 0 rfl rfl 0 (by decide) (hts (.fieldLink RX2 7 "SevenKeysModel" "as" "[I") (by decide +kernel)) (fun _ h9 => h9) rfl dX2_init_181 ?_
              refine lv_iload_n hx hb dX2_init_184 rfl (lv_at hl 1 rfl) ?_
              refine lv_iload_n hx hb dX2_init_185 rfl (lv_at hl 2 rfl) ?_
              refine nv_iast hx hb hK hP (hDm _ _) hS 1 0 rfl rfl (by omega) (by decide) dX2_init_186 (fun H locs hP hS => ?_)
              have hP : va_P D vwCl (mW cI cZ μ (va_up M1 1 (upd (M1 1) i (iI (pts i 4).1))) (fun _ => 0)) H := hP
              refine lv_aload_n hx hb dX2_init_187 rfl (lv_at hl 0 rfl) ?_
              refine va_get (D := D) (ci := 2) (v := .ref (μ 2)) (C := RX2) (T := TX2) (N := 15) hx hb hts (by decide +kernel) hown hK hP 0 rfl rfl 1 (by decide) (hts (.fieldLink RX2 13 "SevenKeysModel" "bs" "[I") (by decide +kernel)) (fun _ h9 => h9) rfl dX2_init_188 ?_
              refine lv_iload_n hx hb dX2_init_191 rfl (lv_at hl 1 rfl) ?_
              refine lv_iload_n hx hb dX2_init_192 rfl (lv_at hl 3 rfl) ?_
              refine nv_iast hx hb hK hP (hDm _ _) hS 2 0 rfl rfl (by omega) (by decide) dX2_init_193 (fun H locs hP hS => ?_)
              have hP : va_P D vwCl (mW cI cZ μ (va_up (va_up M1 1 (upd (M1 1) i (iI (pts i 4).1))) 2 (upd ((va_up M1 1 (upd (M1 1) i (iI (pts i 4).1))) 2) i (iI (pts i 4).2))) (fun _ => 0)) H := hP
              refine lv_aload_n hx hb dX2_init_194 rfl (lv_at hl 0 rfl) ?_
              refine va_get (D := D) (ci := 2) (v := .ref (μ 3)) (C := RX2) (T := TX2) (N := 15) hx hb hts (by decide +kernel) hown hK hP 0 rfl rfl 2 (by decide) (hts (.fieldLink RX2 16 "SevenKeysModel" "keys" "[I") (by decide +kernel)) (fun _ h9 => h9) rfl dX2_init_195 ?_
              refine lv_bipush (v := nI 121) hx hb dX2_init_198 (by decide) ?_
              refine lv_iload_n hx hb dX2_init_200 rfl (lv_at hl 2 rfl) ?_
              refine lv_bipush (v := nI 60) hx hb dX2_init_201 (by decide) ?_
              refine lv_iadd hx hb dX2_init_203 ?_
              refine lv_imul hx hb dX2_init_204 ?_
              refine lv_iload_n hx hb dX2_init_205 rfl (lv_at hl 3 rfl) ?_
              refine lv_iadd hx hb dX2_init_206 ?_
              refine lv_bipush (v := nI 60) hx hb dX2_init_207 (by decide) ?_
              refine lv_iadd hx hb dX2_init_209 ?_
              refine nv_as (nI (gN i)) (by exact gi_leaf (by omega)) ?_
              refine lv_iload_n hx hb dX2_init_210 rfl (lv_at hl 1 rfl) ?_
              refine lv_iconst (v := nI 1) hx hb dX2_init_211 (by decide) ?_
              refine lv_iadd hx hb dX2_init_212 ?_
              refine nv_as (nI (i + 1)) (nI_add _ _) ?_
              have hg := (gN_lt (show i < 2401 by omega)).1
              refine nv_iast hx hb hK hP (hDm _ _) hS 3 0 rfl rfl (by omega) (by decide) dX2_init_213 (fun H locs hP hS => ?_)
              have hP : va_P D vwCl (mW cI cZ μ (va_up (va_up (va_up M1 1 (upd (M1 1) i (iI (pts i 4).1))) 2 (upd ((va_up M1 1 (upd (M1 1) i (iI (pts i 4).1))) 2) i (iI (pts i 4).2))) 3 (upd ((va_up (va_up M1 1 (upd (M1 1) i (iI (pts i 4).1))) 2 (upd ((va_up M1 1 (upd (M1 1) i (iI (pts i 4).1))) 2) i (iI (pts i 4).2))) 3) (gN i) (nI (i + 1)))) (fun _ => 0)) H := hP
              refine lv_iinc (v := nI (i + 1)) (lv' := [(1, .int (nI (i + 1))), (0, .ref (μ 0)), (2, .int (iI (pts i 4).1)), (3, .int (iI (pts i 4).2)), (4, .int (nI (343 / 7 ^ 4)))]) hx hb dX2_init_214 hl (k := 1) rfl (inc_nI _) (by decide) rfl (fun ls hl => ?_)
              refine lv_goto (tgt := 112) hx hb dX2_init_217 (by decide) ?_
              exact ih_112 (i + 1) (va_up (va_up (va_up M1 1 (upd (M1 1) i (iI (pts i 4).1))) 2 (upd ((va_up M1 1 (upd (M1 1) i (iI (pts i 4).1))) 2) i (iI (pts i 4).2))) 3 (upd ((va_up (va_up M1 1 (upd (M1 1) i (iI (pts i 4).1))) 2 (upd ((va_up M1 1 (upd (M1 1) i (iI (pts i 4).1))) 2) i (iI (pts i 4).2))) 3) (gN i) (nI (i + 1)))) (by omega) (by exact ab_step h12) (by show upd (M1 3) (gN i) (nI (i + 1)) = _; rw [h3, keyGn_s]) (by exact h4) (by exact h5) (by omega) _ (by first | rfl | exact congrArg nI (by omega)) _ _ hS hP _ (lv_sub hl [1, 0] rfl)
            ·
              have hp := pl_gt c_130 ht
              refine lv_iload_n hx hb dX2_init_133 rfl (lv_at hl 1 rfl) ?_
              refine lv_iload hx hb dX2_init_134 (lv_at hl 4 rfl) ?_
              refine lv_idiv hx hb dX2_init_136 hp.2.2.2 ?_
              refine nv_as (nI (i / (343 / 7 ^ t))) (by exact fg_val (by omega) hp.2.1 hp.2.2.1) ?_
              refine lv_bipush (v := nI 7) hx hb dX2_init_137 (by decide) ?_
              have hfl := fg_le i t
              refine lv_irem hx hb dX2_init_139 (by decide) ?_
              refine nv_as (nI ((i / (343 / 7 ^ t)) % 7)) (pk_rem (by omega) (by omega) (by omega)) ?_
              refine lv_istore (lv' := [(5, .int (nI ((i / (343 / 7 ^ t)) % 7))), (0, .ref (μ 0)), (1, .int (nI i)), (2, .int (iI (pts i t).1)), (3, .int (iI (pts i t).2)), (4, .int (nI (343 / 7 ^ t)))]) hx hb dX2_init_140 hl (by decide) rfl (fun ls hl => ?_)
              refine lv_iload_n hx hb dX2_init_142 rfl (lv_at hl 3 rfl) ?_
              refine lv_istore (lv' := [(6, .int (iI (pts i t).1)), (5, .int (nI ((i / (343 / 7 ^ t)) % 7))), (0, .ref (μ 0)), (1, .int (nI i)), (2, .int (iI (pts i t).1)), (3, .int (iI (pts i t).2)), (4, .int (nI (343 / 7 ^ t)))]) hx hb dX2_init_143 hl (by decide) rfl (fun ls hl => ?_)
              refine lv_iconst (v := nI 2) hx hb dX2_init_145 (by decide) ?_
              refine lv_iload_n hx hb dX2_init_146 rfl (lv_at hl 4 rfl) ?_
              refine lv_imul hx hb dX2_init_147 ?_
              refine nv_as (iI (2 * (pts i t).1)) (by exact i2 _) ?_
              refine lv_iload_n hx hb dX2_init_148 rfl (lv_at hl 5 rfl) ?_
              refine lv_isub hx hb dX2_init_149 ?_
              refine nv_as (iI (2 * (pts i t).1 - (pts i t).2)) (by exact iI_sub _ _) ?_
              refine lv_iload hx hb dX2_init_150 (lv_at hl 1 rfl) ?_
              refine rd_S S hl (c_X2_sideA l ((i / (343 / 7 ^ t)) % 7) (by exact fg_lt i t)) HB.tt gX2_init_X2_sideA rfl nf_X2_sideA rfl rfl dX2_init_152  (fun _ _ _ => trivial) ?_
              refine lv_iadd hx hb dX2_init_155 ?_
              refine nv_as (iI (2 * (pts i t).1 - (pts i t).2 + sA (i / (343 / 7 ^ t) % 7))) (by exact iI_add _ _) ?_
              refine lv_istore_n (lv' := [(2, .int (iI (2 * (pts i t).1 - (pts i t).2 + sA (i / (343 / 7 ^ t) % 7)))), (6, .int (iI (pts i t).1)), (5, .int (nI ((i / (343 / 7 ^ t)) % 7))), (0, .ref (μ 0)), (1, .int (nI i)), (3, .int (iI (pts i t).2)), (4, .int (nI (343 / 7 ^ t)))]) hx hb dX2_init_156 rfl hl (by decide) rfl (fun ls hl => ?_)
              refine lv_iload hx hb dX2_init_157 (lv_at hl 1 rfl) ?_
              refine lv_iconst (v := nI 3) hx hb dX2_init_159 (by decide) ?_
              refine lv_iload_n hx hb dX2_init_160 rfl (lv_at hl 5 rfl) ?_
              refine lv_imul hx hb dX2_init_161 ?_
              refine nv_as (iI (3 * (pts i t).2)) (by exact i3 _) ?_
              refine lv_iadd hx hb dX2_init_162 ?_
              refine nv_as (iI ((pts i t).1 + 3 * (pts i t).2)) (by exact iI_add _ _) ?_
              refine lv_iload hx hb dX2_init_163 (lv_at hl 2 rfl) ?_
              refine rd_S S hl (c_X2_sideB l ((i / (343 / 7 ^ t)) % 7) (by exact fg_lt i t)) HB.tt gX2_init_X2_sideB rfl nf_X2_sideB rfl rfl dX2_init_165  (fun _ _ _ => trivial) ?_
              refine lv_iadd hx hb dX2_init_168 ?_
              refine nv_as (iI ((pts i t).1 + 3 * (pts i t).2 + sB (i / (343 / 7 ^ t) % 7))) (by exact iI_add _ _) ?_
              refine lv_istore_n (lv' := [(3, .int (iI ((pts i t).1 + 3 * (pts i t).2 + sB (i / (343 / 7 ^ t) % 7)))), (2, .int (iI (2 * (pts i t).1 - (pts i t).2 + sA (i / (343 / 7 ^ t) % 7)))), (6, .int (iI (pts i t).1)), (5, .int (nI ((i / (343 / 7 ^ t)) % 7))), (0, .ref (μ 0)), (1, .int (nI i)), (4, .int (nI (343 / 7 ^ t)))]) hx hb dX2_init_169 rfl hl (by decide) rfl (fun ls hl => ?_)
              refine lv_iload hx hb dX2_init_170 (lv_at hl 6 rfl) ?_
              refine lv_bipush (v := nI 7) hx hb dX2_init_172 (by decide) ?_
              have hpd := hp.2.2.1
              refine lv_idiv hx hb dX2_init_174 (by decide) ?_
              refine nv_as (nI ((343 / 7 ^ t) / 7)) (pk_div (by omega) (by omega) (by omega)) ?_
              refine lv_istore (lv' := [(4, .int (nI ((343 / 7 ^ t) / 7))), (3, .int (iI ((pts i t).1 + 3 * (pts i t).2 + sB (i / (343 / 7 ^ t) % 7)))), (2, .int (iI (2 * (pts i t).1 - (pts i t).2 + sA (i / (343 / 7 ^ t) % 7)))), (6, .int (iI (pts i t).1)), (5, .int (nI ((i / (343 / 7 ^ t)) % 7))), (0, .ref (μ 0)), (1, .int (nI i))]) hx hb dX2_init_175 hl (by decide) rfl (fun ls hl => ?_)
              refine lv_goto (tgt := 128) hx hb dX2_init_177 (by decide) ?_
              exact ih_128 (t + 1) (by omega) (by omega) _ _ _ (by rfl) (by rfl) (by exact pl_div hp.1) _ _ hS hP _ (lv_sub hl [5, 6, 2, 1, 0] rfl)
        exact loop_128 (4 - 0 + 1) 0 (by omega) (Nat.lt_succ_self _) _ _ _ (by rfl) (by rfl) (by rfl) _ _ hS hP _ (lv_sub hl [3, 4, 2, 1, 0] rfl)
  exact loop_112 (2401 - 0 + 1) 0 (fun _ _ => 0) (by omega) (by exact lt_0) (by rfl) (by rfl) (by rfl) (Nat.lt_succ_self _) _ rfl _ _ hS hP _ (lv_sub hl [1, 0] rfl)
