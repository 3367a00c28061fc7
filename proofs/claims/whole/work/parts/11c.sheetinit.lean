/-! constructors: they make cells; A is the object's own cell and what comes from sz on -/
def AI (q sz : Nat) (a : Nat) : Prop := a = q ∨ sz ≤ a
theorem met_inI {l : Launch} {y : MethodName} {ws ws' : List Cond} {rm : Room} {av : List Value} {B : State → Prop} {Qc : Array Value → State → Outcome → State → Prop} {mc ms : Nat} {free : Addr → Prop} {cc : ByteArray} {maxL : Nat} {ret : Option FieldType} (own : String)
    (hy : plainName y.cls = true) (hw : ws = Cond.code y cc maxL ret :: ws') (ho : y.cls = own) (hlen : (lg_sl av).length ≤ maxL)
    (body : ∀ (p : Program) (e : Env) (s : State) (m : MethodId) (below : List Frame) (meth : Method) (c : Code) (ls : Array Slot), CallFix p m c cc maxL s av.toArray ws own → meth.sig.returnType = ret → meth.locks = false → meth.name = y.name → lv_has ls maxL (lv_args 0 av) → B s →
      W p l e (headSpec ws rm).room s m av.toArray below meth c s.heap [] 0 0 (MQ below Qc av.toArray s mc ms free) (F0 m 0 ls [])) : Met l y ws rm (va_Pc av B) Qc mc ms free := by
  refine Met.ofW (cc := cc) (maxL := maxL) (ret := ret) hy hw ?_
  intro p e s m args below meth c s₁ B0 hml hv
  obtain ⟨rfl, hB⟩ := hv
  have hl := lv_entry av (n := maxL) hlen
  rw [lg_entry_eq]
  generalize (lg_sl av ++ List.replicate (maxL - (lg_sl av).length) Slot.unset).toArray = ls at hl ⊢
  exact body p e s m below meth c ls ⟨B0.exec, B0.bytes, hml, by rw [← ho]; exact findClass_of_methodNamed B0.named, atoms_spec (ws := ws) B0.pre⟩ B0.returns B0.notSynchronized (name_of_methodNamed B0.named B0.method).1 hl hB
theorem wr_goN {p : Program} {l : Launch} {e : Env} {R : Room} {s : State} {m : MethodId} {args : Array Value} {below : List Frame} {meth : Method} {c : Code} {H : Heap} {locs : List Loc} {cells slots mc ms : Nat} {Q : State → Prop} {pc : Nat} {ls : Array Slot} {rest st0 : List Value} {P : Heap → Prop} {A0 A1 : Nat → Prop} {H0 : Heap} {a : Array Value}
    (hr : CallRun p l e R s m args below meth c H locs cells slots mc ms (F0 m pc ls st0) rest (qW none P A1 a) A1) (hS : va_S A0 H0 H locs) (hA : ∀ q, A1 q → A0 q)
    (kk : ∀ (H1 : Heap) (locs1 : List Loc), P H1 → va_S A0 H0 H1 locs1 → H.size ≤ H1.size → (∀ q : Nat, q < H.size → ¬ A1 q → H1[q]? = H[q]?) → W p l e R s m args below meth c H1 locs1 (cells + mc) (slots + ms) Q (F0 m (pc + 3) ls rest)) : W p l e R s m args below meth c H locs cells slots Q (F0 m pc ls st0) := by
  intro T hT X
  obtain ⟨v, st₀, t, T', L, h0, X', hL, e1, ⟨hv, hp, hz, hk⟩, st⟩ := hr T hT X
  cases hv
  rw [h0] at hz hk
  obtain ⟨t2, a1, b1⟩ := kk t.heap (locs ++ L) hp ⟨Nat.le_trans hS.1 hz, fun q h1 h2 => by rw [hk q (Nat.lt_of_lt_of_le h1 hS.1) (fun z => h2 (hA q z))]; exact hS.2.1 q h1 h2, fun q hq => by
      rcases List.mem_append.mp hq with h | h
      · exact hS.2.2 q h
      · exact hA _ (hL q h)⟩ hz hk T' e1 X'
  exact ⟨t2, st t2 a1, b1⟩
theorem ret_nv {p : Program} {l : Launch} {e : Env} {R : Room} {s : State} {m : MethodId} {args : Array Value} {below : List Frame} {meth : Method} {c : Code} {H : Heap} {locs : List Loc} {cells slots : Nat} {cc : ByteArray} {pc : Nat} {ls : Array Slot} {P : Heap → Prop} {A0 : Nat → Prop}
    (hx : p.tables.exec = Jvm.exec) (hb : c.code = cc) (hr : meth.sig.returnType = none) (hlocks : meth.locks = false) (hdg : decode cc pc = .ok (.return_, 1)) (hS : va_S A0 s.heap H locs) (hP : P H) : W p l e R s m args below meth c H locs cells slots (MQ below (qW none P A0) args s cells slots A0) (F0 m pc ls []) :=
  W.vret hx hb hr (fun t ht _ => ⟨rfl, by rw [ht]; exact hP, hS.F ht⟩) hS.2.2 hdg hlocks
theorem cA_int {D : va_G} {cI cZ cA : ClassId} {s : State} (h : va_K D vwCl ([(cI, .int), (cZ, .boolean)] ++ [(cA, .int)]) s) : cA = cI := by
  have h1 : s.vm.findClass ("[" ++ (FieldType.int).toString) = some cA := (h.2 2 _ rfl).2
  have h2 : s.vm.findClass ("[" ++ (FieldType.int).toString) = some cI := (h.2 0 _ rfl).2
  exact Option.some.inj (h1.symm.trans h2)
theorem cA_bool {D : va_G} {cI cZ cA : ClassId} {s : State} (h : va_K D vwCl ([(cI, .int), (cZ, .boolean)] ++ [(cA, .boolean)]) s) : cA = cZ := by
  have h1 : s.vm.findClass ("[" ++ (FieldType.boolean).toString) = some cA := (h.2 2 _ rfl).2
  have h2 : s.vm.findClass ("[" ++ (FieldType.boolean).toString) = some cZ := (h.2 1 _ rfl).2
  exact Option.some.inj (h1.symm.trans h2)
theorem oneA {q sz : Nat} {e : va_E} : va_D (AI q sz) [(q, e)] := (D_one (a := q) (e := e)).weaken (fun _ _ _ h => Or.inl h)
def mkA (l : List Nat) (n : Nat) : Nat := l.getD n 0
theorem D3 {A : Nat → Prop} {a b c : Nat} {e1 e2 e3 f1 f2 f3 : va_E} (h : va_D A [(a, e1), (b, e2), (c, e3)]) : va_D A [(a, f1), (b, f2), (c, f3)] := by
  refine ⟨fun i j p q h1 h2 h3 => ?_, fun k q hk => ?_⟩
  · match i, j, h1, h2 with
    | 0, 0, _, _ => rfl
    | 1, 1, _, _ => rfl
    | 2, 2, _, _ => rfl
    | 0, 1, h1, h2 => cases h1; cases h2; exact h.1 0 1 _ _ rfl rfl h3
    | 0, 2, h1, h2 => cases h1; cases h2; exact h.1 0 2 _ _ rfl rfl h3
    | 1, 0, h1, h2 => cases h1; cases h2; exact h.1 1 0 _ _ rfl rfl h3
    | 1, 2, h1, h2 => cases h1; cases h2; exact h.1 1 2 _ _ rfl rfl h3
    | 2, 0, h1, h2 => cases h1; cases h2; exact h.1 2 0 _ _ rfl rfl h3
    | 2, 1, h1, h2 => cases h1; cases h2; exact h.1 2 1 _ _ rfl rfl h3
    | i + 3, _, h1, _ => simp at h1
    | _, j + 3, _, h2 => simp at h2
  · match k, hk with
    | 0, hk => cases hk; exact h.2 0 (a, e1) rfl
    | 1, hk => cases hk; exact h.2 1 (b, e2) rfl
    | 2, hk => cases hk; exact h.2 2 (c, e3) rfl
    | k + 3, hk => simp at hk
theorem s3fill {D : va_G} {cI : ClassId} {A : Nat → Prop} {q c k : Nat} {o : Nat × List Value} {f g g2 : Nat → Int32} {H H1 : Heap} (hD : va_D A [(q, .inr o), (c, .inl (cI, 2401, .inl f)), (k, .inl (cI, 4225, .inl g))]) (hP : va_P D vwCl [(q, .inr o), (c, .inl (cI, 2401, .inl f)), (k, .inl (cI, 4225, .inl g))] H) (hF : va_P D vwCl [(k, .inl (cI, 4225, .inl g2))] H1) (hk : ∀ a : Nat, a < H.size → ¬ a = k → H1[a]? = H[a]?) : va_P D vwCl [(q, .inr o), (c, .inl (cI, 2401, .inl f)), (k, .inl (cI, 4225, .inl g2))] H1 := by
  intro i x h
  match i, h with
  | 0, h => cases h; exact (hP 0 _ rfl).kept (hk _ (hP 0 _ rfl).lt (fun z => absurd (hD.1 0 2 _ _ rfl rfl z) (by decide)))
  | 1, h => cases h; exact (hP 1 _ rfl).kept (hk _ (hP 1 _ rfl).lt (fun z => absurd (hD.1 1 2 _ _ rfl rfl z) (by decide)))
  | 2, h => cases h; exact hF 0 _ rfl
  | i + 3, h => simp at h
theorem P3cg {D : va_G} {cI : ClassId} {q c k : Nat} {o : Nat × List Value} {f g : Nat → Int32} {H : Heap} (hP : va_P D vwCl [(q, .inr o), (c, .inl (cI, 2401, .inl f)), (k, .inl (cI, 4225, .inl g))] H) (h : ∀ j, j < 2401 → f j = cellF j) : va_P D vwCl [(q, .inr o), (c, .inl (cI, 2401, .inl cellF)), (k, .inl (cI, 4225, .inl g))] H := by
  intro i x hx
  match i, hx with
  | 0, hx => cases hx; exact hP 0 _ rfl
  | 1, hx =>
    cases hx
    have h1 : H[c]? = some (vp_cell cI (2401, .inl f)) := hP 1 _ rfl
    show H[c]? = some (vp_cell cI (2401, .inl cellF))
    rw [h1, cell_cg h]
  | 2, hx => cases hx; exact hP 2 _ rfl
  | i + 3, hx => simp at hx
theorem cf_step {f : Nat → Int32} {i : Nat} (h : ∀ j, j < i → f j = cellF j) : ∀ j, j < i + 1 → upd f i (nI (cellN i)) j = cellF j := by
  intro j hj
  unfold upd
  by_cases e : j = i
  · rw [if_pos e, e]; rfl
  · rw [if_neg e]; exact h j (by omega)
theorem nf_X0_init : nfOk yX0_init 0 := by unfold nfOk; decide +kernel
set_option maxHeartbeats 8000000 in
set_option maxRecDepth 100000 in
theorem c_X0_init (l : Launch) (D : va_G) (cI cZ : ClassId) (q sz : Nat) (ta tb : Nat) : Met l yX0_init wsX0_init ({ frames := 2, cells := 2, slots := 6626, locals := 47 }) (va_Pc [.ref q] (fun U => U.heap.size = sz ∧ va_P D vwCl [(q, .inr (0, [.null, .null]))] U.heap ∧ KK D cI cZ U ∧ SAB ta tb (AI q sz) U U.heap)) (qW none (fun H => ∃ c k : Nat, va_P D vwCl [(q, .inr (0, [.ref c, .ref k])), (c, .inl (cI, 2401, .inl cellF)), (k, .inl (cI, 4225, .inl keyF))] H ∧ va_D (AI q sz) [(q, .inr (0, [.ref c, .ref k])), (c, .inl (cI, 2401, .inl cellF)), (k, .inl (cI, 4225, .inl keyF))]) (AI q sz)) 2 6626 (AI q sz) := by
  refine met_inI RX0 (by decide) rfl rfl (Nat.le_of_ble_eq_true rfl) ?_
  intro p e s m below meth c ls S hr hlocks hin hl hB
  have hx := S.1
  have hb := S.2.1
  have hml := S.2.2.1
  have hown := S.2.2.2.1
  have hts := S.2.2.2.2
  obtain ⟨hsz, hP, hK, hSt⟩ := hB
  subst hsz
  have hl : lv_has ls 3 [(0, .ref q)] := hl
  have hD : va_D (AI q s.heap.size) [(q, .inr (0, [.null, .null]))] := oneA
  have hA : ∀ a : Nat, s.heap.size ≤ a → AI q s.heap.size a := fun a h => Or.inr h
  have hS : va_S (AI q s.heap.size) s.heap s.heap [] := va_S.rf
  refine lv_aload_n hx hb dX0_init_0 rfl (lv_at hl 0 rfl) ?_
  refine W.objInit hx hb hown (hts (.methodLink RX0 3 objectInit) (by decide +kernel)) (hts (.instanceMethod objectInit) (by decide +kernel)) (hts _ (List.mem_of_getElem? (i := 3) rfl)) rfl (by rw [hml]; exact hl.1) rfl dX0_init_1 (Nat.le_of_ble_eq_true rfl) (Nat.le_of_ble_eq_true rfl) ?_
  refine W.eq (g2 := F0 m 4 ls []) rfl ?_
  refine lv_aload_n hx hb dX0_init_4 rfl (lv_at hl 0 rfl) ?_
  refine lv_sipush (v := nI 2401) hx hb dX0_init_5 (by decide) ?_
  refine va_newa (atype := .int) (a0 := (2401, .inl (fun _ => 0))) hx hb (hts (.arrayClass .int) (by decide +kernel)) rfl hK hP hD hS hA (fun _ => rfl) (by decide) (by decide) (Nat.le_of_ble_eq_true rfl) (Nat.le_of_ble_eq_true rfl) (Nat.le_of_ble_eq_true rfl) dX0_init_8 (fun c1 cA H hK2 hP hD hS => ?_)
  rw [cA_int hK2] at hP hD
  have hP : va_P D vwCl [(q, .inr (0, [.null, .null])), (c1, .inl (cI, 2401, .inl (fun _ => 0)))] H := hP
  have hD : va_D (AI q s.heap.size) [(q, .inr (0, [.null, .null])), (c1, .inl (cI, 2401, .inl (fun _ => 0)))] := hD
  refine W.widen (k := 1) (n := 2401) (by omega) (by omega) ?_
  refine va_putF (D := D) (ci := 0) (v := .ref c1) (ty := .array .int) (C := RX0) (T := TX0) (N := 2) hx hb hts (by decide +kernel) tyX0 tyX0_ok nmX0 hown hK hP hD hS 0 rfl rfl 0 (by decide) (hts (.fieldLink RX0 9 "SevenKeys$Sheet" "cells" "[I") (by decide +kernel)) (fun _ h9 => h9) rfl hin rfl (by decide +kernel) rfl rfl (Nat.le_of_ble_eq_true rfl) dX0_init_10 (fun H locs hP hD hS => ?_)
  have hP : va_P D vwCl [(q, .inr (0, [.ref c1, .null])), (c1, .inl (cI, 2401, .inl (fun _ => 0)))] H := hP
  have hD : va_D (AI q s.heap.size) [(q, .inr (0, [.ref c1, .null])), (c1, .inl (cI, 2401, .inl (fun _ => 0)))] := hD
  refine lv_aload_n hx hb dX0_init_13 rfl (lv_at hl 0 rfl) ?_
  refine lv_sipush (v := nI 4225) hx hb dX0_init_14 (by decide) ?_
  refine va_newa (atype := .int) (a0 := (4225, .inl (fun _ => 0))) hx hb (hts (.arrayClass .int) (by decide +kernel)) rfl hK hP hD hS hA (fun _ => rfl) (by decide) (by decide) (Nat.le_of_ble_eq_true rfl) (Nat.le_of_ble_eq_true rfl) (Nat.le_of_ble_eq_true rfl) dX0_init_17 (fun k1 cA H hK2 hP hD hS => ?_)
  rw [cA_int hK2] at hP hD
  have hP : va_P D vwCl [(q, .inr (0, [.ref c1, .null])), (c1, .inl (cI, 2401, .inl (fun _ => 0))), (k1, .inl (cI, 4225, .inl (fun _ => 0)))] H := hP
  have hD : va_D (AI q s.heap.size) [(q, .inr (0, [.ref c1, .null])), (c1, .inl (cI, 2401, .inl (fun _ => 0))), (k1, .inl (cI, 4225, .inl (fun _ => 0)))] := hD
  refine W.widen (k := 2) (n := 6626) (by omega) (by omega) ?_
  refine va_putF (D := D) (ci := 0) (v := .ref k1) (ty := .array .int) (C := RX0) (T := TX0) (N := 2) hx hb hts (by decide +kernel) tyX0 tyX0_ok nmX0 hown hK hP hD hS 0 rfl rfl 1 (by decide) (hts (.fieldLink RX0 15 "SevenKeys$Sheet" "keys" "[I") (by decide +kernel)) (fun _ h9 => h9) rfl hin rfl (by decide +kernel) rfl rfl (Nat.le_of_ble_eq_true rfl) dX0_init_19 (fun H locs hP hD hS => ?_)
  have hP : va_P D vwCl [(q, .inr (0, [.ref c1, .ref k1])), (c1, .inl (cI, 2401, .inl (fun _ => 0))), (k1, .inl (cI, 4225, .inl (fun _ => 0)))] H := hP
  have hD : va_D (AI q s.heap.size) [(q, .inr (0, [.ref c1, .ref k1])), (c1, .inl (cI, 2401, .inl (fun _ => 0))), (k1, .inl (cI, 4225, .inl (fun _ => 0)))] := hD
  have hDx : ∀ (f g : Nat → Int32), va_D (AI q s.heap.size) [(q, .inr (0, [.ref c1, .ref k1])), (c1, .inl (cI, 2401, .inl f)), (k1, .inl (cI, 4225, .inl g))] := fun f g => D3 hD
  refine lv_aload_n hx hb dX0_init_22 rfl (lv_at hl 0 rfl) ?_
  refine va_get (D := D) (ci := 0) (v := .ref k1) (C := RX0) (T := TX0) (N := 2) hx hb hts (by decide +kernel) hown hK hP 0 rfl rfl 1 (by decide) (hts (.fieldLink RX0 15 "SevenKeys$Sheet" "keys" "[I") (by decide +kernel)) (fun _ h9 => h9) rfl dX0_init_23 ?_
  refine lv_bipush (v := (-6)) hx hb dX0_init_26 (by decide) ?_
  refine wr_S S hl (c_J7_fill_53178 l D cI cZ k1 4225 (fun _ => 0) (-6) (by decide)) FB.hb gX0_init_J7_fill_53178 rfl nf_J7_fill_53178 rfl rfl dX0_init_28 (FB.at hK hP 2 rfl) hS (fun z h => by rw [h]; exact hD.2 2 _ rfl) (fun H locs hPP hS _ hkp => ?_)
  have hP : va_P D vwCl [(q, .inr (0, [.ref c1, .ref k1])), (c1, .inl (cI, 2401, .inl (fun _ => 0))), (k1, .inl (cI, 4225, .inl (fun _ => -6)))] H := s3fill hD hP hPP hkp
  refine W.eq (g2 := F0 m 31 ls []) rfl ?_
  refine lv_iconst (v := nI 0) hx hb dX0_init_31 (by decide) ?_
  refine lv_istore_n (lv' := [(1, .int (nI 0)), (0, .ref q)]) hx hb dX0_init_32 rfl hl (by decide) rfl (fun ls hl => ?_)
  have loop : ∀ (n : Nat) (i : Nat) (C1 : Nat → Int32), i ≤ 2401 → (∀ j, j < i → C1 j = cellF j) → 2401 - i < n → ∀ (H : Heap) (locs : List Loc), va_S (AI q s.heap.size) s.heap H locs → va_P D vwCl [(q, .inr (0, [.ref c1, .ref k1])), (c1, .inl (cI, 2401, .inl C1)), (k1, .inl (cI, 4225, .inl (keyFn i)))] H → ∀ ls : Array Slot, lv_has ls 3 [(0, .ref q), (1, .int (nI i))] → W p l e (headSpec wsX0_init ({ frames := 2, cells := 2, slots := 6626, locals := 47 })).room s m [.ref q].toArray below meth c H locs 2 6626 (MQ below (qW none (fun H => ∃ c k : Nat, va_P D vwCl [(q, .inr (0, [.ref c, .ref k])), (c, .inl (cI, 2401, .inl cellF)), (k, .inl (cI, 4225, .inl keyF))] H ∧ va_D (AI q s.heap.size) [(q, .inr (0, [.ref c, .ref k])), (c, .inl (cI, 2401, .inl cellF)), (k, .inl (cI, 4225, .inl keyF))]) (AI q s.heap.size)) [.ref q].toArray s 2 6626 (AI q s.heap.size)) (F0 m 33 ls []) := by
    intro n
    induction n with
    | zero => intro i C1 _ _ hm; exact absurd hm (Nat.not_lt_zero _)
    | succ n ih =>
      intro i C1 hi hC hm H locs hS hP ls hl
      refine lv_iload_n hx hb dX0_init_33 rfl (lv_at hl 1 rfl) ?_
      refine lv_aload_n hx hb dX0_init_34 rfl (lv_at hl 0 rfl) ?_
      refine va_get (D := D) (ci := 0) (v := .ref c1) (C := RX0) (T := TX0) (N := 2) hx hb hts (by decide +kernel) hown hK hP 0 rfl rfl 0 (by decide) (hts (.fieldLink RX0 9 "SevenKeys$Sheet" "cells" "[I") (by decide +kernel)) (fun _ h9 => h9) rfl dX0_init_35 ?_
      refine va_alen hx hb hK hP 1 0 rfl rfl (v := nI 2401) rfl dX0_init_38 ?_
      refine nv_icmp_ge (tgt := 81) hx hb dX0_init_39 (by decide) (by omega) (by omega) (fun c_39 => ?_) (fun c_39 => ?_)
      · refine ret_nv hx hb hr hlocks dX0_init_81 hS ⟨c1, k1, ?_, hDx _ _⟩
        have hi2 : i = 2401 := by omega
        subst hi2
        exact P3cg hP hC
      · refine lv_iload_n hx hb dX0_init_42 rfl (lv_at hl 1 rfl) ?_
        refine rd_S S hl (c_X0_cellByFigures l ta tb i (by omega)) SAB.hb gX0_init_X0_cellByFigures rfl nf_X0_cellByFigures rfl rfl dX0_init_43 (SAB.at hSt hS (fun _ h => h.elim)) ?_
        refine lv_istore_n (lv' := [(2, .int (nI (cellN i))), (0, .ref q), (1, .int (nI i))]) hx hb dX0_init_46 rfl hl (by decide) rfl (fun ls hl => ?_)
        have hcl := (cellN_lt (show i < 2401 by omega)).1
        refine lv_aload_n hx hb dX0_init_47 rfl (lv_at hl 1 rfl) ?_
        refine va_get (D := D) (ci := 0) (v := .ref c1) (C := RX0) (T := TX0) (N := 2) hx hb hts (by decide +kernel) hown hK hP 0 rfl rfl 0 (by decide) (hts (.fieldLink RX0 9 "SevenKeys$Sheet" "cells" "[I") (by decide +kernel)) (fun _ h9 => h9) rfl dX0_init_48 ?_
        refine lv_iload_n hx hb dX0_init_51 rfl (lv_at hl 2 rfl) ?_
        refine lv_iload_n hx hb dX0_init_52 rfl (lv_at hl 0 rfl) ?_
        refine nv_iast hx hb hK hP (hDx _ _) hS 1 0 rfl rfl (by omega) (by decide) dX0_init_53 (fun H locs hP hS => ?_)
        have hP : va_P D vwCl [(q, .inr (0, [.ref c1, .ref k1])), (c1, .inl (cI, 2401, .inl (upd C1 i (nI (cellN i))))), (k1, .inl (cI, 4225, .inl (keyFn i)))] H := hP
        refine lv_iconst (v := nI 0) hx hb dX0_init_54 (by decide) ?_
        refine lv_iload_n hx hb dX0_init_55 rfl (lv_at hl 0 rfl) ?_
        refine nv_icmp_gt (tgt := 75) hx hb dX0_init_56 (by decide) (by omega) (by omega) (fun c_56 => absurd c_56 (Nat.not_lt_zero _)) (fun c_56 => ?_)
        refine lv_iload_n hx hb dX0_init_59 rfl (lv_at hl 0 rfl) ?_
        refine lv_aload_n hx hb dX0_init_60 rfl (lv_at hl 1 rfl) ?_
        refine va_get (D := D) (ci := 0) (v := .ref k1) (C := RX0) (T := TX0) (N := 2) hx hb hts (by decide +kernel) hown hK hP 0 rfl rfl 1 (by decide) (hts (.fieldLink RX0 15 "SevenKeys$Sheet" "keys" "[I") (by decide +kernel)) (fun _ h9 => h9) rfl dX0_init_61 ?_
        refine va_alen hx hb hK hP 2 0 rfl rfl (v := nI 4225) rfl dX0_init_64 ?_
        refine nv_icmp_ge (tgt := 75) hx hb dX0_init_65 (by decide) (by omega) (by omega) (fun c_65 => absurd c_65 (by omega)) (fun c_65 => ?_)
        refine lv_aload_n hx hb dX0_init_68 rfl (lv_at hl 1 rfl) ?_
        refine va_get (D := D) (ci := 0) (v := .ref k1) (C := RX0) (T := TX0) (N := 2) hx hb hts (by decide +kernel) hown hK hP 0 rfl rfl 1 (by decide) (hts (.fieldLink RX0 15 "SevenKeys$Sheet" "keys" "[I") (by decide +kernel)) (fun _ h9 => h9) rfl dX0_init_69 ?_
        refine lv_iload_n hx hb dX0_init_72 rfl (lv_at hl 0 rfl) ?_
        refine lv_iload_n hx hb dX0_init_73 rfl (lv_at hl 2 rfl) ?_
        refine nv_iast hx hb hK hP (hDx _ _) hS 2 0 rfl rfl (by omega) (by decide) dX0_init_74 (fun H locs hP hS => ?_)
        have hP : va_P D vwCl [(q, .inr (0, [.ref c1, .ref k1])), (c1, .inl (cI, 2401, .inl (upd C1 i (nI (cellN i))))), (k1, .inl (cI, 4225, .inl (upd (keyFn i) (cellN i) (nI i))))] H := hP
        rw [← keyFn_s i] at hP
        refine lv_iinc (v := nI (i + 1)) (lv' := [(1, .int (nI (i + 1))), (2, .int (nI (cellN i))), (0, .ref q)]) hx hb dX0_init_75 hl (k := 2) rfl (inc_nI _) (by decide) rfl (fun ls hl => ?_)
        refine lv_goto (tgt := 33) hx hb dX0_init_78 (by decide) ?_
        exact ih (i + 1) _ (by omega) (cf_step hC) (by omega) _ _ hS hP _ (lv_sub hl [2, 0] rfl)
  exact loop 2402 0 _ (Nat.zero_le _) (fun j hj => absurd hj (Nat.not_lt_zero _)) (by omega) _ _ hS hP _ (lv_sub hl [1, 0] rfl)
