/-! my own rows: contracts of two kinds (Rd: reads only; Wr: writes within A, makes nothing), their calls and ends, and rows over nI and truths -/
def bI (b : Bool) : Int32 := if b then 1 else 0
def oI (o : Option Nat) : Int32 := match o with
  | none => -6
  | some k => nI k
def HB (B : State → Prop) : Prop := ∀ U V : State, U.heap = V.heap → U.vm = V.vm → B U → B V
def Rd (l : Launch) (y : MethodName) (ws : List Cond) (rm : Room) (As : List Value) (B : State → Prop) (v : Int32) : Prop :=
  Met l y ws rm (va_Pc As B) (vp_Si (fun r => r = v)) 0 0 (fun _ => False)
def qW (o : Option Value) (P : Heap → Prop) (A : Nat → Prop) : Array Value → State → Outcome → State → Prop := fun _ st oc t => oc = .returned o ∧ P t.heap ∧ va_F A st t
def Wr (l : Launch) (y : MethodName) (ws : List Cond) (rm : Room) (As : List Value) (B : State → Prop) (o : Option Value) (P : Heap → Prop) (A : Nat → Prop) : Prop :=
  Met l y ws rm (va_Pc As B) (qW o P A) 0 0 A
theorem HB.fb {B : State → Prop} (h : HB B) (As : List Value) : FrameBlind (va_Pc As B) := fun _ U _ _ q => ⟨q.1, h U _ rfl rfl q.2⟩
theorem HB.tt : HB (fun _ => True) := fun _ _ _ _ _ => trivial
def nfOk (y : MethodName) (n : Nat) : Prop := y.cls ≠ "java/lang/invoke/MethodHandle" ∧ y.cls ≠ "java/lang/invoke/VarHandle" ∧ (parseMethodDescriptor y.desc).map (fun d => d.parameters.length) = some n
theorem met_in {l : Launch} {y : MethodName} {ws ws' : List Cond} {rm : Room} {av : List Value} {B : State → Prop} {Qc : Array Value → State → Outcome → State → Prop} {mc ms : Nat} {free : Addr → Prop} {cc : ByteArray} {maxL : Nat} {ret : Option FieldType} (own : String)
    (hy : plainName y.cls = true) (hw : ws = Cond.code y cc maxL ret :: ws') (ho : y.cls = own) (hlen : (lg_sl av).length ≤ maxL)
    (body : ∀ (p : Program) (e : Env) (s : State) (m : MethodId) (below : List Frame) (meth : Method) (c : Code) (ls : Array Slot), CallFix p m c cc maxL s av.toArray ws own → meth.sig.returnType = ret → meth.locks = false → lv_has ls maxL (lv_args 0 av) → B s →
      W p l e (headSpec ws rm).room s m av.toArray below meth c s.heap [] 0 0 (MQ below Qc av.toArray s mc ms free) (F0 m 0 ls [])) : Met l y ws rm (va_Pc av B) Qc mc ms free := by
  refine Met.ofW (cc := cc) (maxL := maxL) (ret := ret) hy hw ?_
  intro p e s m args below meth c s₁ B0 hml hv
  obtain ⟨rfl, hB⟩ := hv
  have hl := lv_entry av (n := maxL) hlen
  rw [lg_entry_eq]
  generalize (lg_sl av ++ List.replicate (maxL - (lg_sl av).length) Slot.unset).toArray = ls at hl ⊢
  exact body p e s m below meth c ls ⟨B0.exec, B0.bytes, hml, by rw [← ho]; exact findClass_of_methodNamed B0.named, atoms_spec (ws := ws) B0.pre⟩ B0.returns B0.notSynchronized hl hB
def roomOk (rm R : Room) (maxL cells slots : Nat) (rest : List Value) : Bool := Nat.ble (rm.frames + 1) R.frames && Nat.ble (8 + (maxL + 11) + rm.locals) R.locals && Nat.ble cells R.cells && Nat.ble slots R.slots && Nat.ble ((rest.map fun v => v.category).sum) 8 && Nat.beq rm.cells 0 && Nat.beq rm.slots 0
theorem roomOk.all {rm R : Room} {maxL cells slots : Nat} {rest : List Value} (h : roomOk rm R maxL cells slots rest = true) : rm.frames + 1 ≤ R.frames ∧ 8 + (maxL + 11) + rm.locals ≤ R.locals ∧ cells ≤ R.cells ∧ slots ≤ R.slots ∧ (rest.map fun v => v.category).sum ≤ 8 ∧ rm.cells = 0 ∧ rm.slots = 0 := by
  unfold roomOk at h
  simp only [Bool.and_eq_true] at h
  obtain ⟨⟨⟨⟨⟨⟨h1, h2⟩, h3⟩, h4⟩, h5⟩, h6⟩, h7⟩ := h
  exact ⟨Nat.le_of_ble_eq_true h1, Nat.le_of_ble_eq_true h2, Nat.le_of_ble_eq_true h3, Nat.le_of_ble_eq_true h4, Nat.le_of_ble_eq_true h5, Nat.eq_of_beq_eq_true h6, Nat.eq_of_beq_eq_true h7⟩
section BASE
variable {p : Program} {l : Launch} {e : Env} {R : Room} {s : State} {m : MethodId} {args : Array Value} {below : List Frame} {meth : Method} {c : Code} {H : Heap} {locs : List Loc} {cells slots : Nat} {Q : State → Prop}
variable {cc : ByteArray} {pc : Nat} {ls : Array Slot} {rest st0 : List Value} {nL : Nat} {Ts ws ws' : List Cond} {own C host : String} {lvs : List (Nat × Value)} {y : MethodName} {rm : Room} {As : List Value} {B : State → Prop} {v : Int32} {index n maxL : Nat} {bytes : ByteArray} {ret : Option FieldType} {b : Addr} {o : Option Value} {P : Heap → Prop} {A0 A1 : Nat → Prop} {H0 : Heap}
theorem rd_S (S : CallFix p m c cc nL s args Ts own) (hl : lv_has ls nL lvs) (hM : Rd l y ws rm As B v) (hB0 : HB B) (hG : GoodIn Ts (va_wsS own index y ws)) (hw : ws = Cond.code y bytes maxL ret :: ws') (hd : nfOk y As.length) (hR : roomOk rm R maxL cells slots rest = true) (hst : st0 = As.reverse ++ rest) (hdg : decode cc pc = .ok (.invokestatic index, 3)) (hB : ∀ U : State, U.heap = H → s.WarmedH U.vm → B U)
    (kk : W p l e R s m args below meth c H locs cells slots Q (F0 m (pc + 3) ls (.int v :: rest))) : W p l e R s m args below meth c H locs cells slots Q (F0 m pc ls st0) := by
  obtain ⟨r1, r2, r3, r4, r5, r6, r7⟩ := roomOk.all hR
  exact vp_callSi (W.runS S hM (va_cwS As.length S.2.2.2.2 hG hw r6 r7 hd ⟨r1, r2⟩) ⟨hB0.fb As, fun U h1 h2 => ⟨rfl, hB U h1 h2⟩⟩ rfl rfl hl.1 hst (lv_room r5) hdg ⟨r3, r4⟩) (fun r hr => by rw [hr]; exact kk)
theorem rd_V (S : CallFix p m c cc nL s args Ts own) (hl : lv_has ls nL lvs) (hM : Rd l y ws rm (.ref b :: As) B v) (hB0 : HB B) (hG : GoodIn Ts (wsV own index C y ws)) (hw : ws = Cond.code y bytes maxL ret :: ws') (hC : y.cls = C) (hd : nfOk y As.length) (hR : roomOk rm R maxL cells slots rest = true) (hst : st0 = As.reverse ++ .ref b :: rest) (hdg : decode cc pc = .ok (.invokevirtual index, 3))
    (hrc : ∃ cell : Cell, H[b]? = some cell ∧ cell.vm.isStatics = false ∧ s.vm.findClass C = some cell.cls) (hB : ∀ U : State, U.heap = H → s.WarmedH U.vm → B U)
    (kk : W p l e R s m args below meth c H locs cells slots Q (F0 m (pc + 3) ls (.int v :: rest))) : W p l e R s m args below meth c H locs cells slots Q (F0 m pc ls st0) := by
  obtain ⟨r1, r2, r3, r4, r5, r6, r7⟩ := roomOk.all hR
  exact vp_callSi (W.runV S hM (cwV As.length S.2.2.2.2 hG hw r6 r7 ⟨hC, hd⟩ ⟨r1, r2⟩) ⟨hB0.fb _, hrc, fun U h1 h2 => ⟨rfl, hB U h1 h2⟩⟩ rfl rfl hl.1 hst (lv_room r5) hdg ⟨r3, r4⟩) (fun r hr => by rw [hr]; exact kk)
theorem run_of {mc ms : Nat} {g : JFrame} {Qa : State → Outcome → State → Prop} {free : Addr → Prop} (h : va_Run p l e R s m args below meth c H locs cells slots mc ms g rest Qa free) : CallRun p l e R s m args below meth c H locs cells slots mc ms g rest Qa free := by
  intro T hT X
  obtain ⟨v, st₀, t, T', L, h0, X', hL, e1, -, hq, st⟩ := h T hT X
  exact ⟨v, st₀, t, T', L, h0, X', hL, e1, hq, st⟩
theorem rd_SN (S : CallFix p m c cc nL s args Ts own) (hl : lv_has ls nL lvs) (hM : Rd l y ws rm As B v) (hB0 : HB B) (hG : GoodIn Ts ws) (hw : ws = Cond.code y bytes maxL ret :: ws') (hd : nfOk y As.length) (hR : roomOk rm R maxL cells slots rest = true) (hst : st0 = As.reverse ++ rest) (hdg : decode cc pc = .ok (.invokestatic index, 3)) (hN : va_Nw (.methodLinkNest own index y host) s) (hi : (Cond.initialized y.cls).before args s = true) (hs : (Cond.static y).before args s = true) (hB : ∀ U : State, U.heap = H → s.WarmedH U.vm → B U)
    (kk : W p l e R s m args below meth c H locs cells slots Q (F0 m (pc + 3) ls (.int v :: rest))) : W p l e R s m args below meth c H locs cells slots Q (F0 m pc ls st0) := by
  obtain ⟨r1, r2, r3, r4, r5, r6, r7⟩ := roomOk.all hR
  exact vp_callSi (run_of (va_runSN S hM ⟨va_cnB As.length S.2.2.2.2 hG hw r6 r7 hN hi hd ⟨r1, r2⟩, hs, trivial⟩ ⟨hB0.fb As, fun U h1 h2 => ⟨rfl, hB U h1 h2⟩⟩ rfl rfl hl.1 hst (lv_room r5) hdg ⟨r3, r4⟩)) (fun r hr => by rw [hr]; exact kk)
theorem wr_go {a : Array Value} (hr : CallRun p l e R s m args below meth c H locs cells slots 0 0 (F0 m pc ls st0) rest (qW o P A1 a) A1) (hS : va_S A0 H0 H locs) (hA : ∀ q, A1 q → A0 q)
    (kk : ∀ (H1 : Heap) (locs1 : List Loc), P H1 → va_S A0 H0 H1 locs1 → H.size ≤ H1.size → (∀ q : Nat, q < H.size → ¬ A1 q → H1[q]? = H[q]?) → W p l e R s m args below meth c H1 locs1 cells slots Q (F0 m (pc + 3) ls (o.toList ++ rest))) : W p l e R s m args below meth c H locs cells slots Q (F0 m pc ls st0) := by
  intro T hT X
  obtain ⟨v, st₀, t, T', L, h0, X', hL, e1, ⟨hv, hp, hz, hk⟩, st⟩ := hr T hT X
  cases hv
  rw [h0] at hz hk
  obtain ⟨t2, a1, b1⟩ := kk t.heap (locs ++ L) hp ⟨Nat.le_trans hS.1 hz, fun q h1 h2 => by rw [hk q (Nat.lt_of_lt_of_le h1 hS.1) (fun z => h2 (hA q z))]; exact hS.2.1 q h1 h2, fun q hq => by
      rcases List.mem_append.mp hq with h | h
      · exact hS.2.2 q h
      · exact hA _ (hL q h)⟩ hz hk T' e1 X'
  exact ⟨t2, st t2 a1, b1⟩
theorem wr_V (S : CallFix p m c cc nL s args Ts own) (hl : lv_has ls nL lvs) (hM : Wr l y ws rm (.ref b :: As) B o P A1) (hB0 : HB B) (hG : GoodIn Ts (wsV own index C y ws)) (hw : ws = Cond.code y bytes maxL ret :: ws') (hC : y.cls = C) (hd : nfOk y As.length) (hR : roomOk rm R maxL cells slots rest = true) (hst : st0 = As.reverse ++ .ref b :: rest) (hdg : decode cc pc = .ok (.invokevirtual index, 3))
    (hrc : ∃ cell : Cell, H[b]? = some cell ∧ cell.vm.isStatics = false ∧ s.vm.findClass C = some cell.cls) (hB : ∀ U : State, U.heap = H → s.WarmedH U.vm → B U) (hS : va_S A0 H0 H locs) (hA : ∀ q, A1 q → A0 q)
    (kk : ∀ (H1 : Heap) (locs1 : List Loc), P H1 → va_S A0 H0 H1 locs1 → H.size ≤ H1.size → (∀ q : Nat, q < H.size → ¬ A1 q → H1[q]? = H[q]?) → W p l e R s m args below meth c H1 locs1 cells slots Q (F0 m (pc + 3) ls (o.toList ++ rest))) : W p l e R s m args below meth c H locs cells slots Q (F0 m pc ls st0) := by
  obtain ⟨r1, r2, r3, r4, r5, r6, r7⟩ := roomOk.all hR
  exact wr_go (W.runV S hM (cwV As.length S.2.2.2.2 hG hw r6 r7 ⟨hC, hd⟩ ⟨r1, r2⟩) ⟨hB0.fb _, hrc, fun U h1 h2 => ⟨rfl, hB U h1 h2⟩⟩ rfl rfl hl.1 hst (lv_room r5) hdg ⟨r3, r4⟩) hS hA kk
theorem wr_S (S : CallFix p m c cc nL s args Ts own) (hl : lv_has ls nL lvs) (hM : Wr l y ws rm As B o P A1) (hB0 : HB B) (hG : GoodIn Ts (va_wsS own index y ws)) (hw : ws = Cond.code y bytes maxL ret :: ws') (hd : nfOk y As.length) (hR : roomOk rm R maxL cells slots rest = true) (hst : st0 = As.reverse ++ rest) (hdg : decode cc pc = .ok (.invokestatic index, 3))
    (hB : ∀ U : State, U.heap = H → s.WarmedH U.vm → B U) (hS : va_S A0 H0 H locs) (hA : ∀ q, A1 q → A0 q)
    (kk : ∀ (H1 : Heap) (locs1 : List Loc), P H1 → va_S A0 H0 H1 locs1 → H.size ≤ H1.size → (∀ q : Nat, q < H.size → ¬ A1 q → H1[q]? = H[q]?) → W p l e R s m args below meth c H1 locs1 cells slots Q (F0 m (pc + 3) ls (o.toList ++ rest))) : W p l e R s m args below meth c H locs cells slots Q (F0 m pc ls st0) := by
  obtain ⟨r1, r2, r3, r4, r5, r6, r7⟩ := roomOk.all hR
  exact wr_go (W.runS S hM (va_cwS As.length S.2.2.2.2 hG hw r6 r7 hd ⟨r1, r2⟩) ⟨hB0.fb As, fun U h1 h2 => ⟨rfl, hB U h1 h2⟩⟩ rfl rfl hl.1 hst (lv_room r5) hdg ⟨r3, r4⟩) hS hA kk
theorem ret_i (hx : p.tables.exec = Jvm.exec) (hb : c.code = cc) (hr : meth.sig.returnType = some .int) (hlocks : meth.locks = false) {x : Int32} (hdg : decode cc pc = .ok (.ireturn, 1)) (h : x = v) : W p l e R s m args below meth c s.heap [] 0 0 (MQ below (vp_Si (fun r => r = v)) args s 0 0 (fun _ => False)) (F0 m pc ls [.int x]) :=
  W.iret hx hb hr (fun t ht _ => ⟨x, rfl, h, ht⟩) (fun q hq => by cases hq) hdg hlocks
theorem nar_z {b : Bool} : narrow .boolean (.int (bI b)) = .int (bI b) := by cases b <;> rfl
theorem ret_z (hx : p.tables.exec = Jvm.exec) (hb : c.code = cc) (hr : meth.sig.returnType = some .boolean) (hlocks : meth.locks = false) {x : Int32} {b : Bool} (hdg : decode cc pc = .ok (.ireturn, 1)) (h : x = bI b) : W p l e R s m args below meth c s.heap [] 0 0 (MQ below (vp_Si (fun r => r = bI b)) args s 0 0 (fun _ => False)) (F0 m pc ls [.int x]) := by
  subst h
  exact W.zret hx hb hr nar_z (fun t ht _ => ⟨_, rfl, rfl, ht⟩) (fun q hq => by cases hq) hdg hlocks
theorem ret_wi (hx : p.tables.exec = Jvm.exec) (hb : c.code = cc) (hr : meth.sig.returnType = some .int) (hlocks : meth.locks = false) {x : Int32} (hdg : decode cc pc = .ok (.ireturn, 1)) (hS : va_S A0 s.heap H locs) (hP : P H) (h : x = v) : W p l e R s m args below meth c H locs 0 0 (MQ below (qW (some (.int v)) P A0) args s 0 0 A0) (F0 m pc ls [.int x]) := by
  subst h
  exact W.iret hx hb hr (fun t ht _ => ⟨rfl, by rw [ht]; exact hP, hS.F ht⟩) hS.2.2 hdg hlocks
theorem ret_wv (hx : p.tables.exec = Jvm.exec) (hb : c.code = cc) (hr : meth.sig.returnType = none) (hlocks : meth.locks = false) (hdg : decode cc pc = .ok (.return_, 1)) (hS : va_S A0 s.heap H locs) (hP : P H) : W p l e R s m args below meth c H locs 0 0 (MQ below (qW none P A0) args s 0 0 A0) (F0 m pc ls []) :=
  W.vret hx hb hr (fun t ht _ => ⟨rfl, by rw [ht]; exact hP, hS.F ht⟩) hS.2.2 hdg hlocks
/-! rows over nI and truths -/
theorem nv_as {x : Int32} (z : Int32) (h : x = z) (k : W p l e R s m args below meth c H locs cells slots Q (F0 m pc ls (.int z :: rest))) : W p l e R s m args below meth c H locs cells slots Q (F0 m pc ls (.int x :: rest)) := by subst h; exact k
theorem nv_icmp_eq (hx : p.tables.exec = Jvm.exec) (hb : c.code = cc) {a d : Nat} {off : Int} {tgt : Nat} (hdg : decode cc pc = .ok (.if_icmp .eq off, 3)) (ht : (pc : Int) + off = (tgt : Int)) (ha : a < 2 ^ 31) (hd : d < 2 ^ 31)
    (kt : a = d → W p l e R s m args below meth c H locs cells slots Q (F0 m tgt ls rest)) (kf : a ≠ d → W p l e R s m args below meth c H locs cells slots Q (F0 m (pc + 3) ls rest)) : W p l e R s m args below meth c H locs cells slots Q (F0 m pc ls (.int (nI d) :: .int (nI a) :: rest)) :=
  lv_icmp_eq hx hb hdg ht (fun h => kt ((nI_eq ha hd).mp h)) (fun h => kf (fun q => h (by rw [q])))
theorem nv_icmp_ne (hx : p.tables.exec = Jvm.exec) (hb : c.code = cc) {a d : Nat} {off : Int} {tgt : Nat} (hdg : decode cc pc = .ok (.if_icmp .ne off, 3)) (ht : (pc : Int) + off = (tgt : Int)) (ha : a < 2 ^ 31) (hd : d < 2 ^ 31)
    (kt : a ≠ d → W p l e R s m args below meth c H locs cells slots Q (F0 m tgt ls rest)) (kf : a = d → W p l e R s m args below meth c H locs cells slots Q (F0 m (pc + 3) ls rest)) : W p l e R s m args below meth c H locs cells slots Q (F0 m pc ls (.int (nI d) :: .int (nI a) :: rest)) :=
  lv_icmp_ne hx hb hdg ht (fun h => kt (fun q => h (by rw [q]))) (fun h => kf ((nI_eq ha hd).mp h))
theorem nv_icmp_ge (hx : p.tables.exec = Jvm.exec) (hb : c.code = cc) {a d : Nat} {off : Int} {tgt : Nat} (hdg : decode cc pc = .ok (.if_icmp .ge off, 3)) (ht : (pc : Int) + off = (tgt : Int)) (ha : a < 2 ^ 31) (hd : d < 2 ^ 31)
    (kt : d ≤ a → W p l e R s m args below meth c H locs cells slots Q (F0 m tgt ls rest)) (kf : a < d → W p l e R s m args below meth c H locs cells slots Q (F0 m (pc + 3) ls rest)) : W p l e R s m args below meth c H locs cells slots Q (F0 m pc ls (.int (nI d) :: .int (nI a) :: rest)) :=
  lv_icmp_ge hx hb hdg ht (fun h => kt ((nI_leI hd ha).mp h)) (fun h => kf (Nat.not_le.mp (fun q => h ((nI_leI hd ha).mpr q))))
theorem nv_icmp_lt (hx : p.tables.exec = Jvm.exec) (hb : c.code = cc) {a d : Nat} {off : Int} {tgt : Nat} (hdg : decode cc pc = .ok (.if_icmp .lt off, 3)) (ht : (pc : Int) + off = (tgt : Int)) (ha : a < 2 ^ 31) (hd : d < 2 ^ 31)
    (kt : a < d → W p l e R s m args below meth c H locs cells slots Q (F0 m tgt ls rest)) (kf : d ≤ a → W p l e R s m args below meth c H locs cells slots Q (F0 m (pc + 3) ls rest)) : W p l e R s m args below meth c H locs cells slots Q (F0 m pc ls (.int (nI d) :: .int (nI a) :: rest)) :=
  lv_icmp_lt hx hb hdg ht (fun h => kt ((nI_ltI ha hd).mp h)) (fun h => kf (Nat.not_lt.mp (fun q => h ((nI_ltI ha hd).mpr q))))
theorem nv_icmp_gt (hx : p.tables.exec = Jvm.exec) (hb : c.code = cc) {a d : Nat} {off : Int} {tgt : Nat} (hdg : decode cc pc = .ok (.if_icmp .gt off, 3)) (ht : (pc : Int) + off = (tgt : Int)) (ha : a < 2 ^ 31) (hd : d < 2 ^ 31)
    (kt : d < a → W p l e R s m args below meth c H locs cells slots Q (F0 m tgt ls rest)) (kf : a ≤ d → W p l e R s m args below meth c H locs cells slots Q (F0 m (pc + 3) ls rest)) : W p l e R s m args below meth c H locs cells slots Q (F0 m pc ls (.int (nI d) :: .int (nI a) :: rest)) :=
  lv_icmp_gt hx hb hdg ht (fun h => kt ((nI_ltI hd ha).mp h)) (fun h => kf (Nat.not_lt.mp (fun q => h ((nI_ltI hd ha).mpr q))))
theorem nv_icmp_le (hx : p.tables.exec = Jvm.exec) (hb : c.code = cc) {a d : Nat} {off : Int} {tgt : Nat} (hdg : decode cc pc = .ok (.if_icmp .le off, 3)) (ht : (pc : Int) + off = (tgt : Int)) (ha : a < 2 ^ 31) (hd : d < 2 ^ 31)
    (kt : a ≤ d → W p l e R s m args below meth c H locs cells slots Q (F0 m tgt ls rest)) (kf : d < a → W p l e R s m args below meth c H locs cells slots Q (F0 m (pc + 3) ls rest)) : W p l e R s m args below meth c H locs cells slots Q (F0 m pc ls (.int (nI d) :: .int (nI a) :: rest)) :=
  lv_icmp_le hx hb hdg ht (fun h => kt ((nI_leI ha hd).mp h)) (fun h => kf (Nat.not_le.mp (fun q => h ((nI_leI ha hd).mpr q))))
theorem bI_t : bI true = 1 := rfl
theorem bI_f : bI false = 0 := rfl
theorem bI_0 {b : Bool} : bI b = 0 ↔ b = false := by cases b <;> simp [bI]
theorem bI_1 {b : Bool} : bI b = 1 ↔ b = true := by cases b <;> simp [bI]
theorem bI_inj {a b : Bool} : bI a = bI b ↔ a = b := by cases a <;> cases b <;> simp [bI]
theorem nv_ifz_eq (hx : p.tables.exec = Jvm.exec) (hb : c.code = cc) {b : Bool} {off : Int} {tgt : Nat} (hdg : decode cc pc = .ok (.ifCond .eq off, 3)) (ht : (pc : Int) + off = (tgt : Int))
    (kt : b = false → W p l e R s m args below meth c H locs cells slots Q (F0 m tgt ls rest)) (kf : b = true → W p l e R s m args below meth c H locs cells slots Q (F0 m (pc + 3) ls rest)) : W p l e R s m args below meth c H locs cells slots Q (F0 m pc ls (.int (bI b) :: rest)) :=
  lv_if_eq hx hb hdg ht (fun h => kt (bI_0.mp h)) (fun h => kf (by cases b with | true => rfl | false => exact absurd rfl h))
theorem nv_ifz_ne (hx : p.tables.exec = Jvm.exec) (hb : c.code = cc) {b : Bool} {off : Int} {tgt : Nat} (hdg : decode cc pc = .ok (.ifCond .ne off, 3)) (ht : (pc : Int) + off = (tgt : Int))
    (kt : b = true → W p l e R s m args below meth c H locs cells slots Q (F0 m tgt ls rest)) (kf : b = false → W p l e R s m args below meth c H locs cells slots Q (F0 m (pc + 3) ls rest)) : W p l e R s m args below meth c H locs cells slots Q (F0 m pc ls (.int (bI b) :: rest)) :=
  lv_if_ne hx hb hdg ht (fun h => kt (by cases b with | true => rfl | false => exact absurd rfl h)) (fun h => kf (bI_0.mp h))
end BASE
