/-! THE CLAIM OUT OF ONE WALK OF THE LAW'S BODY. Your part is whole_start (and what it stands on); all else here is the same for every law, but numbers. -/
def R_law : String := "SevenKeysLaw"
def lw_P (b : Addr) (xs : List Int32) (args : Array Value) (s : State) : Prop := args = #[.ref b] ∧ s.IntsAt b xs ∧ xs.length ≤ 2560 ∧ (Jvm.Cond.and given_1 narrow_1).before args s = true
def lw_Q (_ : Array Value) (s : State) (o : Outcome) (t : State) : Prop := o = .returned (some (.int 1)) ∧ Framed s o t [] 20 78915
def lw_Z (below : List Frame) (a : Array Value) (s : State) : State → Prop := fun t => ∃ o, t.status = .running ∧ Ended t below o ∧ lw_Q a s o t
/-- the law's own end, with 1 on the stack, nothing written that was there before, its room as the claim has it -/
theorem lw_ret {p : Program} {l : Launch} {e : Env} {s : State} {m : MethodId} {below : List Frame} {meth : Method} {c : Code} {b : Nat} (hx : p.tables.exec = Jvm.exec) (hb : c.code = code) (hr : meth.sig.returnType = ret) (hlocks : meth.locks = false) {pc : Nat} {H : Heap} {ls : Array Slot} (hdg : decode code pc = .ok (.ireturn, 1)) : W p l e room_1 s m #[Value.ref b] below meth c H [] 20 78915 (lw_Z below #[Value.ref b] s) (F0 m pc ls [.int 1]) := by
  intro T hT X
  obtain ⟨fs, hret, hrun, hended, hW, hframe⟩ := X.leave (v := some (.int 1)) (hlocks := hlocks) (fun h => by rw [hr] at h; cases h)
  have hmeth' : T.vm.method? m = some meth := X.method'
  refine ⟨T.setFrames fs, ?_, .returned (some (.int 1)), hrun, hended, rfl, ⟨_, rfl⟩, hW, hframe⟩
  jvm_step X.here [X.here.top, hx, hb, hdg, hmeth', hr, ret, narrow_b1]
  (try refine ⟨rfl, ?_⟩); (try refine ⟨rfl, ?_⟩)
  first | (intro acts; rw [hret _ acts rfl rfl rfl]) | rw [hret _ _ rfl rfl rfl]
  exact Steps.refl _
/-- what holds at the law's entry: the machine, the code, the tables' words (any of lw_tbl by 'hts w (by decide +kernel)'), the script of L ints xs at the cell b, what the Statement gives of the start (any of its parts by flat_of_before) -/
def lw_At (p : Program) (s : State) (m : MethodId) (meth : Method) (c : Code) (b L : Nat) (xs : Nat → Int32) : Prop :=
  p.tables.exec = Jvm.exec ∧ c.code = code ∧ meth.sig.returnType = ret ∧ c.maxLocals = 4 ∧ s.vm.findClass R_law = some m.cls ∧ (∀ w ∈ lw_tbl, w.before #[Value.ref b] s = true) ∧ va_X b L xs s s.heap ∧ b < s.heap.size ∧ meth.locks = false ∧ (Jvm.Cond.and given_1 narrow_1).before #[Value.ref b] s = true

/-! the law's own world: both objects, apart; what each call leaves as it was -/
def AL (s : State) (q : Nat) : Prop := s.heap.size ≤ q
theorem XS.kept {D : va_G} {cI : ClassId} {ρ μ : Nat → Nat} {σ : Nat → Nat → Bool} {κ : Int32} {H H1 : Heap} (h : XS D cI ρ σ κ H) (hk : ∀ q : Nat, q < H.size → ¬ xA 13 μ q → H1[q]? = H[q]?) (hd : ∀ i j, i < 7 → j < 13 → ρ i ≠ μ j) : XS D cI ρ σ κ H1 := by
  obtain ⟨mk, qu, held, hR, hP⟩ := h
  refine ⟨mk, qu, held, hR, hP.kept fun k q hq => ?_⟩
  exact hk q.1 (hP k q hq).lt (fun ⟨j, hj, e⟩ => hd k j (XW_at k q hq).1 hj ((XW_at k q hq).2.symm.trans e))
theorem MSK.kept {D : va_G} {cI cZ : ClassId} {ρ μ : Nat → Nat} {σ : Nat → Nat → Bool} {kp : Nat → Bool} {H H1 : Heap} (h : MSK D cI cZ μ σ kp H) (hk : ∀ q : Nat, q < H.size → ¬ xA 7 ρ q → H1[q]? = H[q]?) (hd : ∀ i j, i < 7 → j < 13 → ρ i ≠ μ j) : MSK D cI cZ μ σ kp H1 := by
  obtain ⟨M, V, h5, h1, h2, h3, hP⟩ := h
  refine ⟨M, V, h5, h1, h2, h3, hP.kept fun k q hq => ?_⟩
  exact hk q.1 (hP k q hq).lt (fun ⟨j, hj, e⟩ => hd j k hj (MW_at k q hq).1 (((MW_at k q hq).2.symm.trans e).symm))
theorem MS.toK {D : va_G} {cI cZ : ClassId} {μ : Nat → Nat} {σ : Nat → Nat → Bool} {kp : Nat → Bool} {k5 : Nat → Int32} {H : Heap} (h : MS D cI cZ μ σ k5 H) (hk : ∀ j, j < 2 → k5 j = bI (kp j)) : MSK D cI cZ μ σ kp H := by
  obtain ⟨M, V, h5, hP⟩ := h
  exact ⟨M, V, by rw [h5]; exact hk, hP⟩
/-- what of the start a SevenKeys needs, under a larger A -/
def XKL (D : va_G) (cI cZ : ClassId) (ρ : Nat → Nat) (ts : Nat) (A : Nat → Prop) (s : State) : Prop := KK D cI cZ s ∧ In7 7 ρ ∧ (∀ i, i < 7 → A (ρ i)) ∧ va_Z RX0 "SIDE_STEPS" "[I" (.ref ts) A s s.heap ∧ va_T .int ts 7 (fun j => .int (stF j)) A s s.heap ∧ va_Nw (.methodLinkNest RX0 31 yX1_valueAt "SevenKeys") s ∧ va_Nw (.methodLinkNest RX0 42 yX1_within "SevenKeys") s
theorem XKL.sub {D : va_G} {cI cZ : ClassId} {ρ : Nat → Nat} {ts : Nat} {A : Nat → Prop} {s : State} (h : XKL D cI cZ ρ ts A s) : ∀ q, xA 7 ρ q → A q := fun _ ⟨i, hi, e⟩ => by rw [e]; exact h.2.2.1 i hi
theorem XKL.K {D : va_G} {cI cZ : ClassId} {ρ : Nat → Nat} {ts : Nat} {A : Nat → Prop} {s : State} (h : XKL D cI cZ ρ ts A s) : XK D cI cZ ρ ts s s.heap := ⟨h.1, h.2.1, h.2.2.2.1.narrow h.sub, h.2.2.2.2.1.narrow h.sub, h.2.2.2.2.2.1, h.2.2.2.2.2.2⟩
theorem XKL.at {D : va_G} {cI cZ : ClassId} {ρ : Nat → Nat} {ts : Nat} {A : Nat → Prop} {s : State} {H : Heap} {locs : List Loc} {σ : Nat → Nat → Bool} {κ : Int32} {mk qu : Nat → Int32} (h : XKL D cI cZ ρ ts A s) (hS : va_S A s.heap H locs) (hP : XP D cI ρ σ κ mk qu H) : ∀ U : State, U.heap = H → s.WarmedH U.vm → XB D cI cZ ρ ts σ κ mk qu U := by
  intro U hU hW
  obtain ⟨h1, h2, h3, h4, h5, h6, h7⟩ := id h
  refine ⟨by rw [hU]; exact hP, ?_⟩
  rw [hU]
  exact ⟨va_K.moved hW.alike h1, h2, va_Z.moved hW.alike ((h4.kept hS.2.1).narrow h.sub), va_T.moved hW.alike ((h5.kept hS.2.1).narrow h.sub), va_Nw.warmM hW h6, va_Nw.warmM hW h7⟩
theorem nv_sld {p : Program} {l : Launch} {e : Env} {R : Room} {s : State} {m : MethodId} {args : Array Value} {below : List Frame} {meth : Method} {c : Code} {H : Heap} {locs : List Loc} {cells slots : Nat} {Q : State → Prop} {cc : ByteArray} {pc : Nat} {ls : Array Slot} {rest : List Value} {A : Nat → Prop} {b L : Nat} {xs : Nat → Int32} (hx : p.tables.exec = Jvm.exec) (hb : c.code = cc) (hX : va_X b L xs s s.heap) (hbl : b < s.heap.size) (hbA : ¬ A b) (hS : va_S A s.heap H locs) {i : Nat} (hi : i < L) (hL : L ≤ 2560) (hdg : decode cc pc = .ok (.iaload, 1))
    (kk : W p l e R s m args below meth c H locs cells slots Q (F0 m (pc + 1) ls (.int (xs i) :: rest))) : W p l e R s m args below meth c H locs cells slots Q (F0 m pc ls (.int (nI i) :: .ref b :: rest)) := by
  refine va_sld hx hb hX hbl hbA hS (vp_in_nI hi (by omega)) hdg ?_
  rw [nI_clamp (by omega)]
  exact kk
theorem five_le {L t : Nat} (hL : L ≤ 2560) (ht : 5 * t ≤ 2565) (h : ¬ nI L - nI 5 < nI (5 * t)) : 5 * t + 5 ≤ L := by
  rw [fa_lt, pk_sub_toInt (by omega) (by omega), nI_toInt (by omega)] at h
  omega
theorem sw_20 (x : Int32) : (∃ n : Nat, n < 21 ∧ x &&& nI 31 = nI n) ∨ ((x &&& nI 31).toInt < 0 ∨ 20 < (x &&& nI 31).toInt) := by
  obtain ⟨n, hn, e⟩ := pk_andE x (m := nI 31) 5 (by decide)
  rcases Nat.lt_or_ge n 21 with q | q
  · exact Or.inl ⟨n, q, e⟩
  · refine Or.inr (Or.inr ?_)
    rw [e, nI_toInt (by omega)]
    omega
theorem inc5 (t : Nat) : nI (5 * t) + Int32.ofInt 5 = nI (5 * (t + 1)) := by
  show nI (5 * t) + nI 5 = _
  rw [nI_add]
  rfl
