/-! the two worlds: SevenKeys at ρ 0 (its sheet, held, marks, queue, cells, keys at ρ 1 .. ρ 6), the model at μ 0 (its twelve rows at μ 1 .. μ 12) -/
abbrev KK (D : va_G) (cI cZ : ClassId) (U : State) : Prop := va_K D vwCl [(cI, .int), (cZ, .boolean)] U
def In7 (n : Nat) (ρ : Nat → Nat) : Prop := ∀ i j : Nat, i < n → j < n → ρ i = ρ j → i = j
def xA (n : Nat) (ρ : Nat → Nat) (a : Nat) : Prop := ∃ i : Nat, i < n ∧ a = ρ i
abbrev xW (cI : ClassId) (ρ : Nat → Nat) (held : Nat → Int32) (κ : Int32) (mk qu : Nat → Int32) : va_W :=
  [(ρ 0, .inr (1, [.ref (ρ 1), .ref (ρ 2), .int κ, .ref (ρ 3), .ref (ρ 4)])), (ρ 1, .inr (0, [.ref (ρ 5), .ref (ρ 6)])), (ρ 2, .inl (cI, 2401, .inl held)), (ρ 3, .inl (cI, 2401, .inl mk)), (ρ 4, .inl (cI, 2401, .inl qu)), (ρ 5, .inl (cI, 2401, .inl cellF)), (ρ 6, .inl (cI, 4225, .inl keyF))]
abbrev mW (cI cZ : ClassId) (μ : Nat → Nat) (M : Nat → Nat → Int32) (V : Nat → Int32) : va_W :=
  [(μ 0, .inr (2, [.ref (μ 1), .ref (μ 2), .ref (μ 3), .ref (μ 4), .ref (μ 5), .ref (μ 6), .ref (μ 7), .ref (μ 8), .ref (μ 9), .int (V 0), .ref (μ 10), .ref (μ 11), .ref (μ 12), .int (V 1), .int (V 2)])),
   (μ 1, .inl (cI, 2401, .inl (M 1))), (μ 2, .inl (cI, 2401, .inl (M 2))), (μ 3, .inl (cI, 14641, .inl (M 3))), (μ 4, .inl (cZ, 28812, .inl (M 4))), (μ 5, .inl (cZ, 2, .inl (M 5))), (μ 6, .inl (cZ, 2401, .inl (M 6))), (μ 7, .inl (cZ, 2401, .inl (M 7))), (μ 8, .inl (cI, 2401, .inl (M 8))), (μ 9, .inl (cI, 2401, .inl (M 9))), (μ 10, .inl (cI, 2401, .inl (M 10))), (μ 11, .inl (cI, 2401, .inl (M 11))), (μ 12, .inl (cI, 2401, .inl (M 12)))]
/-- σ s k: whether the hex k is of the set s (0 to 3: the slots; 4 to 7: image 0; 8 to 11: image 1) -/
def RelX (held : Nat → Int32) (σ : Nat → Nat → Bool) : Prop := ∀ k : Nat, k < 2401 → ∀ i : Nat, i < 32 → bt (held k) i = (decide (i < 12) && σ i k)
def RelM (sets : Nat → Int32) (σ : Nat → Nat → Bool) : Prop := ∀ s k : Nat, s < 12 → k < 2401 → sets (2401 * s + k) = bI (σ s k)
def XP (D : va_G) (cI : ClassId) (ρ : Nat → Nat) (σ : Nat → Nat → Bool) (κ : Int32) (mk qu : Nat → Int32) (H : Heap) : Prop := ∃ held : Nat → Int32, RelX held σ ∧ va_P D vwCl (xW cI ρ held κ mk qu) H
def stF (d : Nat) : Int32 := iI (65 * sA d + sB d)
def XK (D : va_G) (cI cZ : ClassId) (ρ : Nat → Nat) (ts : Nat) (U : State) (H : Heap) : Prop := KK D cI cZ U ∧ In7 7 ρ ∧ va_Z RX0 "SIDE_STEPS" "[I" (.ref ts) (xA 7 ρ) U H ∧ va_T .int ts 7 (fun j => .int (stF j)) (xA 7 ρ) U H ∧ va_Nw (.methodLinkNest RX0 31 yX1_valueAt "SevenKeys") U ∧ va_Nw (.methodLinkNest RX0 42 yX1_within "SevenKeys") U
def XB (D : va_G) (cI cZ : ClassId) (ρ : Nat → Nat) (ts : Nat) (σ : Nat → Nat → Bool) (κ : Int32) (mk qu : Nat → Int32) (U : State) : Prop := XP D cI ρ σ κ mk qu U.heap ∧ XK D cI cZ ρ ts U U.heap
theorem XW_at {cI : ClassId} {ρ : Nat → Nat} {held : Nat → Int32} {κ : Int32} {mk qu : Nat → Int32} : ∀ (i : Nat) (q : Nat × va_E), (xW cI ρ held κ mk qu)[i]? = some q → i < 7 ∧ q.1 = ρ i := by
  intro i q h
  match i, h with
  | 0, h => cases h; exact ⟨by omega, rfl⟩
  | 1, h => cases h; exact ⟨by omega, rfl⟩
  | 2, h => cases h; exact ⟨by omega, rfl⟩
  | 3, h => cases h; exact ⟨by omega, rfl⟩
  | 4, h => cases h; exact ⟨by omega, rfl⟩
  | 5, h => cases h; exact ⟨by omega, rfl⟩
  | 6, h => cases h; exact ⟨by omega, rfl⟩
  | i + 7, h => simp [xW] at h
theorem MW_at {cI cZ : ClassId} {μ : Nat → Nat} {M : Nat → Nat → Int32} {V : Nat → Int32} : ∀ (i : Nat) (q : Nat × va_E), (mW cI cZ μ M V)[i]? = some q → i < 13 ∧ q.1 = μ i := by
  intro i q h
  match i, h with
  | 0, h => cases h; exact ⟨by omega, rfl⟩
  | 1, h => cases h; exact ⟨by omega, rfl⟩
  | 2, h => cases h; exact ⟨by omega, rfl⟩
  | 3, h => cases h; exact ⟨by omega, rfl⟩
  | 4, h => cases h; exact ⟨by omega, rfl⟩
  | 5, h => cases h; exact ⟨by omega, rfl⟩
  | 6, h => cases h; exact ⟨by omega, rfl⟩
  | 7, h => cases h; exact ⟨by omega, rfl⟩
  | 8, h => cases h; exact ⟨by omega, rfl⟩
  | 9, h => cases h; exact ⟨by omega, rfl⟩
  | 10, h => cases h; exact ⟨by omega, rfl⟩
  | 11, h => cases h; exact ⟨by omega, rfl⟩
  | 12, h => cases h; exact ⟨by omega, rfl⟩
  | i + 13, h => simp [mW] at h
theorem In7.D {n : Nat} {ρ : Nat → Nat} {ws : va_W} (hI : In7 n ρ) (hw : ∀ (i : Nat) (q : Nat × va_E), ws[i]? = some q → i < n ∧ q.1 = ρ i) : va_D (xA n ρ) ws :=
  ⟨fun i j p q h1 h2 h3 => hI i j (hw i p h1).1 (hw j q h2).1 (by rw [← (hw i p h1).2, ← (hw j q h2).2]; exact h3), fun k q h => ⟨k, (hw k q h).1, (hw k q h).2⟩⟩
theorem XK.D {D : va_G} {cI cZ : ClassId} {ρ : Nat → Nat} {ts : Nat} {U : State} {H : Heap} (h : XK D cI cZ ρ ts U H) {held : Nat → Int32} {κ : Int32} {mk qu : Nat → Int32} : va_D (xA 7 ρ) (xW cI ρ held κ mk qu) := h.2.1.D XW_at
theorem XK.hb {D : va_G} {cI cZ : ClassId} {ρ : Nat → Nat} {ts : Nat} {U V : State} {H : Heap} (hv : U.vm = V.vm) (h : XK D cI cZ ρ ts U H) : XK D cI cZ ρ ts V H := by
  obtain ⟨h1, h2, h3, h4, h5, h6⟩ := h
  have ha : U.vm.Alike V.vm := by rw [hv]; exact Vm.Alike.refl _
  exact ⟨va_K.moved ha h1, h2, va_Z.moved ha h3, va_T.moved ha h4, va_Nw.same rfl hv h5, va_Nw.same rfl hv h6⟩
theorem XK.at {D : va_G} {cI cZ : ClassId} {ρ : Nat → Nat} {ts : Nat} {s U : State} {H : Heap} {locs : List Loc} (h : XK D cI cZ ρ ts s s.heap) (hS : va_S (xA 7 ρ) s.heap H locs) (hW : s.WarmedH U.vm) : XK D cI cZ ρ ts U H := by
  obtain ⟨h1, h2, h3, h4, h5, h6⟩ := h
  exact ⟨va_K.moved hW.alike h1, h2, va_Z.moved hW.alike (h3.kept hS.2.1), va_T.moved hW.alike (h4.kept hS.2.1), va_Nw.warmM hW h5, va_Nw.warmM hW h6⟩
theorem XB.hb {D : va_G} {cI cZ : ClassId} {ρ : Nat → Nat} {ts : Nat} {σ : Nat → Nat → Bool} {κ : Int32} {mk qu : Nat → Int32} : HB (XB D cI cZ ρ ts σ κ mk qu) := by
  intro U V hh hv h
  refine ⟨by rw [← hh]; exact h.1, ?_⟩
  rw [← hh]
  exact h.2.hb hv
theorem XB.at {D : va_G} {cI cZ : ClassId} {ρ : Nat → Nat} {ts : Nat} {s : State} {H : Heap} {locs : List Loc} {σ : Nat → Nat → Bool} {κ : Int32} {mk qu : Nat → Int32} (h : XK D cI cZ ρ ts s s.heap) (hS : va_S (xA 7 ρ) s.heap H locs) (hP : XP D cI ρ σ κ mk qu H) : ∀ U : State, U.heap = H → s.WarmedH U.vm → XB D cI cZ ρ ts σ κ mk qu U := by
  intro U hU hW
  refine ⟨by rw [hU]; exact hP, ?_⟩
  rw [hU]
  exact h.at hS hW
theorem XP.rc0 {D : va_G} {cI cZ : ClassId} {ρ : Nat → Nat} {ts : Nat} {s : State} {H H0 : Heap} {held : Nat → Int32} {κ : Int32} {mk qu : Nat → Int32} (h : XK D cI cZ ρ ts s H0) (hP : va_P D vwCl (xW cI ρ held κ mk qu) H) : ∃ cell : Cell, H[ρ 0]? = some cell ∧ cell.vm.isStatics = false ∧ s.vm.findClass RX1 = some cell.cls := va_recv h.1 hP (ci := 1) (q0 := 0) rfl rfl
theorem XP.rc1 {D : va_G} {cI cZ : ClassId} {ρ : Nat → Nat} {ts : Nat} {s : State} {H H0 : Heap} {held : Nat → Int32} {κ : Int32} {mk qu : Nat → Int32} (h : XK D cI cZ ρ ts s H0) (hP : va_P D vwCl (xW cI ρ held κ mk qu) H) : ∃ cell : Cell, H[ρ 1]? = some cell ∧ cell.vm.isStatics = false ∧ s.vm.findClass RX0 = some cell.cls := va_recv h.1 hP (ci := 0) (q0 := 1) rfl rfl
/-! the model's world -/
def MP (D : va_G) (cI cZ : ClassId) (μ : Nat → Nat) (σ : Nat → Nat → Bool) (M : Nat → Nat → Int32) (V : Nat → Int32) (H : Heap) : Prop := RelM (M 4) σ ∧ (∀ k, k < 2401 → M 1 k = iI (ptA k) ∧ M 2 k = iI (ptB k)) ∧ M 3 = keyG ∧ va_P D vwCl (mW cI cZ μ M V) H
def MK (D : va_G) (cI cZ : ClassId) (μ : Nat → Nat) (U : State) : Prop := KK D cI cZ U ∧ In7 13 μ
def MB (D : va_G) (cI cZ : ClassId) (μ : Nat → Nat) (σ : Nat → Nat → Bool) (M : Nat → Nat → Int32) (V : Nat → Int32) (U : State) : Prop := MP D cI cZ μ σ M V U.heap ∧ MK D cI cZ μ U
theorem MK.D {D : va_G} {cI cZ : ClassId} {μ : Nat → Nat} {U : State} (h : MK D cI cZ μ U) {M : Nat → Nat → Int32} {V : Nat → Int32} : va_D (xA 13 μ) (mW cI cZ μ M V) := h.2.D MW_at
theorem MB.hb {D : va_G} {cI cZ : ClassId} {μ : Nat → Nat} {σ : Nat → Nat → Bool} {M : Nat → Nat → Int32} {V : Nat → Int32} : HB (MB D cI cZ μ σ M V) := by
  intro U V' hh hv h
  have ha : U.vm.Alike V'.vm := by rw [hv]; exact Vm.Alike.refl _
  exact ⟨by rw [← hh]; exact h.1, va_K.moved ha h.2.1, h.2.2⟩
theorem MB.at {D : va_G} {cI cZ : ClassId} {μ : Nat → Nat} {s : State} {H : Heap} {σ : Nat → Nat → Bool} {M : Nat → Nat → Int32} {V : Nat → Int32} (h : MK D cI cZ μ s) (hP : MP D cI cZ μ σ M V H) : ∀ U : State, U.heap = H → s.WarmedH U.vm → MB D cI cZ μ σ M V U := fun U hU hW => ⟨by rw [hU]; exact hP, va_K.moved hW.alike h.1, h.2⟩
theorem MP.rc0 {D : va_G} {cI cZ : ClassId} {μ : Nat → Nat} {s : State} {H : Heap} {M : Nat → Nat → Int32} {V : Nat → Int32} (h : MK D cI cZ μ s) (hP : va_P D vwCl (mW cI cZ μ M V) H) : ∃ cell : Cell, H[μ 0]? = some cell ∧ cell.vm.isStatics = false ∧ s.vm.findClass RX2 = some cell.cls := va_recv h.1 hP (ci := 2) (q0 := 0) rfl rfl
/-! rows by Nat places -/
section ROWS
variable {p : Program} {l : Launch} {e : Env} {R : Room} {s : State} {m : MethodId} {args : Array Value} {below : List Frame} {meth : Method} {c : Code} {H : Heap} {locs : List Loc} {cells slots : Nat} {Q : State → Prop}
variable {cc : ByteArray} {pc : Nat} {ls : Array Slot} {rest : List Value} {D : va_G} {cl : List vw_C} {A : Nat → Prop} {a : Nat} {tys : List (ClassId × FieldType)} {ws : va_W} {H0 : Heap}
theorem nv_iald (hx : p.tables.exec = Jvm.exec) (hb : c.code = cc) (hK : va_K D cl tys s) (hP : va_P D cl ws H) (q0 t0 : Nat) {cA : ClassId} {n : Nat} {f : Nat → Int32} (ha : ws[q0]? = some (a, .inl (cA, n, .inl f))) (ht : tys[t0]? = some (cA, .int)) {i : Nat} (hin : i < n) (hn : n < 2 ^ 31) (hdg : decode cc pc = .ok (.iaload, 1))
    (kk : W p l e R s m args below meth c H locs cells slots Q (F0 m (pc + 1) ls (.int (f i) :: rest))) : W p l e R s m args below meth c H locs cells slots Q (F0 m pc ls (.int (nI i) :: .ref a :: rest)) := by
  refine va_iald hx hb hK hP q0 t0 ha ht (vp_in_nI hin hn) hdg ?_
  rw [nI_clamp (Nat.lt_trans hin hn)]
  exact kk
theorem nv_zald (hx : p.tables.exec = Jvm.exec) (hb : c.code = cc) (hK : va_K D cl tys s) (hP : va_P D cl ws H) (q0 t0 : Nat) {cA : ClassId} {n : Nat} {f : Nat → Int32} (ha : ws[q0]? = some (a, .inl (cA, n, .inl f))) (ht : tys[t0]? = some (cA, .boolean)) {i : Nat} (hin : i < n) (hn : n < 2 ^ 31) (hdg : decode cc pc = .ok (.baload, 1))
    (kk : W p l e R s m args below meth c H locs cells slots Q (F0 m (pc + 1) ls (.int (f i) :: rest))) : W p l e R s m args below meth c H locs cells slots Q (F0 m pc ls (.int (nI i) :: .ref a :: rest)) := by
  refine va_zald hx hb hK hP q0 t0 ha ht (vp_in_nI hin hn) hdg ?_
  rw [nI_clamp (Nat.lt_trans hin hn)]
  exact kk
theorem nv_iast (hx : p.tables.exec = Jvm.exec) (hb : c.code = cc) (hK : va_K D cl tys s) (hP : va_P D cl ws H) (hD : va_D A ws) (hS : va_S A H0 H locs) (q0 t0 : Nat) {cA : ClassId} {n : Nat} {f : Nat → Int32} (ha : ws[q0]? = some (a, .inl (cA, n, .inl f))) (ht : tys[t0]? = some (cA, .int)) {i : Nat} {x : Int32} (hin : i < n) (hn : n < 2 ^ 31) (hdg : decode cc pc = .ok (.iastore, 1))
    (kk : ∀ (H1 : Heap) (locs1 : List Loc), va_P D cl (ws.set q0 (a, .inl (cA, n, .inl (upd f i x)))) H1 → va_S A H0 H1 locs1 → W p l e R s m args below meth c H1 locs1 cells slots Q (F0 m (pc + 1) ls rest)) : W p l e R s m args below meth c H locs cells slots Q (F0 m pc ls (.int x :: .int (nI i) :: .ref a :: rest)) := by
  refine va_iast hx hb hK hP hD hS q0 t0 ha ht (vp_in_nI hin hn) hdg fun H1 locs1 h1 _ h3 => ?_
  rw [nI_clamp (Nat.lt_trans hin hn)] at h1
  exact kk H1 locs1 h1 h3
theorem nar_bI (b : Bool) : vp_nar .boolean (bI b) = bI b := by cases b <;> rfl
theorem nv_zast (hx : p.tables.exec = Jvm.exec) (hb : c.code = cc) (hK : va_K D cl tys s) (hP : va_P D cl ws H) (hD : va_D A ws) (hS : va_S A H0 H locs) (q0 t0 : Nat) {cA : ClassId} {n : Nat} {f : Nat → Int32} (ha : ws[q0]? = some (a, .inl (cA, n, .inl f))) (ht : tys[t0]? = some (cA, .boolean)) {i : Nat} {x : Bool} (hin : i < n) (hn : n < 2 ^ 31) (hdg : decode cc pc = .ok (.bastore, 1))
    (kk : ∀ (H1 : Heap) (locs1 : List Loc), va_P D cl (ws.set q0 (a, .inl (cA, n, .inl (upd f i (bI x))))) H1 → va_S A H0 H1 locs1 → W p l e R s m args below meth c H1 locs1 cells slots Q (F0 m (pc + 1) ls rest)) : W p l e R s m args below meth c H locs cells slots Q (F0 m pc ls (.int (bI x) :: .int (nI i) :: .ref a :: rest)) := by
  refine va_zast hx hb hK hP hD hS q0 t0 ha ht (vp_in_nI hin hn) hdg fun H1 locs1 h1 _ h3 => ?_
  rw [nI_clamp (Nat.lt_trans hin hn), nar_bI] at h1
  exact kk H1 locs1 h1 h3
end ROWS
theorem inc_nI (t : Nat) : nI t + Int32.ofInt 1 = nI (t + 1) := nI_1 t
theorem dec_nI (t : Nat) : nI (t + 1) + Int32.ofInt (-1) = nI t := pk_m1 t
