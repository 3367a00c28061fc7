/-! Arrays.fill, marks and the queue -/
theorem cell_cg {cI : ClassId} {n : Nat} {f g : Nat → Int32} (h : ∀ j, j < n → f j = g j) : vp_cell cI (n, .inl f) = vp_cell cI (n, .inl g) := by
  have e : (fun j : Fin n => (Value.int (f j.val))) = (fun j : Fin n => (Value.int (g j.val))) := by
    funext j
    rw [h j.val j.isLt]
  show arrV cI n (fun j => .int (f j)) = arrV cI n (fun j => .int (g j))
  unfold arrV
  rw [e]
def FB (D : va_G) (cI cZ : ClassId) (a n : Nat) (f : Nat → Int32) (U : State) : Prop := va_P D vwCl [(a, .inl (cI, n, .inl f))] U.heap ∧ KK D cI cZ U
theorem FB.hb {D : va_G} {cI cZ : ClassId} {a n : Nat} {f : Nat → Int32} : HB (FB D cI cZ a n f) := by
  intro U V hh hv h
  have ha : U.vm.Alike V.vm := by rw [hv]; exact Vm.Alike.refl _
  exact ⟨by rw [← hh]; exact h.1, va_K.moved ha h.2⟩
theorem FB.at {D : va_G} {cI cZ : ClassId} {a n : Nat} {f : Nat → Int32} {s : State} {H : Heap} {ws : va_W} (hK : KK D cI cZ s) (hP : va_P D vwCl ws H) (q0 : Nat) (ha : ws[q0]? = some (a, .inl (cI, n, .inl f))) : ∀ U : State, U.heap = H → s.WarmedH U.vm → FB D cI cZ a n f U := by
  intro U hU hW
  refine ⟨?_, va_K.moved hW.alike hK⟩
  rw [hU]
  intro k q h
  match k, h with
  | 0, h => cases h; exact hP q0 _ ha
  | k + 1, h => simp at h
theorem D_one {a : Nat} {e : va_E} : va_D (fun q => q = a) [(a, e)] := by
  refine ⟨fun i j p q h1 h2 _ => ?_, fun k q h => ?_⟩
  · match i, j, h1, h2 with
    | 0, 0, _, _ => rfl
    | i + 1, _, h1, _ => simp at h1
    | _, j + 1, _, h2 => simp at h2
  · match k, h with
    | 0, h => cases h; rfl
    | k + 1, h => simp at h
theorem nf_J7_fill_53178 : nfOk yJ7_fill_53178 2 := by unfold nfOk; decide +kernel
set_option maxHeartbeats 4000000 in
set_option maxRecDepth 100000 in
theorem c_J7_fill_53178 (l : Launch) (D : va_G) (cI cZ : ClassId) (a n : Nat) (f : Nat → Int32) (v : Int32) (hn : n < 2 ^ 31) : Wr l yJ7_fill_53178 wsJ7_fill_53178 ({ frames := 0, cells := 0, slots := 0, locals := 0 }) [.ref a, .int v] (FB D cI cZ a n f) none (fun H => va_P D vwCl [(a, .inl (cI, n, .inl (fun _ => v)))] H) (fun q => q = a) := by
  refine met_in RJ7 (by decide) rfl rfl (Nat.le_of_ble_eq_true rfl) ?_
  intro p e s m below meth c ls S hr hlocks hl hB
  have hx := S.1
  have hb := S.2.1
  have hl : lv_has ls 4 [(0, .ref a), (1, .int v)] := hl
  obtain ⟨hP, hK⟩ := hB
  have hS : va_S (fun q => q = a) s.heap s.heap [] := va_S.rf
  refine lv_iconst (v := nI 0) hx hb dJ7_fill_53178_0 (by decide) ?_
  refine lv_istore_n (lv' := [(2, .int (nI 0)), (0, .ref a), (1, .int v)]) hx hb dJ7_fill_53178_1 rfl hl (by decide) rfl (fun ls hl => ?_)
  refine lv_aload_n hx hb dJ7_fill_53178_2 rfl (lv_at hl 1 rfl) ?_
  refine va_alen hx hb hK hP 0 0 rfl rfl (v := nI n) rfl dJ7_fill_53178_3 ?_
  refine lv_istore_n (lv' := [(3, .int (nI n)), (2, .int (nI 0)), (0, .ref a), (1, .int v)]) hx hb dJ7_fill_53178_4 rfl hl (by decide) rfl (fun ls hl => ?_)
  have loop : ∀ (t : Nat) (i : Nat) (g : Nat → Int32), i ≤ n → (∀ j, j < i → g j = v) → n - i < t → ∀ (H : Heap) (locs : List Loc), va_S (fun q => q = a) s.heap H locs → va_P D vwCl [(a, .inl (cI, n, .inl g))] H → ∀ ls : Array Slot, lv_has ls 4 [(0, .ref a), (1, .int v), (2, .int (nI i)), (3, .int (nI n))] → W p l e (headSpec wsJ7_fill_53178 ({ frames := 0, cells := 0, slots := 0, locals := 0 })).room s m [.ref a, .int v].toArray below meth c H locs 0 0 (MQ below (qW none (fun H => va_P D vwCl [(a, .inl (cI, n, .inl (fun _ => v)))] H) (fun q => q = a)) [.ref a, .int v].toArray s 0 0 (fun q => q = a)) (F0 m 5 ls []) := by
    intro t
    induction t with
    | zero => intro i g _ _ hm; exact absurd hm (Nat.not_lt_zero _)
    | succ t ih =>
      intro i g hi hg hm H locs hS hP ls hl
      refine lv_iload_n hx hb dJ7_fill_53178_5 rfl (lv_at hl 2 rfl) ?_
      refine lv_iload_n hx hb dJ7_fill_53178_6 rfl (lv_at hl 3 rfl) ?_
      refine nv_icmp_ge (tgt := 20) hx hb dJ7_fill_53178_7 (by decide) (by omega) (by omega) (fun c_7 => ?_) (fun c_7 => ?_)
      · refine ret_wv hx hb hr hlocks dJ7_fill_53178_20 hS ?_
        intro k q h
        match k, h with
        | 0, h =>
          cases h
          have h1 : H[a]? = some (vp_cell cI (n, .inl g)) := hP 0 _ rfl
          show H[a]? = some (vp_cell cI (n, .inl (fun _ => v)))
          rw [h1, cell_cg (fun j hj => hg j (by omega))]
        | k + 1, h => simp at h
      · refine lv_aload_n hx hb dJ7_fill_53178_10 rfl (lv_at hl 0 rfl) ?_
        refine lv_iload_n hx hb dJ7_fill_53178_11 rfl (lv_at hl 2 rfl) ?_
        refine lv_iload_n hx hb dJ7_fill_53178_12 rfl (lv_at hl 1 rfl) ?_
        refine nv_iast hx hb hK hP D_one hS 0 0 rfl rfl c_7 hn dJ7_fill_53178_13 (fun H locs hP hS => ?_)
        have hP : va_P D vwCl [(a, .inl (cI, n, .inl (upd g i v)))] H := hP
        refine lv_iinc (v := nI (i + 1)) (lv' := [(2, .int (nI (i + 1))), (0, .ref a), (1, .int v), (3, .int (nI n))]) hx hb dJ7_fill_53178_14 hl (k := 2) rfl (inc_nI _) (by decide) rfl (fun ls hl => ?_)
        refine lv_goto (tgt := 5) hx hb dJ7_fill_53178_17 (by decide) ?_
        exact ih (i + 1) (upd g i v) (by omega) (fun j hj => by
          unfold upd
          by_cases q : j = i
          · rw [if_pos q]
          · rw [if_neg q]; exact hg j (by omega)) (by omega) _ _ hS hP _ (lv_sub hl [1, 2, 0, 3] rfl)
  exact loop (n + 1) 0 f (Nat.zero_le _) (fun j hj => absurd hj (Nat.not_lt_zero _)) (by omega) _ _ hS hP _ (lv_sub hl [2, 3, 1, 0] rfl)
theorem xfill {D : va_G} {cI : ClassId} {ρ : Nat → Nat} {held mk qu g : Nat → Int32} {κ : Int32} {H H1 : Heap} (hI : In7 7 ρ) (hP : va_P D vwCl (xW cI ρ held κ mk qu) H) (hF : va_P D vwCl [(ρ 3, .inl (cI, 2401, .inl g))] H1) (hk : ∀ q : Nat, q < H.size → ¬ q = ρ 3 → H1[q]? = H[q]?) : va_P D vwCl (xW cI ρ held κ g qu) H1 := by
  have key : ∀ (i : Nat) (q : Nat × va_E), i ≠ 3 → (xW cI ρ held κ mk qu)[i]? = some q → va_at D vwCl q H1 := fun i q hi h =>
    (hP i q h).kept (hk q.1 (hP i q h).lt (fun z => hi (hI i 3 (XW_at i q h).1 (by omega) (by rw [← (XW_at i q h).2]; exact z))))
  intro i q h
  match i, h with
  | 0, h => exact key 0 q (by omega) h
  | 1, h => exact key 1 q (by omega) h
  | 2, h => exact key 2 q (by omega) h
  | 3, h => cases h; exact hF 0 _ rfl
  | 4, h => exact key 4 q (by omega) h
  | 5, h => exact key 5 q (by omega) h
  | 6, h => exact key 6 q (by omega) h
  | i + 7, h => simp [xW] at h
def vO (mk : Nat → Int32) (o : Option Nat) : Int32 := match o with
  | none => -6
  | some k => mk k
def mkd (mk : Nat → Int32) (o : Option Nat) : Bool := decide (0 < vO mk o)
theorem vAt_o {mk : Nat → Int32} {o : Option Nat} (ho : ∀ j, o = some j → j < 2401) : vAt mk 2401 (oI o) = vO mk o := by
  cases o with
  | none => exact vAt_neg (by decide)
  | some k => exact vAt_in (ho k rfl) (by decide)
def rX (mk qu : Nat → Int32) (b : Bst) : Prop := (∀ k, k < 2401 → mk k = nI (b.1 k)) ∧ ∀ i, i < b.2.2.2 → qu i = nI (b.2.2.1 i)
def XF (D : va_G) (cI : ClassId) (ρ : Nat → Nat) (σ : Nat → Nat → Bool) (κ : Int32) (b : Bst) (H : Heap) : Prop := ∃ mk qu : Nat → Int32, rX mk qu b ∧ XP D cI ρ σ κ mk qu H
theorem mkd_n {mk : Nat → Int32} {lab : Nat → Nat} {k : Nat} (h : mk k = nI (lab k)) (hb : lab k < 2 ^ 31) : mkd mk (some k) = decide (lab k ≠ 0) := by
  show decide (0 < mk k) = _
  rw [h]
  by_cases q : lab k = 0
  · rw [q, decide_eq_false (by decide)]; simp
  · rw [decide_eq_true (show (0 : Int32) < nI (lab k) from nI_lt (Nat.pos_of_ne_zero q) hb), decide_eq_true q]
theorem st_f {A : Nat → Bool} {mk : Nat → Int32} {lab : Nat → Nat} {k : Nat} (h : mk k = nI (lab k)) (hb : lab k < 2 ^ 31) (hc : (inS A (some k) && !mkd mk (some k)) = false) : ¬ (A k = true ∧ lab k = 0) := by
  rw [mkd_n h hb] at hc
  intro q
  have e : inS A (some k) = true := q.1
  rw [e, q.2] at hc
  exact absurd hc (by decide)
theorem st_t {A : Nat → Bool} {mk : Nat → Int32} {lab : Nat → Nat} {k : Nat} (h : mk k = nI (lab k)) (hb : lab k < 2 ^ 31) (hc : (inS A (some k) && !mkd mk (some k)) = true) : A k = true ∧ lab k = 0 := by
  rw [mkd_n h hb] at hc
  have e : inS A (some k) = A k := rfl
  rw [e] at hc
  simp only [Bool.and_eq_true, Bool.not_eq_true', decide_eq_false_iff_not, ne_eq, Decidable.not_not] at hc
  exact hc
theorem vis_f {A : Nat → Bool} {pn v j : Nat} {b : Bst} (h : ¬ (A j = true ∧ b.1 j = 0)) : vis1 A pn v (some j) b = b := if_neg h
theorem vis_t {A : Nat → Bool} {pn v j : Nat} {b : Bst} (h : A j = true ∧ b.1 j = 0) : vis1 A pn v (some j) b = (va_up b.1 j v, va_up b.2.1 j pn, va_up b.2.2.1 b.2.2.2 j, b.2.2.2 + 1) := if_pos h
theorem rX_up {mk qu : Nat → Int32} {b : Bst} (h : rX mk qu b) (j v pn : Nat) : rX (upd mk j (nI v)) (upd qu b.2.2.2 (nI j)) (va_up b.1 j v, va_up b.2.1 j pn, va_up b.2.2.1 b.2.2.2 j, b.2.2.2 + 1) := by
  refine ⟨fun k hk => ?_, fun i hi => ?_⟩
  · show upd mk j (nI v) k = nI (va_up b.1 j v k)
    unfold upd va_up
    by_cases e : k = j
    · rw [if_pos e, if_pos e]
    · rw [if_neg e, if_neg e]; exact h.1 k hk
  · show upd qu b.2.2.2 (nI j) i = nI (va_up b.2.2.1 b.2.2.2 j i)
    have hi' : i < b.2.2.2 + 1 := hi
    unfold upd va_up
    by_cases e : i = b.2.2.2
    · rw [if_pos e, if_pos e]
    · rw [if_neg e, if_neg e]; exact h.2 i (by omega)
theorem rX_0 {mk qu : Nat → Int32} {lab pc q0 : Nat → Nat} {pn sd : Nat} (h : ∀ k, k < 2401 → mk k = nI (lab k)) : rX (upd mk sd (nI 1)) (upd qu 0 (nI sd)) (fl0 lab pc q0 pn sd) := by
  refine ⟨fun k hk => ?_, fun i hi => ?_⟩
  · show upd mk sd (nI 1) k = nI (va_up lab sd 1 k)
    unfold upd va_up
    by_cases e : k = sd
    · rw [if_pos e, if_pos e]
    · rw [if_neg e, if_neg e]; exact h k hk
  · have hi' : i < 1 := hi
    show upd qu 0 (nI sd) i = nI (va_up q0 0 sd i)
    have e : i = 0 := by omega
    unfold upd va_up
    rw [if_pos e, if_pos e]
theorem fld_go {A : Nat → Bool} {pn i : Nat} {b : Bst} (h : i < b.2.2.2) (hi : i < 2402) : fld A pn (2402 - i) i b = fld A pn (2402 - (i + 1)) (i + 1) (expd A pn (b.2.2.1 i) (b.1 (b.2.2.1 i) + 1) 6 b) := by
  rw [show 2402 - i = (2402 - (i + 1)) + 1 by omega, fld, if_pos h]
theorem tail_lt {N0 j : Nat} {b : Bst} (hw : wfB N0 b) (hj : j < 2401) (h0 : b.1 j = 0) : b.2.2.2 < 2401 := by
  have h := ctL_lt hj h0
  rw [hw.1] at h
  omega
theorem flood_def {A : Nat → Bool} {pn sd : Nat} {lab pc q0 : Nat → Nat} : fld A pn (2402 - 0) 0 (fl0 lab pc q0 pn sd) = flood A pn lab pc q0 sd := by
  unfold flood
  rw [FU_eq]
theorem mx_nI {a b : Nat} (ha : a < 2 ^ 31) (hb : b < 2 ^ 31) : (if nI a < nI b then nI b else nI a) = nI (max a b) := by
  by_cases h : a < b
  · rw [if_pos (nI_lt h hb), Nat.max_eq_right (by omega)]
  · rw [if_neg (nI_nlt (by omega) ha), Nat.max_eq_left (by omega)]
theorem upd_bI {m1 : Nat → Int32} {f : Nat → Bool} {j : Nat} (h : ∀ k, k < 2401 → m1 k = bI (f k)) : ∀ k, k < 2401 → upd m1 j (nI 1) k = bI (va_up f j true k) := by
  intro k hk
  unfold upd va_up
  by_cases e : k = j
  · rw [if_pos e, if_pos e]; rfl
  · rw [if_neg e, if_neg e]; exact h k hk
theorem mkd_b {mk : Nat → Int32} {f : Nat → Bool} {k : Nat} (h : mk k = bI (f k)) : mkd mk (some k) = f k := by
  show decide (0 < mk k) = _
  rw [h]
  cases f k <;> decide
