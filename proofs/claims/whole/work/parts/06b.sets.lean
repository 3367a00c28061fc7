/-! sets: what is held, and how it changes -/
def inS (A : Nat → Bool) (o : Option Nat) : Bool := match o with
  | none => false
  | some k => A k
def stS (σ : Nat → Nat → Bool) (s k : Nat) (b : Bool) : Nat → Nat → Bool := fun s' k' => if s' = s ∧ k' = k then b else σ s' k'
def mdS (σ : Nat → Nat → Bool) (s lo hi : Nat) (f : Nat → Bool) : Nat → Nat → Bool := fun s' k' => if s' = s ∧ lo ≤ k' ∧ k' < hi then f k' else σ s' k'
def XS (D : va_G) (cI : ClassId) (ρ : Nat → Nat) (σ : Nat → Nat → Bool) (κ : Int32) (H : Heap) : Prop := ∃ mk qu : Nat → Int32, XP D cI ρ σ κ mk qu H
theorem md_step {σ : Nat → Nat → Bool} {s lo i : Nat} {f : Nat → Bool} {b : Bool} (hb : b = f i) (h : lo ≤ i) : stS (mdS σ s lo i f) s i b = mdS σ s lo (i + 1) f := by
  funext s' k'
  unfold stS mdS
  by_cases h1 : s' = s ∧ k' = i
  · rw [if_pos h1, if_pos ⟨h1.1, by omega, by omega⟩, h1.2, hb]
  · rw [if_neg h1]
    by_cases h2 : s' = s ∧ lo ≤ k' ∧ k' < i
    · rw [if_pos h2, if_pos ⟨h2.1, h2.2.1, by omega⟩]
    · rw [if_neg h2, if_neg (fun q => h2 ⟨q.1, q.2.1, by
        rcases Nat.lt_or_ge k' i with z | z
        · exact z
        · exact absurd ⟨q.1, by omega⟩ h1⟩)]
theorem md_0 {σ : Nat → Nat → Bool} {s lo : Nat} {f : Nat → Bool} : mdS σ s lo lo f = σ := by
  funext s' k'
  unfold mdS
  rw [if_neg (fun q => absurd q.2.2 (by omega))]
theorem md_ge {σ : Nat → Nat → Bool} {s lo i : Nat} {f : Nat → Bool} (s' : Nat) {k : Nat} (h : i ≤ k) : mdS σ s lo i f s' k = σ s' k := by
  unfold mdS
  rw [if_neg (fun q => absurd q.2.2 (by omega))]
theorem md_cg {σ : Nat → Nat → Bool} {s lo hi : Nat} {f g : Nat → Bool} (h : ∀ k, lo ≤ k → k < hi → f k = g k) : mdS σ s lo hi f = mdS σ s lo hi g := by
  funext s' k'
  unfold mdS
  by_cases h1 : s' = s ∧ lo ≤ k' ∧ k' < hi
  · rw [if_pos h1, if_pos h1, h k' h1.2.1 h1.2.2]
  · rw [if_neg h1, if_neg h1]
theorem hold_leaf {held : Nat → Int32} {σ : Nat → Nat → Bool} (h : RelX held σ) {s k : Nat} (hs : s < 4) (hk : k < 2401) : (held k >>> (nI s &&& 31)) &&& nI 1 = bI (σ s k) := by
  rw [hold_bit _ (by omega), h k hk s (by omega), decide_eq_true (show s < 12 by omega), Bool.true_and]
theorem bI_not1 {b : Bool} (h : ¬ bI b = nI 1) : b = false := by
  cases b with
  | false => rfl
  | true => exact absurd rfl h
theorem bI_is1 {b : Bool} (h : bI b = nI 1) : b = true := by
  cases b with
  | true => rfl
  | false => exact absurd h (by decide)
theorem place_t {held : Nat → Int32} {σ : Nat → Nat → Bool} (h : RelX held σ) {s k : Nat} (hs : s < 4) : RelX (upd held k ((held k &&& ((nI 1 <<< (nI s &&& 31)) ^^^ (-1))) ||| (nI 1 <<< (nI s &&& 31)))) (stS σ s k true) := by
  intro j hj i hi
  unfold upd stS
  by_cases e : j = k
  · subst e
    rw [if_pos rfl, bt_set _ (by omega) hi, h j hj i hi]
    by_cases e2 : i = s
    · rw [if_pos ⟨e2, rfl⟩]; simp [e2]; omega
    · rw [if_neg (fun q => e2 q.1)]; simp [e2]
  · rw [if_neg e, if_neg (fun q => e q.2)]
    exact h j hj i hi
theorem place_f {held : Nat → Int32} {σ : Nat → Nat → Bool} (h : RelX held σ) {s k : Nat} (hs : s < 4) : RelX (upd held k (held k &&& ((nI 1 <<< (nI s &&& 31)) ^^^ (-1)))) (stS σ s k false) := by
  intro j hj i hi
  unfold upd stS
  by_cases e : j = k
  · subst e
    rw [if_pos rfl, bt_clr _ (by omega) hi, h j hj i hi]
    by_cases e2 : i = s
    · rw [if_pos ⟨e2, rfl⟩]; simp [e2]
    · rw [if_neg (fun q => e2 q.1)]; simp [e2]
  · rw [if_neg e, if_neg (fun q => e q.2)]
    exact h j hj i hi
def nbc (A : Nat → Bool) (k : Nat) : Nat := fb_ct (fun d => inS A (nbo k (d + 1))) 6
def bdr (A : Nat → Bool) (n : Nat) : Nat := fb_sm (fun k => if A k then 6 - nbc A k else 0) n
theorem nbc_le (A : Nat → Bool) (k : Nat) : nbc A k ≤ 6 := fb_ct_le _ _
/-- the least of the last i of 2401 that is of A -/
def loK (A : Nat → Bool) : Nat → Option Nat
  | 0 => none
  | i + 1 => if A (2400 - i) then some (2400 - i) else loK A i
theorem loK_none {A : Nat → Bool} : ∀ {i : Nat}, (∀ j, 2401 - i ≤ j → j < 2401 → A j = false) → i ≤ 2401 → loK A i = none
  | 0, _, _ => rfl
  | i + 1, h, hi => by
    rw [loK, if_neg (by rw [h (2400 - i) (by omega) (by omega)]; decide)]
    exact loK_none (fun j h1 h2 => h j (by omega) h2) (by omega)
theorem loK_some {A : Nat → Bool} {k : Nat} (hk : A k = true) (hkl : k < 2401) (hn : ∀ j, j < k → A j = false) : ∀ {i : Nat}, i ≤ 2401 → 2401 - i ≤ k → loK A i = some k
  | 0, _, h => by omega
  | i + 1, hi, h => by
    rw [loK]
    rcases Nat.lt_or_ge (2400 - i) k with q | q
    · rw [if_neg (by rw [hn _ q]; decide)]
      exact loK_some hk hkl hn (by omega) (by omega)
    · have e : 2400 - i = k := by omega
      rw [e, if_pos hk]
def mI (t : Nat) : Int32 := match t with
  | 0 => -1
  | j + 1 => nI j
theorem mI_dec : ∀ j : Nat, nI j + Int32.ofInt (-1) = mI j
  | 0 => by decide
  | j + 1 => pk_m1 j
def growP (A : Nat → Bool) (w : Bool) (j : Nat) : Bool := bif w then (A j || decide (0 < nbc A j)) else (A j && decide (nbc A j = 6))
def putS (σ : Nat → Nat → Bool) (a x y z : Int32) : Nat → Nat → Bool := bif isS a && (isK x && isL y && wI z (nI 0) (nI 1)) then mdS σ (cl a) (pO (cl x) (cl y)) (pO (cl x) (cl y) + 7 ^ cl y) (fun _ => decide (cl z = 1)) else σ
def putR (σ : Nat → Nat → Bool) (a x y z : Int32) : Int32 := gs (isS a) (isK x && isL y && wI z (nI 0) (nI 1)) (nI (fb_ct (putS σ a x y z (cl a)) 2401))
def diskS (σ : Nat → Nat → Bool) (a x y : Int32) : Nat → Nat → Bool := bif isS a && (isK x && wI y (nI 0) (nI 70)) then mdS σ (cl a) 0 2401 (fun j => decide (farI (cl x) j ≤ y)) else σ
def diskR (σ : Nat → Nat → Bool) (a x y : Int32) : Int32 := gs (isS a) (isK x && wI y (nI 0) (nI 70)) (nI (fb_ct (diskS σ a x y (cl a)) 2401))
def joinS (σ : Nat → Nat → Bool) (a b c w : Int32) : Nat → Nat → Bool := bif isS a && isS b && isS c && wI w (nI 0) (nI 3) then mdS σ (cl a) 0 2401 (fun j => jn (σ (cl b) j) (σ (cl c) j) (cl w)) else σ
def joinR (σ : Nat → Nat → Bool) (a b c w : Int32) : Int32 := gs (isS a && isS b && isS c) (wI w (nI 0) (nI 3)) (nI (fb_ct (joinS σ a b c w (cl a)) 2401))
def growO (y : Int32) : Bool := decide (y = nI 1) || decide (y = -1)
def growS (σ : Nat → Nat → Bool) (a b y : Int32) : Nat → Nat → Bool := bif isS a && isS b && growO y then mdS σ (cl a) 0 2401 (growP (σ (cl b)) (decide (y = nI 1))) else σ
def growR (σ : Nat → Nat → Bool) (a b y : Int32) : Int32 := gs (isS a && isS b) (growO y) (nI (fb_ct (growS σ a b y (cl a)) 2401))
theorem mk_step {m1 : Nat → Int32} {f : Nat → Bool} {i : Nat} {v : Int32} (h : ∀ j, j < i → m1 j = bI (f j)) (hv : v = bI (f i)) : ∀ j, j < i + 1 → upd m1 i v j = bI (f j) := by
  intro j hj
  unfold upd
  by_cases e : j = i
  · rw [if_pos e, e, hv]
  · rw [if_neg e]; exact h j (by omega)
theorem lst_pos {A : Nat → Bool} {t : Nat} : ∀ {n : Nat}, t ≤ n → (∀ j, t ≤ j → j < n → A j = false) → lst A n = lst A t
  | 0, h, _ => by rw [show t = 0 by omega]
  | n + 1, h, hn => by
    rcases Nat.lt_or_ge t (n + 1) with q | q
    · rw [lst, if_neg (by rw [hn n (by omega) (by omega)]; decide)]
      exact lst_pos (by omega) (fun j h1 h2 => hn j h1 (by omega))
    · rw [show t = n + 1 by omega]
