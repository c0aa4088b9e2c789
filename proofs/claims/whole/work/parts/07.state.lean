/-! what a state is: loops as functions, the parts of the heap as predicates -/
/-- the least j of i, i + 1, .. (k of them) with P, else i + k -/
def ff (P : Nat → Bool) : Nat → Nat → Nat
  | 0, i => i
  | k + 1, i => if P i = true then i else ff P k (i + 1)
theorem ff_le (P : Nat → Bool) : ∀ k i, i ≤ ff P k i ∧ ff P k i ≤ i + k
  | 0, i => ⟨Nat.le_refl _, Nat.le_refl _⟩
  | k + 1, i => by
    unfold ff
    split
    · exact ⟨Nat.le_refl _, by omega⟩
    · have := ff_le P k (i + 1)
      omega
theorem ff_is (P : Nat → Bool) : ∀ k i, ff P k i < i + k → P (ff P k i) = true
  | 0, i, h => by unfold ff at h; omega
  | k + 1, i, h => by
    unfold ff at h ⊢
    split
    next c => exact c
    next c =>
      rw [if_neg c] at h
      exact ff_is P k (i + 1) (by omega)
theorem ff_congr {P P' : Nat → Bool} : ∀ k i, (∀ j, i ≤ j → j < i + k → P j = P' j) → ff P k i = ff P' k i
  | 0, i, _ => rfl
  | k + 1, i, h => by
    unfold ff
    rw [h i (Nat.le_refl _) (by omega), ff_congr k (i + 1) (fun j h1 h2 => h j (by omega) (by omega))]
/-- a place, or -1 where it is n -/
def orm (n j : Nat) : Int32 := if j < n then nI j else -1
/-- how many of i, i + 1, .. (k of them) have P -/
def cnt (P : Nat → Bool) : Nat → Nat → Nat
  | 0, _ => 0
  | k + 1, i => (if P i = true then 1 else 0) + cnt P k (i + 1)
theorem cnt_le (P : Nat → Bool) : ∀ k i, cnt P k i ≤ k
  | 0, _ => Nat.le_refl _
  | k + 1, i => by
    unfold cnt
    have := cnt_le P k (i + 1)
    split <;> omega
theorem cnt_congr {P P' : Nat → Bool} : ∀ k i, (∀ j, i ≤ j → j < i + k → P j = P' j) → cnt P k i = cnt P' k i
  | 0, i, _ => rfl
  | k + 1, i, h => by
    unfold cnt
    rw [h i (Nat.le_refl _) (by omega), cnt_congr k (i + 1) (fun j h1 h2 => h j (by omega) (by omega))]
/-- the best so far, and i beside it: i replaces it if lt -/
def bst (C : Nat → Bool) (lt : Nat → Nat → Bool) (i : Nat) (b : Option Nat) : Option Nat := if C i = true then (match b with | none => some i | some l => if lt i l = true then some i else some l) else b
/-- the best of i, i + 1, .. (k of them) with C -/
def sel (C : Nat → Bool) (lt : Nat → Nat → Bool) : Nat → Nat → Option Nat → Option Nat
  | 0, _, b => b
  | k + 1, i, b => sel C lt k (i + 1) (bst C lt i b)
theorem bst_in {C : Nat → Bool} {lt : Nat → Nat → Bool} {i : Nat} {b : Option Nat} (hb : ∀ x, b = some x → x < i ∧ C x = true) (x : Nat) (hx : bst C lt i b = some x) : x < i + 1 ∧ C x = true := by
  unfold bst at hx
  by_cases c : C i = true
  · rw [if_pos c] at hx
    match b, hb, hx with
    | none, hb, hx =>
      have : i = x := by simpa using hx
      subst this
      exact ⟨by omega, c⟩
    | some l, hb, hx =>
      obtain ⟨h1, h2⟩ := hb l rfl
      dsimp only at hx
      split at hx
      · have : i = x := by simpa using hx
        subst this
        exact ⟨by omega, c⟩
      · have : l = x := by simpa using hx
        subst this
        exact ⟨by omega, h2⟩
  · rw [if_neg c] at hx
    obtain ⟨h1, h2⟩ := hb x hx
    exact ⟨by omega, h2⟩
theorem bst_congr {C C' : Nat → Bool} {lt lt' : Nat → Nat → Bool} {i : Nat} {b : Option Nat} (hC : C i = C' i) (hl : ∀ l, b = some l → C i = true → lt i l = lt' i l) : bst C lt i b = bst C' lt' i b := by
  unfold bst
  rw [← hC]
  by_cases c : C i = true
  · rw [if_pos c, if_pos c]
    match b, hl with
    | none, _ => rfl
    | some l, hl =>
      show (if lt i l = true then some i else some l) = (if lt' i l = true then some i else some l)
      rw [hl l rfl c]
  · rw [if_neg c, if_neg c]
theorem sel_congr {C C' : Nat → Bool} {lt lt' : Nat → Nat → Bool} : ∀ k i b, (∀ j, i ≤ j → j < i + k → C j = C' j) → (∀ x, b = some x → x < i ∧ C x = true) → (∀ x y, x < i + k → y < i + k → C x = true → C y = true → lt x y = lt' x y) → sel C lt k i b = sel C' lt' k i b
  | 0, i, b, _, _, _ => rfl
  | k + 1, i, b, h, hb, hl => by
    unfold sel
    rw [← bst_congr (C := C) (lt := lt) (h i (Nat.le_refl _) (by omega)) (fun l e c => hl i l (by omega) (by have := (hb l e).1; omega) c (hb l e).2)]
    exact sel_congr k (i + 1) _ (fun j h1 h2 => h j (by omega) (by omega)) (bst_in hb) (fun x y h1 h2 => hl x y (by omega) (by omega))
theorem sel_in {C : Nat → Bool} {lt : Nat → Nat → Bool} : ∀ k i b, (∀ x, b = some x → x < i ∧ C x = true) → ∀ x, sel C lt k i b = some x → x < i + k ∧ C x = true
  | 0, i, b, hb, x, h => hb x h
  | k + 1, i, b, hb, x, h => by
    unfold sel at h
    have := sel_in k (i + 1) _ (bst_in hb) x h
    exact ⟨by omega, this.2⟩
/-- a place or none, as a number -/
def omi (b : Option Nat) : Int32 := match b with
  | none => -1
  | some j => nI j
/-- the places lo .. lo + k - 1 hold g, the others f -/
def fil (f g : Nat → Int32) (lo k : Nat) : Nat → Int32 := fun j => if lo ≤ j ∧ j < lo + k then g j else f j
theorem fil_0 (f g : Nat → Int32) (lo : Nat) : fil f g lo 0 = f := by
  funext j
  unfold fil
  rw [if_neg (by omega)]
theorem fil_s (f g : Nat → Int32) (lo k : Nat) : upd (fil f g lo k) (lo + k) (g (lo + k)) = fil f g lo (k + 1) := by
  funext j
  unfold upd fil
  by_cases h : j = lo + k
  · subst h
    rw [if_pos rfl, if_pos (by omega)]
  · rw [if_neg h]
    by_cases h2 : lo ≤ j ∧ j < lo + k
    · rw [if_pos h2, if_pos (by omega)]
    · rw [if_neg h2, if_neg (by omega)]
/-- the pages -/
def MEM (h : pz_H) (np : Nat) (mw mo mr mt : Nat → Int32) (mn : Nat → Bool) (md : Nat → Int32) (ts ck : Nat) : Prop :=
  h 1 = some (.inr (1, [.int (nI np), .ref 2, .ref 3, .ref 4, .ref 5, .ref 6, .ref 7, .int (nI ts), .int (nI ck)])) ∧ h 2 = some (.inl (0, np * 4, .inl mw)) ∧ h 3 = some (.inl (0, np, .inl mo)) ∧ h 4 = some (.inl (0, np * 6, .inl mr)) ∧ h 5 = some (.inl (0, np, .inl mt)) ∧ h 6 = some (.inl (1, np, .inl (fun j => pb (mn j)))) ∧ h 7 = some (.inl (0, np, .inl md)) ∧ 4 ≤ np ∧ np ≤ 32
theorem MEM.frm {h h' : pz_H} {np : Nat} {mw mo mr mt : Nat → Int32} {mn : Nat → Bool} {md : Nat → Int32} {ts ck : Nat} (m : MEM h np mw mo mr mt mn md ts ck) {lo hi : Nat} (f : frm lo hi h h') (hl : 8 ≤ lo ∨ hi ≤ 1) : MEM h' np mw mo mr mt mn md ts ck := by
  unfold MEM
  rw [f 1 (by omega), f 2 (by omega), f 3 (by omega), f 4 (by omega), f 5 (by omega), f 6 (by omega), f 7 (by omega)]
  exact m
/-- the blocks -/
def DSK (h : pz_H) (nb : Nat) (dw dn : Nat → Int32) : Prop :=
  h 8 = some (.inr (2, [.int (nI nb), .ref 9, .ref 10])) ∧ h 9 = some (.inl (0, nb * 8, .inl dw)) ∧ h 10 = some (.inl (0, nb, .inl dn)) ∧ 4 ≤ nb ∧ nb ≤ 32
theorem DSK.frm {h h' : pz_H} {nb : Nat} {dw dn : Nat → Int32} (m : DSK h nb dw dn) {lo hi : Nat} (f : frm lo hi h h') (hl : 11 ≤ lo ∨ hi ≤ 8) : DSK h' nb dw dn := by
  unfold DSK
  rw [f 8 (by omega), f 9 (by omega), f 10 (by omega)]
  exact m
/-- the order of the filters -/
def ORD (h : pz_H) (os : Nat → Int32) (ol : Nat) : Prop := h 11 = some (.inr (3, [.ref 12, .int (nI ol)])) ∧ h 12 = some (.inl (0, 6, .inl os)) ∧ ol ≤ 6
theorem ORD.frm {h h' : pz_H} {os : Nat → Int32} {ol : Nat} (m : ORD h os ol) {lo hi : Nat} (f : frm lo hi h h') (hl : 13 ≤ lo ∨ hi ≤ 11) : ORD h' os ol := by
  unfold ORD
  rw [f 11 (by omega), f 12 (by omega)]
  exact m
/-- a frame at a -/
def FRA (a : Nat) (h : pz_H) (fb : Nat → Int32) (fl : Nat) : Prop := h a = some (.inr (4, [.ref (a + 1), .int (nI fl)])) ∧ h (a + 1) = some (.inl (0, 16, .inl fb)) ∧ fl ≤ 16
theorem FRA.frm {a : Nat} {h h' : pz_H} {fb : Nat → Int32} {fl : Nat} (m : FRA a h fb fl) {lo hi : Nat} (f : frm lo hi h h') (hl : a + 2 ≤ lo ∨ hi ≤ a) : FRA a h' fb fl := by
  unfold FRA
  rw [f a (by omega), f (a + 1) (by omega)]
  exact m
/-- a list of pages at a -/
def PGL (a : Nat) (h : pz_H) (pp : Nat → Int32) (pl pe : Nat) : Prop := h a = some (.inr (6, [.ref (a + 1), .int (nI pl), .int (nI pe)])) ∧ h (a + 1) = some (.inl (0, 8, .inl pp)) ∧ pl ≤ 8 ∧ pe < 8
theorem PGL.frm {a : Nat} {h h' : pz_H} {pp : Nat → Int32} {pl pe : Nat} (m : PGL a h pp pl pe) {lo hi : Nat} (f : frm lo hi h h') (hl : a + 2 ≤ lo ∨ hi ≤ a) : PGL a h' pp pl pe := by
  unfold PGL
  rw [f a (by omega), f (a + 1) (by omega)]
  exact m
/-- a queue of frames at a: its four frames at a + 2, a + 4, .. -/
def QUE (a : Nat) (h : pz_H) (qb : Nat → Nat → Int32) (qn : Nat → Nat) (qf ql : Nat) : Prop := h a = some (.inr (7, [.ref (a + 1), .int (nI qf), .int (nI ql)])) ∧ h (a + 1) = some (.inl (3, 4, .inr (.inr (.inr (.inr (fun j => some (a + 2 + 2 * j))))))) ∧ (∀ j, j < 4 → FRA (a + 2 + 2 * j) h (qb j) (qn j)) ∧ qf < 4 ∧ ql ≤ 4
theorem QUE.frm {a : Nat} {h h' : pz_H} {qb : Nat → Nat → Int32} {qn : Nat → Nat} {qf ql : Nat} (m : QUE a h qb qn qf ql) {lo hi : Nat} (f : frm lo hi h h') (hl : a + 10 ≤ lo ∨ hi ≤ a) : QUE a h' qb qn qf ql := by
  obtain ⟨m1, m2, m3, m4⟩ := m
  refine ⟨(f a (by omega)).trans m1, (f (a + 1) (by omega)).trans m2, fun j hj => (m3 j hj).frm f (by omega), m4⟩
/-- a table of entries at a -/
def TAB (a : Nat) (h : pz_H) (td : Nat → Int32) (tl : Nat) : Prop := h a = some (.inr (8, [.ref (a + 1), .int (nI tl)])) ∧ h (a + 1) = some (.inl (0, 7, .inl td)) ∧ tl ≤ 28
theorem TAB.frm {a : Nat} {h h' : pz_H} {td : Nat → Int32} {tl : Nat} (m : TAB a h td tl) {lo hi : Nat} (f : frm lo hi h h') (hl : a + 2 ≤ lo ∨ hi ≤ a) : TAB a h' td tl := by
  unfold TAB
  rw [f a (by omega), f (a + 1) (by omega)]
  exact m
/-- a filter program at a -/
def PRG (a : Nat) (h : pz_H) (gc go gy gn : Nat → Int32) (gl : Nat) : Prop := h a = some (.inr (9, [.ref (a + 1), .ref (a + 2), .ref (a + 3), .ref (a + 4), .int (nI gl)])) ∧ h (a + 1) = some (.inl (0, 16, .inl gc)) ∧ h (a + 2) = some (.inl (0, 16, .inl go)) ∧ h (a + 3) = some (.inl (0, 16, .inl gy)) ∧ h (a + 4) = some (.inl (0, 16, .inl gn)) ∧ gl ≤ 16
theorem PRG.frm {a : Nat} {h h' : pz_H} {gc go gy gn : Nat → Int32} {gl : Nat} (m : PRG a h gc go gy gn gl) {lo hi : Nat} (f : frm lo hi h h') (hl : a + 5 ≤ lo ∨ hi ≤ a) : PRG a h' gc go gy gn gl := by
  unfold PRG
  rw [f a (by omega), f (a + 1) (by omega), f (a + 2) (by omega), f (a + 3) (by omega), f (a + 4) (by omega)]
  exact m
theorem ff_end {P : Nat → Bool} {n i : Nat} (h : ¬ i < n) : ff P (n - i) i = i := by rw [show n - i = 0 by omega]; rfl
theorem ff_yes {P : Nat → Bool} {n i : Nat} (h : i < n) (hp : P i = true) : ff P (n - i) i = i := by rw [show n - i = (n - i - 1) + 1 by omega]; unfold ff; rw [if_pos hp]
theorem ff_no {P : Nat → Bool} {n i : Nat} (h : i < n) (hp : ¬ P i = true) : ff P (n - i) i = ff P (n - (i + 1)) (i + 1) := by
  rw [show n - i = (n - (i + 1)) + 1 by omega]
  show (if P i = true then i else ff P (n - (i + 1)) (i + 1)) = _
  rw [if_neg hp]
theorem cnt_end {P : Nat → Bool} {n i : Nat} (h : ¬ i < n) : cnt P (n - i) i = 0 := by rw [show n - i = 0 by omega]; rfl
theorem cnt_step {P : Nat → Bool} {n i : Nat} (h : i < n) : cnt P (n - i) i = (if P i = true then 1 else 0) + cnt P (n - (i + 1)) (i + 1) := by
  rw [show n - i = (n - (i + 1)) + 1 by omega]
  rfl
theorem sel_end {C : Nat → Bool} {lt : Nat → Nat → Bool} {n i : Nat} {b : Option Nat} (h : ¬ i < n) : sel C lt (n - i) i b = b := by rw [show n - i = 0 by omega]; rfl
theorem sel_step {C : Nat → Bool} {lt : Nat → Nat → Bool} {n i : Nat} {b : Option Nat} (h : i < n) : sel C lt (n - i) i b = sel C lt (n - (i + 1)) (i + 1) (bst C lt i b) := by
  rw [show n - i = (n - (i + 1)) + 1 by omega]
  rfl
theorem orm_lt {n j : Nat} (h : j < n) : orm n j = nI j := if_pos h
theorem orm_ge {n j : Nat} (h : ¬ j < n) : orm n j = -1 := if_neg h
theorem cnt_yes {P : Nat → Bool} {n i : Nat} (h : i < n) (hp : P i = true) (u : Nat) : u + cnt P (n - i) i = (u + 1) + cnt P (n - (i + 1)) (i + 1) := by rw [cnt_step h, if_pos hp]; omega
theorem cnt_no {P : Nat → Bool} {n i : Nat} (h : i < n) (hp : ¬ P i = true) (u : Nat) : u + cnt P (n - i) i = u + cnt P (n - (i + 1)) (i + 1) := by rw [cnt_step h, if_neg hp]; omega
