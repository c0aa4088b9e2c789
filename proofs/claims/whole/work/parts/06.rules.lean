/-! rules for numbers that are nI of a natural number -/
theorem nI_mul (a b : Nat) : nI a * nI b = nI (a * b) := (Int32.ofNat_mul a b).symm
theorem nI_sub {a b : Nat} (h : b ≤ a) : nI a - nI b = nI (a - b) := by
  have e : nI a = nI (a - b) + nI b := by rw [nI_add]; congr 1; omega
  rw [e, Int32.add_sub_cancel]
theorem nI_inj {a b : Nat} (ha : a < 2147483648) (hb : b < 2147483648) (h : nI a = nI b) : a = b := (nI_eq ha hb).mp h
theorem nI_div {a b : Nat} (ha : a < 2147483648) (hb : b < 2147483648) : nI a / nI b = nI (a / b) := by
  apply Int32.toInt_inj.mp
  have h1 : a / b < 2147483648 := Nat.lt_of_le_of_lt (Nat.div_le_self a b) ha
  rw [Int32.toInt_div, nI_toInt ha, nI_toInt hb, nI_toInt h1]
  have h2 : Int.tdiv (a : Int) (b : Int) = ((a / b : Nat) : Int) := by rw [Int.ofNat_tdiv]
  rw [h2]
  clear h2
  generalize a / b = q at h1 ⊢
  rw [Int.bmod_def]
  split <;> omega
theorem nI_rem {a b : Nat} (ha : a < 2147483648) (hb : b < 2147483648) : nI a - nI a / nI b * nI b = nI (a % b) := by
  rw [nI_div ha hb, nI_mul, nI_sub (Nat.div_mul_le_self a b)]
  congr 1
  have := Nat.div_add_mod a b
  rw [Nat.mul_comm] at this
  omega
theorem nI_m1 (a : Nat) : ¬ nI a = -1 ∨ ¬ a < 2147483648 := by
  by_cases h : a < 2147483648
  · left
    intro e
    have h1 := congrArg Int32.toInt e
    rw [nI_toInt h] at h1
    have h2 : (-1 : Int32).toInt = -1 := by decide
    omega
  · exact Or.inr h
theorem nI_nem1 {a : Nat} (h : a < 2147483648) : ¬ nI a = -1 := (nI_m1 a).resolve_right (fun q => q h)
/-- a Boolean answer -/
def pb (c : Bool) : Int32 := if c = true then 1 else 0
theorem pb_and (c : Bool) : pb c &&& 1 = pb c := by cases c <;> decide
theorem pb_0 {c : Bool} : pb c = 0 ↔ c = false := by cases c <;> decide
theorem pb_n0 {c : Bool} : ¬ pb c = 0 ↔ c = true := by cases c <;> decide
theorem pb_t : pb true = 1 := rfl
theorem pb_f : pb false = 0 := rfl
theorem pb_fit (c : Bool) : (pb c == 0 || pb c == 1) = true := by cases c <;> decide
theorem pb_nar (c : Bool) : vp_nar .boolean (pb c) = pb c := by cases c <;> decide
def updB (f : Nat → Bool) (k : Nat) (x : Bool) : Nat → Bool := fun j => if j = k then x else f j
theorem upb (f : Nat → Bool) (k : Nat) (x : Bool) : upd (fun j => pb (f j)) k (pb x) = fun j => pb (updB f k x j) := by
  funext j
  by_cases e : j = k <;> simp [upd, updB, e]
theorem updB_eq (f : Nat → Bool) (k : Nat) (x : Bool) : updB f k x k = x := by simp [updB]
theorem updB_ne {f : Nat → Bool} {k j : Nat} {x : Bool} (e : j ≠ k) : updB f k x j = f j := by simp [updB, e]
theorem pb_yes {C : Prop} {inst9 : Decidable C} (h : C) : some (Value.int (nI 1)) = some (Value.int (pb (@decide C inst9))) := by rw [decide_eq_true h]; rfl
theorem pb_no {C : Prop} {inst9 : Decidable C} (h : ¬ C) : some (Value.int (nI 0)) = some (Value.int (pb (@decide C inst9))) := by rw [decide_eq_false h]; rfl
/-- only the cells lo .. hi - 1 have changed -/
def frm (lo hi : Nat) (h h' : pz_H) : Prop := ∀ a, (a < lo ∨ hi ≤ a) → h' a = h a
theorem frm.rf {lo hi : Nat} {h : pz_H} : frm lo hi h h := fun _ _ => rfl
theorem frm.tr {lo hi : Nat} {h h1 h2 : pz_H} (a : frm lo hi h h1) (b : frm lo hi h1 h2) : frm lo hi h h2 := fun q hq => (b q hq).trans (a q hq)
theorem frm.pu {lo hi k : Nat} {h h1 : pz_H} {c : pz_C} (a : frm lo hi h h1) (h1' : lo ≤ k) (h2' : k < hi) : frm lo hi h (pu h1 k c) := fun q hq => (pu_ne (by omega)).trans (a q hq)
theorem frm.wd {lo hi lo' hi' : Nat} {h h' : pz_H} (a : frm lo hi h h') (h1 : lo' ≤ lo) (h2 : hi ≤ hi') : frm lo' hi' h h' := fun q hq => a q (by omega)
theorem pu_pu (h : pz_H) (k : Nat) (c c' : pz_C) : pu (pu h k c) k c' = pu h k c' := by
  funext j
  by_cases e : j = k
  · subst e; simp [pu]
  · simp [pu, e]
theorem upd_eq (f : Nat → Int32) (k : Nat) (x : Int32) : upd f k x k = x := by simp [upd]
theorem upd_ne {f : Nat → Int32} {k j : Nat} {x : Int32} (e : j ≠ k) : upd f k x j = f j := by simp [upd, e]
section PR
variable {l : Launch} {L : Nat} {xs : Nat → Int32} {M : pz_M} {d fc fs pc : Nat} {ls : List (Option Value)} {st : List Value} {h : pz_H} {z : Nat} {Q : pz_Q}
theorem pe_iaddN {a b : Nat} (hd : decode M.2.1 pc = .ok (.iadd, 1))  (kk : pz_E l L xs M d fc fs (pc + 1) ls (.int (nI (a + b)) :: st) h z Q) : pz_E l L xs M d fc fs pc ls (.int (nI b) :: .int (nI a) :: st) h z Q := pe_iadd hd (by rw [nI_add]; exact kk)
theorem pe_imulN {a b : Nat} (hd : decode M.2.1 pc = .ok (.imul, 1))  (kk : pz_E l L xs M d fc fs (pc + 1) ls (.int (nI (a * b)) :: st) h z Q) : pz_E l L xs M d fc fs pc ls (.int (nI b) :: .int (nI a) :: st) h z Q := pe_imul hd (by rw [nI_mul]; exact kk)
theorem pe_isubN {a b : Nat} (hd : decode M.2.1 pc = .ok (.isub, 1)) (hab : b ≤ a) (kk : pz_E l L xs M d fc fs (pc + 1) ls (.int (nI (a - b)) :: st) h z Q) : pz_E l L xs M d fc fs pc ls (.int (nI b) :: .int (nI a) :: st) h z Q := pe_isub hd (by rw [nI_sub hab]; exact kk)
theorem pe_idivN {a b : Nat} (hd : decode M.2.1 pc = .ok (.idiv, 1)) (ha : a < 2147483648) (hb : b < 2147483648) (h0 : 0 < b) (kk : pz_E l L xs M d fc fs (pc + 1) ls (.int (nI (a / b)) :: st) h z Q) : pz_E l L xs M d fc fs pc ls (.int (nI b) :: .int (nI a) :: st) h z Q := pe_idiv hd (by intro e; have := nI_inj hb (by decide) (e.trans nI_0.symm); omega) (by rw [nI_div ha hb]; exact kk)
theorem pe_iremN {a b : Nat} (hd : decode M.2.1 pc = .ok (.irem, 1)) (ha : a < 2147483648) (hb : b < 2147483648) (h0 : 0 < b) (kk : pz_E l L xs M d fc fs (pc + 1) ls (.int (nI (a % b)) :: st) h z Q) : pz_E l L xs M d fc fs pc ls (.int (nI b) :: .int (nI a) :: st) h z Q := pe_irem hd (by intro e; have := nI_inj hb (by decide) (e.trans nI_0.symm); omega) (by rw [nI_rem ha hb]; exact kk)
theorem pe_iincN {k a : Nat} (hd : decode M.2.1 pc = .ok (.iinc k 1, 3)) (hl : ls[k]? = some (some (.int (nI a)))) (hn : k < M.2.2.1) (hc : pz_c1 ls k = true) (kk : pz_E l L xs M d fc fs (pc + 3) (ls.set k (some (.int (nI (a + 1))))) st h z Q) : pz_E l L xs M d fc fs pc ls st h z Q := pe_iinc hd hl (show nI a + Int32.ofInt 1 = nI (a + 1) from nI_1 a) hn hc kk
theorem pe_icmpN_eq {a b : Nat} {off : Int} {tgt : Nat} (hd : decode M.2.1 pc = .ok (.if_icmp .eq off, 3)) (ht : (pc : Int) + off = (tgt : Int)) (ha : a < 2147483648) (hb : b < 2147483648) (kt : a = b → pz_E l L xs M d fc fs tgt ls st h z Q) (kf : ¬ a = b → pz_E l L xs M d fc fs (pc + 3) ls st h z Q) : pz_E l L xs M d fc fs pc ls (.int (nI b) :: .int (nI a) :: st) h z Q := pe_icmp_eq hd ht (fun q => kt ((nI_eq ha hb).mp q)) (fun q => kf (fun e => q ((nI_eq ha hb).mpr e)))
theorem pe_icmpN_ne {a b : Nat} {off : Int} {tgt : Nat} (hd : decode M.2.1 pc = .ok (.if_icmp .ne off, 3)) (ht : (pc : Int) + off = (tgt : Int)) (ha : a < 2147483648) (hb : b < 2147483648) (kt : ¬ a = b → pz_E l L xs M d fc fs tgt ls st h z Q) (kf : a = b → pz_E l L xs M d fc fs (pc + 3) ls st h z Q) : pz_E l L xs M d fc fs pc ls (.int (nI b) :: .int (nI a) :: st) h z Q := pe_icmp_ne hd ht (fun q => kt (fun e => q ((nI_eq ha hb).mpr e))) (fun q => kf ((nI_eq ha hb).mp q))
theorem pe_icmpN_lt {a b : Nat} {off : Int} {tgt : Nat} (hd : decode M.2.1 pc = .ok (.if_icmp .lt off, 3)) (ht : (pc : Int) + off = (tgt : Int)) (ha : a < 2147483648) (hb : b < 2147483648) (kt : a < b → pz_E l L xs M d fc fs tgt ls st h z Q) (kf : ¬ a < b → pz_E l L xs M d fc fs (pc + 3) ls st h z Q) : pz_E l L xs M d fc fs pc ls (.int (nI b) :: .int (nI a) :: st) h z Q := pe_icmp_lt hd ht (fun q => kt ((nI_ltI ha hb).mp q)) (fun q => kf (fun e => q ((nI_ltI ha hb).mpr e)))
theorem pe_icmpN_ge {a b : Nat} {off : Int} {tgt : Nat} (hd : decode M.2.1 pc = .ok (.if_icmp .ge off, 3)) (ht : (pc : Int) + off = (tgt : Int)) (ha : a < 2147483648) (hb : b < 2147483648) (kt : b ≤ a → pz_E l L xs M d fc fs tgt ls st h z Q) (kf : ¬ b ≤ a → pz_E l L xs M d fc fs (pc + 3) ls st h z Q) : pz_E l L xs M d fc fs pc ls (.int (nI b) :: .int (nI a) :: st) h z Q := pe_icmp_ge hd ht (fun q => kt ((nI_leI hb ha).mp q)) (fun q => kf (fun e => q ((nI_leI hb ha).mpr e)))
theorem pe_icmpN_gt {a b : Nat} {off : Int} {tgt : Nat} (hd : decode M.2.1 pc = .ok (.if_icmp .gt off, 3)) (ht : (pc : Int) + off = (tgt : Int)) (ha : a < 2147483648) (hb : b < 2147483648) (kt : b < a → pz_E l L xs M d fc fs tgt ls st h z Q) (kf : ¬ b < a → pz_E l L xs M d fc fs (pc + 3) ls st h z Q) : pz_E l L xs M d fc fs pc ls (.int (nI b) :: .int (nI a) :: st) h z Q := pe_icmp_gt hd ht (fun q => kt ((nI_ltI hb ha).mp q)) (fun q => kf (fun e => q ((nI_ltI hb ha).mpr e)))
theorem pe_icmpN_le {a b : Nat} {off : Int} {tgt : Nat} (hd : decode M.2.1 pc = .ok (.if_icmp .le off, 3)) (ht : (pc : Int) + off = (tgt : Int)) (ha : a < 2147483648) (hb : b < 2147483648) (kt : a ≤ b → pz_E l L xs M d fc fs tgt ls st h z Q) (kf : ¬ a ≤ b → pz_E l L xs M d fc fs (pc + 3) ls st h z Q) : pz_E l L xs M d fc fs pc ls (.int (nI b) :: .int (nI a) :: st) h z Q := pe_icmp_le hd ht (fun q => kt ((nI_leI ha hb).mp q)) (fun q => kf (fun e => q ((nI_leI ha hb).mpr e)))
theorem pe_ialdN {a n p : Nat} {f : Nat → Int32} (hd : decode M.2.1 pc = .ok (.iaload, 1)) (hh : h a = some (.inl (0, n, .inl f))) (hp : p < n) (hn : n < 2147483648) (kk : pz_E l L xs M d fc fs (pc + 1) ls (.int (f p) :: st) h z Q) : pz_E l L xs M d fc fs pc ls (.int (nI p) :: .ref a :: st) h z Q := pe_iald hd (t := 0) rfl hh (vp_in_nI hp hn) (by rw [nI_clamp (Nat.lt_trans hp hn)]; exact kk)
theorem pe_zaldN {a n p : Nat} {f : Nat → Int32} (hd : decode M.2.1 pc = .ok (.baload, 1)) (hh : h a = some (.inl (1, n, .inl f))) (hp : p < n) (hn : n < 2147483648) (kk : pz_E l L xs M d fc fs (pc + 1) ls (.int (f p) :: st) h z Q) : pz_E l L xs M d fc fs pc ls (.int (nI p) :: .ref a :: st) h z Q := pe_zald hd (t := 1) rfl hh (vp_in_nI hp hn) (by rw [nI_clamp (Nat.lt_trans hp hn)]; exact kk)
theorem pe_iastN {a n p : Nat} {f : Nat → Int32} {x : Int32} (hd : decode M.2.1 pc = .ok (.iastore, 1)) (hh : h a = some (.inl (0, n, .inl f))) (hp : p < n) (hn : n < 2147483648) (kk : pz_E l L xs M d fc fs (pc + 1) ls st (pu h a (.inl (0, n, .inl (upd f p x)))) z Q) : pz_E l L xs M d fc fs pc ls (.int x :: .int (nI p) :: .ref a :: st) h z Q := pe_iast hd (t := 0) rfl hh (vp_in_nI hp hn) (by rw [nI_clamp (Nat.lt_trans hp hn)]; exact kk)
theorem pe_zastN {a n p : Nat} {f : Nat → Int32} {x : Bool} (hd : decode M.2.1 pc = .ok (.bastore, 1)) (hh : h a = some (.inl (1, n, .inl f))) (hp : p < n) (hn : n < 2147483648) (kk : pz_E l L xs M d fc fs (pc + 1) ls st (pu h a (.inl (1, n, .inl (upd f p (pb x))))) z Q) : pz_E l L xs M d fc fs pc ls (.int (pb x) :: .int (nI p) :: .ref a :: st) h z Q := pe_zast hd (t := 1) rfl hh (vp_in_nI hp hn) (by rw [nI_clamp (Nat.lt_trans hp hn), pb_nar]; exact kk)
theorem pe_aaldN {a t n p w : Nat} {C : String} {f : Nat → Option Nat} (hd : decode M.2.1 pc = .ok (.aaload, 1)) (ht : px_ts[t]? = some (.object C)) (hh : h a = some (.inl (t, n, .inr (.inr (.inr (.inr f)))))) (hp : p < n) (hn : n < 2147483648) (hw : f p = some w) (kk : pz_E l L xs M d fc fs (pc + 1) ls (.ref w :: st) h z Q) : pz_E l L xs M d fc fs pc ls (.int (nI p) :: .ref a :: st) h z Q := pe_aald hd ht hh (vp_in_nI hp hn) (by rw [nI_clamp (Nat.lt_trans hp hn)]; exact hw) kk
theorem pe_top {x y : Value} (e : x = y) (kk : pz_E l L xs M d fc fs pc ls (y :: st) h z Q) : pz_E l L xs M d fc fs pc ls (x :: st) h z Q := by rw [e]; exact kk
theorem pe_st {st' : List Value} (e : st = st') (kk : pz_E l L xs M d fc fs pc ls st' h z Q) : pz_E l L xs M d fc fs pc ls st h z Q := by rw [e]; exact kk
theorem pe_pu {a : Nat} {c : pz_C} (kk : ∀ h2 : pz_H, h2 a = some c → (∀ j, j ≠ a → h2 j = h j) → pz_E l L xs M d fc fs pc ls st h2 z Q) : pz_E l L xs M d fc fs pc ls st (pu h a c) z Q := kk _ (pu_eq _ _ _) (fun j hj => pu_ne hj)
end PR
theorem frm.st {lo hi k : Nat} {h h1 h2 : pz_H} (a : frm lo hi h h1) (o : ∀ j, j ≠ k → h2 j = h1 j) (h1k : lo ≤ k) (h2k : k < hi) : frm lo hi h h2 := fun q hq => (o q (by omega)).trans (a q hq)
