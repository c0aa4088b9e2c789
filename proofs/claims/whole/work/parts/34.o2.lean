/-! calls on both: revoke, tick -/
theorem RM.nm {np : Nat} {mw mo mr mt : Nat → Int32} {mn : Nat → Bool} {md : Nat → Int32} {ts ck : Nat} {op : Nat → Bool} {Mow Mtk Mdl Mrt Mwd : Nat → Int32} (r : RM np mw mo mr mt mn md ts ck op Mow Mtk Mdl Mrt Mwd) {q : Nat} (hq : q < np) (hc : ck + 20 < 2147483648) : mn q = decide (0 < Mdl q) := by
  cases h : mn q with
  | true =>
    obtain ⟨-, h2, d, h3, h4, h5⟩ := r.dy q hq h
    rw [h2, h5]
    exact (decide_eq_true (show nI 0 < nI d from (nI_ltI (by omega) (by omega)).mpr h3)).symm
  | false => rw [r.d0 q hq h]; decide
theorem RM.pg {np : Nat} {mw mo mr mt : Nat → Int32} {mn : Nat → Bool} {md : Nat → Int32} {ts ck : Nat} {op : Nat → Bool} {Mow Mtk Mdl Mrt Mwd : Nat → Int32} (r : RM np mw mo mr mt mn md ts ck op Mow Mtk Mdl Mrt Mwd) {a : Nat} (ha : a < 6) (hc : ck + 20 < 2147483648) (ht : ts < 2147483647) : pgn np Mow Mtk (fun j => decide (0 < Mdl j)) (nI a) = pgn np mo mt mn (nI a) := by
  have hC : ∀ j, j < np → cNm Mow (fun j => decide (0 < Mdl j)) (nI a) j = cNm mo mn (nI a) j := fun j hj => by
    unfold cNm
    rw [r.ow j hj, r.nm hj hc]
  unfold pgn
  rw [cnt_congr np 0 (fun j _ h2 => hC j (by omega)), sel_congr (C' := cNm mo mn (nI a)) (lt' := lTk mt) np 0 none (fun j _ h2 => hC j (by omega)) (fun _ e => by cases e) ?_]
  intro x y hx hy h1 h2
  rw [hC x (by omega)] at h1
  rw [hC y (by omega)] at h2
  unfold cNm at h1 h2
  rw [Bool.and_eq_true] at h1 h2
  have g1 : ¬ mo x = -1 := by rw [of_decide_eq_true h1.1]; exact nI_nem1 (by omega)
  have g2 : ¬ mo y = -1 := by rw [of_decide_eq_true h2.1]; exact nI_nem1 (by omega)
  obtain ⟨t, a1, a2, a3⟩ := r.tk x (by omega) g1
  obtain ⟨u, b1, b2, b3⟩ := r.tk y (by omega) g2
  unfold lTk
  rw [a2, a3, b2, b3]
  congr 1
  have e1 : (nI (t + 1) ≤ nI (u + 1)) ↔ (nI t ≤ nI u) := by rw [nI_leI (by omega) (by omega), nI_leI (by omega) (by omega)]; omega
  simp only [e1]
theorem RM.name {np : Nat} {mw mo mr mt : Nat → Int32} {mn : Nat → Bool} {md : Nat → Int32} {ts ck : Nat} {op : Nat → Bool} {Mow Mtk Mdl Mrt Mwd : Nat → Int32} (r : RM np mw mo mr mt mn md ts ck op Mow Mtk Mdl Mrt Mwd) {q dl : Nat} (hm : ¬ mo q = -1) (h1 : 1 ≤ dl) (h2 : dl ≤ 20) : RM np mw mo mr mt (updB mn q true) (upd md q (nI (ck + dl))) ts ck op Mow Mtk (upd Mdl q (nI (ck + dl))) Mrt Mwd := by
  refine ⟨r.ow, r.own, r.tk, fun p hp h9 => ?_, fun p hp h9 => ?_, r.rt, r.wd⟩
  · by_cases e : p = q
    · subst e; exact ⟨hm, by rw [upd_eq, upd_eq], ck + dl, by omega, by omega, upd_eq _ _ _⟩
    · rw [updB_ne e] at h9; rw [upd_ne e, upd_ne e]; exact r.dy p hp h9
  · by_cases e : p = q
    · subst e; rw [updB_eq] at h9; cases h9
    · rw [updB_ne e] at h9; rw [upd_ne e]; exact r.d0 p hp h9
theorem RM.rv {np : Nat} {mw mo mr mt : Nat → Int32} {ts ck : Nat} {op : Nat → Bool} {Mow Mtk Mrt Mwd : Nat → Int32} {a dl : Nat} (ha : a < 6) (hc : ck + 20 < 2147483648) (ht : ts < 2147483647) (h1 : 1 ≤ dl) (h2 : dl ≤ 20) : ∀ (k : Nat) (mn : Nat → Bool) (md Mdl : Nat → Int32), RM np mw mo mr mt mn md ts ck op Mow Mtk Mdl Mrt Mwd → (rvm np Mow Mtk (nI a) (nI (ck + dl)) k Mdl).1 = (rvk np mo mt (nI a) (nI (ck + dl)) k mn md).1 ∧ RM np mw mo mr mt (rvk np mo mt (nI a) (nI (ck + dl)) k mn md).2.1 (rvk np mo mt (nI a) (nI (ck + dl)) k mn md).2.2 ts ck op Mow Mtk (rvm np Mow Mtk (nI a) (nI (ck + dl)) k Mdl).2 Mrt Mwd
  | 0, mn, md, Mdl, r => ⟨rfl, r⟩
  | k + 1, mn, md, Mdl, r => by
    have hp := r.pg ha hc ht
    cases hq : pgn np mo mt mn (nI a) with
    | none =>
      rw [hq] at hp
      rw [rvk_n hq, rvm_n hp]
      exact ⟨rfl, r⟩
    | some q =>
      rw [hq] at hp
      obtain ⟨g1, g2⟩ := pgn_lt hq
      unfold cNm at g2
      rw [Bool.and_eq_true] at g2
      have g3 : ¬ mo q = -1 := by rw [of_decide_eq_true g2.1]; exact nI_nem1 (by omega)
      obtain ⟨i1, i2⟩ := RM.rv ha hc ht h1 h2 k _ _ _ (r.name g3 h1 h2)
      have e1 := rvk_s (np := np) (mo := mo) (mt := mt) (x := nI a) (dv := nI (ck + dl)) (n := k + 1) (i := 0) (mn := mn) (md := md) (by omega) hq
      have e2 := rvm_s (np := np) (ow := Mow) (tk := Mtk) (x := nI a) (dv := nI (ck + dl)) (n := k + 1) (i := 0) (D := Mdl) (by omega) hp
      rw [show k + 1 - 0 = k + 1 from rfl, show k + 1 - (0 + 1) = k from rfl] at e1 e2
      rw [e1, e2]
      exact ⟨by rw [i1], i2⟩
set_option maxHeartbeats 4000000 in
set_option maxRecDepth 20000 in
theorem op_revoke {l : Launch} {L : Nat} {xs : Nat → Int32} {h : pz_H} {z n : Nat} (x y w : Int32) (hn : n < 4000) (s : ST h n) : OPS l L xs M_K_revoke M_Mo_revoke 3 2 [.int x, .int y, .int w] h z n := by
  obtain ⟨np, nb, mw, mo, mr, mt, mn, md, ts, ck, dw, dn, os, ol, fb, f13, lost, dr, fl, op, mp, fi, lk, pp, pl, pe, qb, qn, qf, ql, td, tl, c1, o1, y1, n1, l1, c2, o2, y2, n2, l2, sa, sx, Mfi, Mlk, Mow, Mtk, Mdl, Mrt, Mwd, Mgo, Mgm, Mln, Mcd, Mst, Mfm, Mfs, Mfl, Mfb, Mho, Mwo, Mda, Men, Mke, Mva, k, e, r⟩ := s
  have hts := r.tsn
  have hck := r.ckn
  cases ho : (opn op x && (rng y (nI 1) (nI 8) && rng w (nI 1) (nI 20))) with
  | false => exact OPS.nn k e r (c_K_revoke_no k.hK k.hap x y w ho) (c_Mo_revoke_no e.hMo k.np32 k.nb32 e.hOp e.hOw e.hTk e.hDl x y w ho)
  | true =>
    rw [Bool.and_eq_true, Bool.and_eq_true] at ho
    obtain ⟨ho, h1, h2⟩ := ho
    obtain ⟨a, ha, hop, rfl⟩ := opn_N ho
    obtain ⟨c, hc1, hc8, rfl⟩ := rng_N (by decide) (by decide) h1
    obtain ⟨dl, hd1, hd20, rfl⟩ := rng_N (by decide) (by decide) h2
    obtain ⟨i1, i2⟩ := RM.rv (dl := dl) ha (by omega) (by omega) hd1 hd20 c mn md Mdl r.rm
    have hM : ∀ (h1 : pz_H), MOD h1 np nb ck ts lost ol f13 op mp sa sx Mfi Mlk Mow Mtk Mdl Mrt Mwd Mgo Mgm Mln Mcd Mst Mfm Mfs Mfl Mfb Mho Mwo Mda Men Mke Mva → pz_K l L xs M_Mo_revoke 2 0 0 [.ref 166, .int (nI a), .int (nI c), .int (nI dl)] h1 z (fun v' h' z' => v' = some (.int (nI (rvk np mo mt (nI a) (nI (ck + dl)) c mn md).1)) ∧ z = z' ∧ AI h' 173 32 (rvm np Mow Mtk (nI a) (nI (ck + dl)) c Mdl).2 ∧ frx [173] h1 h') := fun h1 e1 => by
      rw [← i1]
      exact c_Mo_revoke_ok e1.hMo k.np32 k.nb32 e1.hOp e1.hOw e1.hTk e1.hDl ha hop hc1 hc8 hd1 hd20
    refine OPS.ch2 (c_K_revoke_ok k.hK k.hap k.hm ha ho hc1 hc8 hd1 hd20) (fun h1 hp => ?_) (fun h1 (k1 : KER h1 np nb mw mo mr mt (rvk np mo mt (nI a) (nI (ck + dl)) c mn md).2.1 (rvk np mo mt (nI a) (nI (ck + dl)) c mn md).2.2 ts ck dw dn os ol fb f13 lost dr fl op mp fi lk pp pl pe qb qn qf ql td tl c1 o1 y1 n1 l1 c2 o2 y2 n2 l2) (e1 : MOD h1 np nb ck ts lost ol f13 op mp sa sx Mfi Mlk Mow Mtk Mdl Mrt Mwd Mgo Mgm Mln Mcd Mst Mfm Mfs Mfl Mfb Mho Mwo Mda Men Mke Mva) => hM h1 e1) (fun h1 h2 k1 e1 hp2 => ?_)
    · obtain ⟨hm, hf⟩ := hp
      have k1 : KER h1 np nb mw mo mr mt (rvk np mo mt (nI a) (nI (ck + dl)) c mn md).2.1 (rvk np mo mt (nI a) (nI (ck + dl)) c mn md).2.2 ts ck dw dn os ol fb f13 lost dr fl op mp fi lk pp pl pe qb qn qf ql td tl c1 o1 y1 n1 l1 c2 o2 y2 n2 l2 := ⟨k.hK.on (fun c h1 h2 => hf c (by omega)) (fun c h1 h2 => hf c (by omega)), hm, k.hd.on (fun c h1 h2 => hf c (by omega)), k.ho.on (fun c h1 h2 => hf c (by omega)), k.hr.on (fun c h1 h2 => hf c (by omega)), fun i hi => (k.ap i hi).on (fun c h1 h2 => hf c (by omega))⟩
      have e1 : MOD h1 np nb ck ts lost ol f13 op mp sa sx Mfi Mlk Mow Mtk Mdl Mrt Mwd Mgo Mgm Mln Mcd Mst Mfm Mfs Mfl Mfb Mho Mwo Mda Men Mke Mva := e.mv (fun c hc => hf c (by omega))
      exact ⟨⟨_, k1.hK.1⟩, ⟨_, e1.hMo⟩, k1, e1⟩
    · obtain ⟨hDl, hf2⟩ := hp2
      have hR : REL np nb mw mo mr mt (rvk np mo mt (nI a) (nI (ck + dl)) c mn md).2.1 (rvk np mo mt (nI a) (nI (ck + dl)) c mn md).2.2 ts ck dw dn os ol fb f13 lost dr fl op mp fi lk pp pl pe qb qn qf ql td tl c1 o1 y1 n1 l1 c2 o2 y2 n2 l2 sa sx Mfi Mlk Mow Mtk (rvm np Mow Mtk (nI a) (nI (ck + dl)) c Mdl).2 Mrt Mwd Mgo Mgm Mln Mcd Mst Mfm Mfs Mfl Mfb Mho Mwo Mda Men Mke Mva (n + 1) := by
        exact ⟨by have := r.tsn; omega, by have := r.ckn; omega, i2, r.rd, r.ro, r.rf, r.ra⟩
      exact ST.mk (k1.mv (hf2.lo (by decide))) ⟨MOB.mv e1.hMo (hf2 166 (by decide)), (hf2 167 (by decide)).trans e1.hOp, (hf2 168 (by decide)).trans e1.hIm, (hf2 169 (by decide)).trans e1.hFi, (hf2 170 (by decide)).trans e1.hLi, (hf2 171 (by decide)).trans e1.hOw, (hf2 172 (by decide)).trans e1.hTk, hDl, (hf2 174 (by decide)).trans e1.hRt, (hf2 175 (by decide)).trans e1.hWd, (hf2 176 (by decide)).trans e1.hGo, (hf2 177 (by decide)).trans e1.hGm, (hf2 178 (by decide)).trans e1.hLn, (hf2 179 (by decide)).trans e1.hCd, (hf2 180 (by decide)).trans e1.hSt, (hf2 181 (by decide)).trans e1.hFm, (hf2 182 (by decide)).trans e1.hFs, (hf2 183 (by decide)).trans e1.hFl, (hf2 184 (by decide)).trans e1.hFb, (hf2 185 (by decide)).trans e1.hHo, (hf2 186 (by decide)).trans e1.hWo, (hf2 187 (by decide)).trans e1.hDa, (hf2 188 (by decide)).trans e1.hEn, (hf2 189 (by decide)).trans e1.hKe, (hf2 190 (by decide)).trans e1.hVa⟩ hR
theorem cnt_updB {P : Nat → Bool} {q : Nat} (hq : P q = true) : ∀ k i, i ≤ q → q < i + k → cnt (updB P q false) k i + 1 = cnt P k i
  | 0, i, h1, h2 => by omega
  | k + 1, i, h1, h2 => by
    unfold cnt
    by_cases e : i = q
    · subst e
      rw [updB_eq, if_neg (by decide), if_pos hq, cnt_congr (P := updB P i false) (P' := P) k (i + 1) (fun j g1 g2 => updB_ne (by omega))]
      omega
    · rw [updB_ne e]
      have := cnt_updB hq k (i + 1) (by omega) (by omega)
      omega
theorem cnt_z {P : Nat → Bool} : ∀ k i, cnt P k i = 0 → ∀ j, i ≤ j → j < i + k → P j = false
  | 0, i, _, j, h1, h2 => by omega
  | k + 1, i, h, j, h1, h2 => by
    unfold cnt at h
    by_cases e : i = j
    · subst e
      cases c : P i with
      | false => rfl
      | true => rw [c, if_pos rfl] at h; omega
    · exact cnt_z k (i + 1) (by omega) j (by omega) (by omega)
theorem sel_z {C : Nat → Bool} {lt : Nat → Nat → Bool} : ∀ k i, (∀ j, i ≤ j → j < i + k → C j = false) → sel C lt k i none = none
  | 0, _, _ => rfl
  | k + 1, i, h => by
    unfold sel
    rw [show bst C lt i none = none from if_neg (by rw [h i (Nat.le_refl _) (by omega)]; decide)]
    exact sel_z k (i + 1) (fun j h1 h2 => h j (by omega) (by omega))
theorem tks_fu {np ck : Nat} {md : Nat → Int32} : ∀ (k1 k2 : Nat) (mn : Nat → Bool), cnt mn np 0 ≤ k1 → k1 ≤ k2 → tks np md ck k1 mn = tks np md ck k2 mn
  | 0, k2, mn, h1, h2 => by
    have hz : sel (cDu mn md ck) (lDu md) np 0 none = none := sel_z np 0 (fun j g1 g2 => by
      unfold cDu
      rw [cnt_z (P := mn) np 0 (by omega) j g1 g2]
      rfl)
    rw [tks_n hz, tks_n hz]
  | k1 + 1, 0, mn, h1, h2 => by omega
  | k1 + 1, k2 + 1, mn, h1, h2 => by
    cases hs : sel (cDu mn md ck) (lDu md) np 0 none with
    | none => rw [tks_n hs, tks_n hs]
    | some q =>
      obtain ⟨g1, g2⟩ := sel_in np 0 none (fun _ e => by cases e) q hs
      unfold cDu at g2
      rw [Bool.and_eq_true] at g2
      have e1 := tks_s (np := np) (md := md) (ck := ck) (n := k1 + 1) (i := 0) (mn := mn) (by omega) hs
      have e2 := tks_s (np := np) (md := md) (ck := ck) (n := k2 + 1) (i := 0) (mn := mn) (by omega) hs
      rw [show k1 + 1 - 0 = k1 + 1 from rfl, show k1 + 1 - (0 + 1) = k1 from rfl] at e1
      rw [show k2 + 1 - 0 = k2 + 1 from rfl, show k2 + 1 - (0 + 1) = k2 from rfl] at e2
      have hc := cnt_updB (P := mn) g2.1 np 0 (by omega) g1
      rw [e1, e2, tks_fu k1 k2 (updB mn q false) (by omega) (by omega)]
theorem RM.du {np : Nat} {mw mo mr mt : Nat → Int32} {mn : Nat → Bool} {md : Nat → Int32} {ts ck : Nat} {op : Nat → Bool} {Mow Mtk Mdl Mrt Mwd : Nat → Int32} (r : RM np mw mo mr mt mn md ts ck op Mow Mtk Mdl Mrt Mwd) {q : Nat} (hq : q < np) (hc : ck + 20 < 2147483648) (c9 : Nat) : cDu (fun j => !decide (Mdl j = 0)) Mdl c9 q = cDu mn md c9 q := by
  unfold cDu
  show (!decide (Mdl q = 0) && _) = _
  cases h : mn q with
  | true =>
    obtain ⟨-, h2, d, h3, h4, h5⟩ := r.dy q hq h
    have hne : ¬ nI d = (0 : Int32) := fun e => absurd (nI_inj (a := d) (b := 0) (by omega) (by omega) e) (by omega)
    rw [h2, h5, decide_eq_false hne]
    rfl
  | false => rw [r.d0 q hq h]; rfl
theorem RM.sl {np : Nat} {mw mo mr mt : Nat → Int32} {mn : Nat → Bool} {md : Nat → Int32} {ts ck : Nat} {op : Nat → Bool} {Mow Mtk Mdl Mrt Mwd : Nat → Int32} (r : RM np mw mo mr mt mn md ts ck op Mow Mtk Mdl Mrt Mwd) (hc : ck + 20 < 2147483648) (c9 : Nat) : sel (cDu (fun j => !decide (Mdl j = 0)) Mdl c9) (lDu Mdl) np 0 none = sel (cDu mn md c9) (lDu md) np 0 none := by
  refine sel_congr np 0 none (fun j _ h2 => r.du (by omega) hc c9) (fun _ e => by cases e) ?_
  intro x y hx hy h1 h2
  rw [r.du (by omega) hc c9] at h1 h2
  unfold cDu at h1 h2
  rw [Bool.and_eq_true] at h1 h2
  unfold lDu
  rw [(r.dy x (by omega) h1.1).2.1, (r.dy y (by omega) h2.1).2.1]
/-- the lists of pages taken away -/
def RGN (pp : Nat → Nat → Int32) (pl pe : Nat → Nat) (Mgo : Nat → Int32) (Mgm : Nat → Nat) : Prop := ∀ a, a < 6 → pl a ≤ 8 ∧ pe a < 8 ∧ Mgm a = pl a ∧ ∀ k, k < pl a → Mgo (a * 8 + k) = pp a ((pe a + 8 - 1 - k) % 8)
theorem RGN.step {pp : Nat → Nat → Int32} {pl pe : Nat → Nat} {Mgo : Nat → Int32} {Mgm : Nat → Nat} (r : RGN pp pl pe Mgo Mgm) {a q : Nat} (ha : a < 6) : RGN (va_up pp a (upd (pp a) (pe a) (nI q))) (va_up pl a (if pl a + 1 < 8 then pl a + 1 else 8)) (va_up pe a ((pe a + 1) % 8)) (upd (fil Mgo (fun j => Mgo (j - 1)) (a * 8 + 1) 7) (a * 8) (nI q)) (va_up Mgm a (if Mgm a < 8 then Mgm a + 1 else Mgm a)) := by
  intro b hb
  obtain ⟨g1, g2, g3, g4⟩ := r b hb
  by_cases e : b = a
  · subst e
    rw [va_eq, va_eq, va_eq, va_eq, g3]
    refine ⟨by split <;> omega, Nat.mod_lt _ (by omega), by split <;> split <;> omega, fun k hk => ?_⟩
    have hk8 : k < 8 := by split at hk <;> omega
    by_cases k0 : k = 0
    · subst k0
      rw [show b * 8 + 0 = b * 8 from rfl, upd_eq, show ((pe b + 1) % 8 + 8 - 1 - 0) % 8 = pe b by omega, upd_eq]
    · rw [upd_ne (by omega), fil_i (by omega), show b * 8 + k - 1 = b * 8 + (k - 1) by omega, g4 (k - 1) (by split at hk <;> omega), upd_ne (by omega)]
      congr 1
      omega
  · rw [va_ne e, va_ne e, va_ne e, va_ne e]
    refine ⟨g1, g2, g3, fun k hk => ?_⟩
    rw [upd_ne (by omega), fil_o (by omega)]
    exact g4 k hk
theorem RM.tk9 {np : Nat} {mw mt md : Nat → Int32} {ts ck : Nat} {op : Nat → Bool} {Mtk Mwd : Nat → Int32} (hc : ck + 20 < 2147483648) (c9 : Nat) : ∀ (k : Nat) (mo mr : Nat → Int32) (mn : Nat → Bool) (pp : Nat → Nat → Int32) (pl pe : Nat → Nat) (Mow Mdl Mrt Mgo : Nat → Int32) (Mgm : Nat → Nat), RM np mw mo mr mt mn md ts ck op Mow Mtk Mdl Mrt Mwd → RGN pp pl pe Mgo Mgm → tkm np c9 k Mdl = tks np md c9 k mn ∧ RM np mw (tsF ((mo, mr, mn, pp, pl, pe) : TS) (tks np md c9 k mn)).1 (tsF ((mo, mr, mn, pp, pl, pe) : TS) (tks np md c9 k mn)).2.1 mt (tsF ((mo, mr, mn, pp, pl, pe) : TS) (tks np md c9 k mn)).2.2.1 md ts ck op (tmF ((Mow, Mdl, Mrt, Mgo, Mgm) : TM) (tks np md c9 k mn)).1 Mtk (tmF ((Mow, Mdl, Mrt, Mgo, Mgm) : TM) (tks np md c9 k mn)).2.1 (tmF ((Mow, Mdl, Mrt, Mgo, Mgm) : TM) (tks np md c9 k mn)).2.2.1 Mwd ∧ RGN (tsF ((mo, mr, mn, pp, pl, pe) : TS) (tks np md c9 k mn)).2.2.2.1 (tsF ((mo, mr, mn, pp, pl, pe) : TS) (tks np md c9 k mn)).2.2.2.2.1 (tsF ((mo, mr, mn, pp, pl, pe) : TS) (tks np md c9 k mn)).2.2.2.2.2 (tmF ((Mow, Mdl, Mrt, Mgo, Mgm) : TM) (tks np md c9 k mn)).2.2.2.1 (tmF ((Mow, Mdl, Mrt, Mgo, Mgm) : TM) (tks np md c9 k mn)).2.2.2.2
  | 0, mo, mr, mn, pp, pl, pe, Mow, Mdl, Mrt, Mgo, Mgm, r, g => ⟨rfl, r, g⟩
  | k + 1, mo, mr, mn, pp, pl, pe, Mow, Mdl, Mrt, Mgo, Mgm, r, g => by
    have hs := r.sl hc c9
    cases hq : sel (cDu mn md c9) (lDu md) np 0 none with
    | none =>
      rw [hq] at hs
      rw [tks_n hq, tkm_n hs]
      exact ⟨rfl, r, g⟩
    | some q =>
      rw [hq] at hs
      obtain ⟨g1, g2⟩ := sel_in np 0 none (fun _ e => by cases e) q hq
      rw [Nat.zero_add] at g1
      unfold cDu at g2
      rw [Bool.and_eq_true] at g2
      obtain ⟨a, ha, hoa, -⟩ := (r.own q g1).resolve_left (r.dy q g1 g2.1).1
      have hcl : (mo q).toNatClampNeg = a := by rw [hoa, nI_clamp (by omega)]
      have hcm : (Mow q).toNatClampNeg = a := by rw [r.ow q g1]; exact hcl
      obtain ⟨i1, i2, i3⟩ := RM.tk9 hc c9 k _ _ _ _ _ _ _ _ _ _ _ (r.free g1) (g.step (q := q) ha)
      have e1 := tks_s (np := np) (md := md) (ck := c9) (n := k + 1) (i := 0) (mn := mn) (by omega) hq
      have e2 := tkm_s (np := np) (ck := c9) (n := k + 1) (i := 0) (D := Mdl) (by omega) hs
      rw [show k + 1 - 0 = k + 1 from rfl, show k + 1 - (0 + 1) = k from rfl] at e1 e2
      rw [e1, e2, show upd Mdl q 0 = upd Mdl q (nI 0) from rfl, i1]
      have s1 : tsF ((mo, mr, mn, pp, pl, pe) : TS) (q :: tks np md c9 k (updB mn q false)) = tsF ((upd mo q (-1), fil mr (fun _ => 0) (q * 6) 6, updB mn q false, va_up pp a (upd (pp a) (pe a) (nI q)), va_up pl a (if pl a + 1 < 8 then pl a + 1 else 8), va_up pe a ((pe a + 1) % 8)) : TS) (tks np md c9 k (updB mn q false)) := by
        show tsF (tst1 _ q) _ = _
        unfold tst1
        simp only [hcl]
      have s2 : tmF ((Mow, Mdl, Mrt, Mgo, Mgm) : TM) (q :: tks np md c9 k (updB mn q false)) = tmF ((upd Mow q (-1), upd Mdl q (nI 0), fil Mrt (fun _ => 0) (q * 6) 6, upd (fil Mgo (fun j => Mgo (j - 1)) (a * 8 + 1) 7) (a * 8) (nI q), va_up Mgm a (if Mgm a < 8 then Mgm a + 1 else Mgm a)) : TM) (tks np md c9 k (updB mn q false)) := by
        show tmF (tm1 _ q) _ = _
        unfold tm1
        simp only [hcm]
        rfl
      rw [s1, s2]
      exact ⟨rfl, i2, i3⟩
theorem RM.cku {np : Nat} {mw mo mr mt : Nat → Int32} {mn : Nat → Bool} {md : Nat → Int32} {ts ck : Nat} {op : Nat → Bool} {Mow Mtk Mdl Mrt Mwd : Nat → Int32} (r : RM np mw mo mr mt mn md ts ck op Mow Mtk Mdl Mrt Mwd) {c9 : Nat} (h : ck ≤ c9) : RM np mw mo mr mt mn md ts c9 op Mow Mtk Mdl Mrt Mwd := ⟨r.ow, r.own, r.tk, fun q hq hm => by obtain ⟨h1, h2, d, h3, h4, h5⟩ := r.dy q hq hm; exact ⟨h1, h2, d, h3, by omega, h5⟩, r.d0, r.rt, r.wd⟩
set_option maxHeartbeats 4000000 in
set_option maxRecDepth 20000 in
theorem op_tick {l : Launch} {L : Nat} {xs : Nat → Int32} {h : pz_H} {z n : Nat} (x : Int32) (hn : n < 4000) (s : ST h n) : OPS l L xs M_K_tick M_Mo_tick 3 1 [.int x] h z n := by
  obtain ⟨np, nb, mw, mo, mr, mt, mn, md, ts, ck, dw, dn, os, ol, fb, f13, lost, dr, fl, op, mp, fi, lk, pp, pl, pe, qb, qn, qf, ql, td, tl, c1, o1, y1, n1, l1, c2, o2, y2, n2, l2, sa, sx, Mfi, Mlk, Mow, Mtk, Mdl, Mrt, Mwd, Mgo, Mgm, Mln, Mcd, Mst, Mfm, Mfs, Mfl, Mfb, Mho, Mwo, Mda, Men, Mke, Mva, k, e, r⟩ := s
  have hts := r.tsn
  have hck := r.ckn
  cases ho : rng x (nI 1) (nI 100) with
  | false => exact OPS.nn k e r (c_K_tick_no k.hK k.hap x ho) (c_Mo_tick_no e.hMo k.np32 k.nb32 e.hOw e.hDl e.hRt e.hGo e.hGm x ho)
  | true =>
    obtain ⟨c, hc1, hc100, rfl⟩ := rng_N (by decide) (by decide) ho
    have hrg : RGN pp pl pe Mgo Mgm := fun a ha => ⟨(k.ap a ha).2.1.2.2.1, (k.ap a ha).2.1.2.2.2, (r.ra a ha).gm, (r.ra a ha).go⟩
    obtain ⟨i1, i2, i3⟩ := RM.tk9 (show ck + 20 < 2147483648 by omega) (ck + c) 32 mo mr mn pp pl pe Mow Mdl Mrt Mgo Mgm r.rm hrg
    have hfu : tks np md (ck + c) 32 mn = (tks np md (ck + c) np mn) := (tks_fu np 32 mn (cnt_le _ _ _) k.np32).symm
    rw [hfu] at i1 i2 i3
    have how : ∀ j, j < np → mn j = true → ∃ a, a < 6 ∧ mo j = nI a := fun j hj hm => by
      obtain ⟨a, ha, hoa, -⟩ := (r.rm.own j hj).resolve_left (r.rm.dy j hj hm).1
      exact ⟨a, ha, hoa⟩
    have hM : ∀ (h1 : pz_H), MOD h1 np nb ck ts lost ol f13 op mp sa sx Mfi Mlk Mow Mtk Mdl Mrt Mwd Mgo Mgm Mln Mcd Mst Mfm Mfs Mfl Mfb Mho Mwo Mda Men Mke Mva → pz_K l L xs M_Mo_tick 1 0 0 [.ref 166, .int (nI c)] h1 z (fun v' h' z' => v' = some (.int (nI (tks np md (ck + c) np mn).length)) ∧ z = z' ∧ MOB h' np nb (ck + c) ts lost ol f13 sa sx ∧ AI h' 171 32 (tmF ((Mow, Mdl, Mrt, Mgo, Mgm) : TM) (tks np md (ck + c) np mn)).1 ∧ AI h' 173 32 (tmF ((Mow, Mdl, Mrt, Mgo, Mgm) : TM) (tks np md (ck + c) np mn)).2.1 ∧ AI h' 174 192 (tmF ((Mow, Mdl, Mrt, Mgo, Mgm) : TM) (tks np md (ck + c) np mn)).2.2.1 ∧ AI h' 176 48 (tmF ((Mow, Mdl, Mrt, Mgo, Mgm) : TM) (tks np md (ck + c) np mn)).2.2.2.1 ∧ AN h' 177 6 (tmF ((Mow, Mdl, Mrt, Mgo, Mgm) : TM) (tks np md (ck + c) np mn)).2.2.2.2 ∧ frx [166, 171, 173, 174, 176, 177] h1 h') := fun h1 e1 => by
      have hM1 := c_Mo_tick_ok e1.hMo k.np32 k.nb32 e1.hOw e1.hDl e1.hRt e1.hGo e1.hGm (l := l) (L := L) (xs := xs) (z := z) hc1 hc100 (fun j hj h0 => by cases hm : mn j with | true => (rw [r.rm.ow j hj]; exact how j hj hm) | false => exact absurd (r.rm.d0 j hj hm) h0) (fun i hi => by have := hrg i hi; omega)
      rw [i1] at hM1
      exact hM1
    refine OPS.ch2 (c_K_tick_all k.hK k.hap k.hm hc1 hc100 (fun i hi => (k.ap i hi).2.1) how) (fun h1 hp => ?_) (fun h1 (k1 : KER h1 np nb mw (tsF ((mo, mr, mn, pp, pl, pe) : TS) (tks np md (ck + c) np mn)).1 (tsF ((mo, mr, mn, pp, pl, pe) : TS) (tks np md (ck + c) np mn)).2.1 mt (tsF ((mo, mr, mn, pp, pl, pe) : TS) (tks np md (ck + c) np mn)).2.2.1 md ts (ck + c) dw dn os ol fb f13 lost dr fl op mp fi lk (tsF ((mo, mr, mn, pp, pl, pe) : TS) (tks np md (ck + c) np mn)).2.2.2.1 (tsF ((mo, mr, mn, pp, pl, pe) : TS) (tks np md (ck + c) np mn)).2.2.2.2.1 (tsF ((mo, mr, mn, pp, pl, pe) : TS) (tks np md (ck + c) np mn)).2.2.2.2.2 qb qn qf ql td tl c1 o1 y1 n1 l1 c2 o2 y2 n2 l2) (e1 : MOD h1 np nb ck ts lost ol f13 op mp sa sx Mfi Mlk Mow Mtk Mdl Mrt Mwd Mgo Mgm Mln Mcd Mst Mfm Mfs Mfl Mfb Mho Mwo Mda Men Mke Mva) => hM h1 e1) (fun h1 h2 k1 e1 hp2 => ?_)
    · obtain ⟨hm, hgs, hf⟩ := hp
      have k1 : KER h1 np nb mw (tsF ((mo, mr, mn, pp, pl, pe) : TS) (tks np md (ck + c) np mn)).1 (tsF ((mo, mr, mn, pp, pl, pe) : TS) (tks np md (ck + c) np mn)).2.1 mt (tsF ((mo, mr, mn, pp, pl, pe) : TS) (tks np md (ck + c) np mn)).2.2.1 md ts (ck + c) dw dn os ol fb f13 lost dr fl op mp fi lk (tsF ((mo, mr, mn, pp, pl, pe) : TS) (tks np md (ck + c) np mn)).2.2.2.1 (tsF ((mo, mr, mn, pp, pl, pe) : TS) (tks np md (ck + c) np mn)).2.2.2.2.1 (tsF ((mo, mr, mn, pp, pl, pe) : TS) (tks np md (ck + c) np mn)).2.2.2.2.2 qb qn qf ql td tl c1 o1 y1 n1 l1 c2 o2 y2 n2 l2 := ⟨k.hK.on (fun c9 h1 h2 => hf c9 (by omega) (fun i hi => by omega)) (fun c9 h1 h2 => hf c9 (by omega) (fun i hi => by omega)), hm, k.hd.on (fun c9 h1 h2 => hf c9 (by omega) (fun i hi => by omega)), k.ho.on (fun c9 h1 h2 => hf c9 (by omega) (fun i hi => by omega)), k.hr.on (fun c9 h1 h2 => hf c9 (by omega) (fun i hi => by omega)), fun i hi => by obtain ⟨m1, m2, m3, m4, m5, m6, m7⟩ := k.ap i hi; exact ⟨m1.on (fun c9 h1 h2 => hf c9 (by omega) (fun j hj => by omega)), hgs i hi, m3.on (fun c9 h1 h2 => hf c9 (by omega) (fun j hj => by omega)), m4.on (fun c9 h1 h2 => hf c9 (by omega) (fun j hj => by omega)), m5.on (fun c9 h1 h2 => hf c9 (by omega) (fun j hj => by omega)), m6.on (fun c9 h1 h2 => hf c9 (by omega) (fun j hj => by omega)), m7⟩⟩
      have e1 : MOD h1 np nb ck ts lost ol f13 op mp sa sx Mfi Mlk Mow Mtk Mdl Mrt Mwd Mgo Mgm Mln Mcd Mst Mfm Mfs Mfl Mfb Mho Mwo Mda Men Mke Mva := e.mv (fun c9 hc => hf c9 (by omega) (fun j hj => by omega))
      exact ⟨⟨_, k1.hK.1⟩, ⟨_, e1.hMo⟩, k1, e1⟩
    · obtain ⟨hMo, hOw, hDl, hRt, hGo, hGm, hf2⟩ := hp2
      have hR : REL np nb mw (tsF ((mo, mr, mn, pp, pl, pe) : TS) (tks np md (ck + c) np mn)).1 (tsF ((mo, mr, mn, pp, pl, pe) : TS) (tks np md (ck + c) np mn)).2.1 mt (tsF ((mo, mr, mn, pp, pl, pe) : TS) (tks np md (ck + c) np mn)).2.2.1 md ts (ck + c) dw dn os ol fb f13 lost dr fl op mp fi lk (tsF ((mo, mr, mn, pp, pl, pe) : TS) (tks np md (ck + c) np mn)).2.2.2.1 (tsF ((mo, mr, mn, pp, pl, pe) : TS) (tks np md (ck + c) np mn)).2.2.2.2.1 (tsF ((mo, mr, mn, pp, pl, pe) : TS) (tks np md (ck + c) np mn)).2.2.2.2.2 qb qn qf ql td tl c1 o1 y1 n1 l1 c2 o2 y2 n2 l2 sa sx Mfi Mlk (tmF ((Mow, Mdl, Mrt, Mgo, Mgm) : TM) (tks np md (ck + c) np mn)).1 Mtk (tmF ((Mow, Mdl, Mrt, Mgo, Mgm) : TM) (tks np md (ck + c) np mn)).2.1 (tmF ((Mow, Mdl, Mrt, Mgo, Mgm) : TM) (tks np md (ck + c) np mn)).2.2.1 Mwd (tmF ((Mow, Mdl, Mrt, Mgo, Mgm) : TM) (tks np md (ck + c) np mn)).2.2.2.1 (tmF ((Mow, Mdl, Mrt, Mgo, Mgm) : TM) (tks np md (ck + c) np mn)).2.2.2.2 Mln Mcd Mst Mfm Mfs Mfl Mfb Mho Mwo Mda Men Mke Mva (n + 1) := by
        exact ⟨by have := r.tsn; omega, by omega, (i2.cku (Nat.le_add_right _ _)), r.rd, r.ro, r.rf, fun a ha => by have q := r.ra a ha; obtain ⟨-, -, j3, j4⟩ := i3 a ha; exact ⟨q.fk, j3, j4, q.q0, q.fs, q.fl, q.fb, q.t0, q.en, q.td, q.ti, q.ke, q.ln, q.l0, q.pr, q.yf, q.pf, q.sf⟩⟩
      exact ST.mk (k1.mv (hf2.lo (by decide))) ⟨hMo, (hf2 167 (by decide)).trans e1.hOp, (hf2 168 (by decide)).trans e1.hIm, (hf2 169 (by decide)).trans e1.hFi, (hf2 170 (by decide)).trans e1.hLi, hOw, (hf2 172 (by decide)).trans e1.hTk, hDl, hRt, (hf2 175 (by decide)).trans e1.hWd, hGo, hGm, (hf2 178 (by decide)).trans e1.hLn, (hf2 179 (by decide)).trans e1.hCd, (hf2 180 (by decide)).trans e1.hSt, (hf2 181 (by decide)).trans e1.hFm, (hf2 182 (by decide)).trans e1.hFs, (hf2 183 (by decide)).trans e1.hFl, (hf2 184 (by decide)).trans e1.hFb, (hf2 185 (by decide)).trans e1.hHo, (hf2 186 (by decide)).trans e1.hWo, (hf2 187 (by decide)).trans e1.hDa, (hf2 188 (by decide)).trans e1.hEn, (hf2 189 (by decide)).trans e1.hKe, (hf2 190 (by decide)).trans e1.hVa⟩ hR
