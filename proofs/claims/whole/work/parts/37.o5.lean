/-! calls on both: install -/
theorem ff_none {P : Nat → Bool} : ∀ k i, ¬ ff P k i < i + k → ∀ j, i ≤ j → j < i + k → P j = false
  | 0, i, _, j, h1, h2 => by omega
  | k + 1, i, h, j, h1, h2 => by
    unfold ff at h
    cases c : P i with
    | true => rw [c, if_pos rfl] at h; omega
    | false =>
      rw [c, if_neg (by decide)] at h
      by_cases e : i = j
      · subst e; exact c
      · exact ff_none k (i + 1) (by omega) j (by omega) (by omega)
theorem wst_lo {f : Nat → Int32} {x : Int32} : ∀ i, (∀ j, j < i → ¬ f j = x) → (wst f x i).2 = i ∧ ∀ j, j < i → (wst f x i).1 j = f j
  | 0, _ => ⟨rfl, fun _ h => absurd h (Nat.not_lt_zero _)⟩
  | i + 1, h => by
    obtain ⟨h1, h2⟩ := wst_lo i (fun j hj => h j (by omega))
    rw [wst_n (h i (by omega))]
    refine ⟨by show _ + 1 = _; rw [h1], fun j hj => ?_⟩
    show upd _ _ _ j = _
    rw [h1]
    by_cases e : j = i
    · subst e; exact upd_eq _ _ _
    · rw [upd_ne e]; exact h2 j (by omega)
theorem wst_hi {f : Nat → Int32} {x : Int32} {p : Nat} (hp : f p = x) : ∀ i, p < i → (∀ j, j < i → j ≠ p → ¬ f j = x) → (wst f x i).2 = i - 1 ∧ ∀ j, j < i - 1 → (wst f x i).1 j = if j < p then f j else f (j + 1)
  | 0, h, _ => by omega
  | i + 1, h, hx => by
    by_cases e : i = p
    · subst e
      rw [wst_y hp]
      obtain ⟨h1, h2⟩ := wst_lo (f := f) (x := x) i (fun j hj => hx j (by omega) (by omega))
      exact ⟨by rw [h1]; rfl, fun j hj => by rw [if_pos (by omega)]; exact h2 j (by omega)⟩
    · rw [wst_n (hx i (by omega) e)]
      obtain ⟨h1, h2⟩ := wst_hi hp i (by omega) (fun j hj => hx j (by omega))
      refine ⟨by show _ + 1 = _; rw [h1]; omega, fun j hj => ?_⟩
      show upd _ _ _ j = _
      rw [h1]
      by_cases e2 : j = i - 1
      · subst e2; rw [upd_eq, if_neg (by omega), show i - 1 + 1 = i by omega]
      · rw [upd_ne e2]; exact h2 j (by omega)
theorem RO.wst {os : Nat → Int32} {ol : Nat} {op : Nat → Bool} {l2 : Nat → Nat} {Mst : Nat → Int32} (r : RO os ol op l2 Mst) (x : Int32) : (wst Mst x ol).2 = drl os ol x ∧ ∀ j, j < drl os ol x → (wst Mst x ol).1 j = dro os ol x j := by
  unfold drl dro
  by_cases h : ff (fun j => decide (os j = x)) ol 0 < ol
  · rw [if_pos h, if_pos h]
    have hp := of_decide_eq_true (ff_is (fun j => decide (os j = x)) ol 0 (by omega))
    generalize ff (fun j => decide (os j = x)) ol 0 = p at h hp ⊢
    obtain ⟨h1, h2⟩ := wst_hi (f := Mst) (x := x) (p := p) (by rw [r.st p h]; exact hp) ol h (fun j hj hne q => hne (r.ij j p hj h (by rw [hp, ← r.st j hj]; exact q)))
    refine ⟨h1, fun j hj => ?_⟩
    rw [h2 j hj]
    unfold fil
    by_cases e : j < p
    · rw [if_pos e, if_neg (by omega)]; exact r.st j (by omega)
    · rw [if_neg e, if_pos (by omega)]; exact r.st (j + 1) (by omega)
  · rw [if_neg h, if_neg h]
    have hz := ff_none (P := fun j => decide (os j = x)) ol 0 (by omega)
    obtain ⟨h1, h2⟩ := wst_lo (f := Mst) (x := x) ol (fun j hj q => absurd (hz j (by omega) (by omega)) (by rw [show decide (os j = x) = true from decide_eq_true (by rw [← r.st j hj]; exact q)]; decide))
    exact ⟨h1, fun j hj => by rw [h2 j hj]; exact r.st j hj⟩
/-- each entry that is left stood there, and isn't x -/
theorem dro_in {os : Nat → Int32} {ol : Nat} {x : Int32} (hi : ∀ i j, i < ol → j < ol → os i = os j → i = j) {j : Nat} (hj : j < drl os ol x) : ∃ i, i < ol ∧ dro os ol x j = os i ∧ ¬ os i = x ∧ (if ff (fun j => decide (os j = x)) ol 0 < ol then (if j < ff (fun j => decide (os j = x)) ol 0 then i = j else i = j + 1) else i = j) := by
  unfold drl at hj
  unfold dro
  by_cases h : ff (fun j => decide (os j = x)) ol 0 < ol
  · rw [if_pos h] at hj ⊢
    simp only [if_pos h]
    have hp := of_decide_eq_true (ff_is (fun j => decide (os j = x)) ol 0 (by omega))
    generalize ff (fun j => decide (os j = x)) ol 0 = p at h hp ⊢
    unfold fil
    by_cases e : j < p
    · rw [if_neg (by omega)]; simp only [if_pos e]
      exact ⟨j, by omega, rfl, fun q => absurd (hi j p (by omega) h (q.trans hp.symm)) (by omega), rfl⟩
    · rw [if_pos (by omega)]; simp only [if_neg e]
      exact ⟨j + 1, by omega, rfl, fun q => absurd (hi (j + 1) p (by omega) h (q.trans hp.symm)) (by omega), rfl⟩
  · rw [if_neg h] at hj ⊢
    simp only [if_neg h]
    have hz := ff_none (P := fun j => decide (os j = x)) ol 0 (by omega)
    exact ⟨j, hj, rfl, of_decide_eq_false (hz j (by omega) (by omega)), rfl⟩
theorem RO.drop {os : Nat → Int32} {ol : Nat} {op : Nat → Bool} {l2 : Nat → Nat} {Mst : Nat → Int32} (r : RO os ol op l2 Mst) {a : Nat} {op' : Nat → Bool} {l2' : Nat → Nat} {Mst' : Nat → Int32} (hM : ∀ j, j < drl os ol (nI a) → Mst' j = dro os ol (nI a) j) (h1 : ∀ i, i ≠ a → op' i = op i ∧ l2' i = l2 i) : RO (dro os ol (nI a)) (drl os ol (nI a)) op' l2' Mst' ∧ ∀ j, j < drl os ol (nI a) → ¬ dro os ol (nI a) j = nI a := by
  refine ⟨⟨hM, fun j hj => ?_, fun i j hi hj e => ?_⟩, fun j hj => ?_⟩
  · obtain ⟨i, g1, g2, g3, -⟩ := dro_in r.ij hj
    obtain ⟨b, b1, b2, b3, b4⟩ := r.os i g1
    have hne : b ≠ a := fun q => g3 (by rw [b2, q])
    exact ⟨b, b1, by rw [g2]; exact b2, by rw [(h1 b hne).1]; exact b3, by rw [(h1 b hne).2]; exact b4⟩
  · obtain ⟨i', g1, g2, g3, g4⟩ := dro_in r.ij hi
    obtain ⟨j', k1, k2, k3, k4⟩ := dro_in r.ij hj
    have e9 := r.ij i' j' g1 k1 (by rw [← g2, ← k2]; exact e)
    split at g4
    · rw [if_pos (by assumption)] at k4
      split at g4 <;> split at k4 <;> omega
    · rw [if_neg (by assumption)] at k4
      omega
  · obtain ⟨i, g1, g2, g3, -⟩ := dro_in r.ij hj
    rw [g2]; exact g3
theorem RO.app {os : Nat → Int32} {ol : Nat} {op : Nat → Bool} {l2 : Nat → Nat} {Mst : Nat → Int32} (r : RO os ol op l2 Mst) {a : Nat} (ha : a < 6) (hop : op a = true) (hl : 0 < l2 a) (hn : ∀ j, j < ol → ¬ os j = nI a) : RO (upd os ol (nI a)) (ol + 1) op l2 (upd Mst ol (nI a)) := by
  refine ⟨fun j hj => ?_, fun j hj => ?_, fun i j hi hj e => ?_⟩
  · by_cases q : j = ol
    · subst q; rw [upd_eq, upd_eq]
    · rw [upd_ne q, upd_ne q]; exact r.st j (by omega)
  · by_cases q : j = ol
    · subst q; exact ⟨a, ha, upd_eq _ _ _, hop, hl⟩
    · rw [upd_ne q]; exact r.os j (by omega)
  · by_cases q : i = ol
    · subst q
      by_cases q2 : j = i
      · exact q2.symm
      · rw [upd_eq, upd_ne q2] at e; exact absurd e.symm (hn j (by omega))
    · by_cases q2 : j = ol
      · subst q2; rw [upd_eq, upd_ne q] at e; exact absurd e (hn i (by omega))
      · rw [upd_ne q, upd_ne q2] at e; exact r.ij i j (by omega) (by omega) e
/-- more places than kinds: two hold the same -/
theorem pigeon : ∀ (n : Nat) (f : Nat → Nat), (∀ i, i < n + 1 → f i < n) → ∃ i j, i < j ∧ j < n + 1 ∧ f i = f j
  | 0, f, h => absurd (h 0 (by omega)) (Nat.not_lt_zero _)
  | n + 1, f, h => by
    by_cases hx : ∃ i, i < n + 1 ∧ f i = f (n + 1)
    · obtain ⟨i, h1, h2⟩ := hx
      exact ⟨i, n + 1, h1, by omega, h2⟩
    · have hx' : ∀ i, i < n + 1 → f i ≠ f (n + 1) := fun i hi q => hx ⟨i, hi, q⟩
      obtain ⟨i, j, h1, h2, h3⟩ := pigeon n (fun i => if f i = n then f (n + 1) else f i) (fun i hi => by
        have g1 := h i (by omega)
        have g2 := h (n + 1) (by omega)
        have g3 := hx' i hi
        show (if f i = n then f (n + 1) else f i) < n
        split <;> omega)
      refine ⟨i, j, h1, by omega, ?_⟩
      have g1 := hx' i (by omega)
      have g2 := hx' j (by omega)
      have h3 : (if f i = n then f (n + 1) else f i) = (if f j = n then f (n + 1) else f j) := h3
      split at h3 <;> split at h3 <;> omega
theorem RO.room {os : Nat → Int32} {ol : Nat} {op : Nat → Bool} {l2 : Nat → Nat} {Mst : Nat → Int32} (r : RO os ol op l2 Mst) (ho : ol ≤ 6) {a : Nat} (ha : a < 6) (hn : ∀ j, j < ol → ¬ os j = nI a) : ol < 6 := by
  rcases Nat.lt_or_ge ol 6 with q | q
  · exact q
  · have h6 : ol = 6 := by omega
    subst h6
    have hc : ∀ j, j < 6 → cn (os j) < 6 ∧ cn (os j) ≠ a ∧ os j = nI (cn (os j)) := fun j hj => by
      obtain ⟨b, b1, b2, -⟩ := r.os j hj
      rw [b2, cn_nI (by omega)]
      exact ⟨b1, fun q => hn j hj (by rw [b2, q]), rfl⟩
    obtain ⟨i, j, h1, h2, h3⟩ := pigeon 5 (fun j => if cn (os j) = 5 then a else cn (os j)) (fun j hj => by
      obtain ⟨g1, g2, -⟩ := hc j hj
      show (if cn (os j) = 5 then a else cn (os j)) < 5
      split <;> omega)
    obtain ⟨g1, g2, g3⟩ := hc i (by omega)
    obtain ⟨k1, k2, k3⟩ := hc j (by omega)
    have h3 : (if cn (os i) = 5 then a else cn (os i)) = (if cn (os j) = 5 then a else cn (os j)) := h3
    have e : cn (os i) = cn (os j) := by split at h3 <;> split at h3 <;> omega
    have := r.ij i j (by omega) (by omega) (by rw [g3, k3, e])
    omega
theorem bad_cg {gc gc' : Nat → Int32} {yy nn : Nat → Nat} {gl j : Nat} (h : gc j = gc' j) : bad gc yy nn gl j = bad gc' yy nn gl j := by
  unfold bad
  rw [h]
theorem bad_no {gc : Nat → Int32} {yy nn : Nat → Nat} {gl j : Nat} (hc : gc j = nI (cn (gc j)) ∧ cn (gc j) ≤ 11) (h9 : cn (gc j) ≤ 9) (h : bad gc yy nn gl j = false) : j + 1 + yy j < gl ∧ j + 1 + nn j < gl := by
  unfold bad at h
  rw [hc.1, decide_eq_false (fun q => absurd ((nI_ltI (by omega) (by omega)).mp q) (by omega))] at h
  have h2 : decide (j + 1 + (if yy j < nn j then nn j else yy j) < gl) = true := by simpa using h
  have h3 := of_decide_eq_true h2
  split at h3 <;> omega
set_option maxHeartbeats 4000000 in
set_option maxRecDepth 20000 in
theorem op_install {l : Launch} {L : Nat} {xs : Nat → Int32} {h : pz_H} {z n : Nat} (x : Int32) (hn : n < 4000) (s : ST h n) : OPS l L xs M_K_install M_Mo_install 3 2 [.int x] h z n := by
  obtain ⟨np, nb, mw, mo, mr, mt, mn, md, ts, ck, dw, dn, os, ol, fb, f13, lost, dr, fl, op, mp, fi, lk, pp, pl, pe, qb, qn, qf, ql, td, tl, c1, o1, y1, n1, l1, c2, o2, y2, n2, l2, sa, sx, Mfi, Mlk, Mow, Mtk, Mdl, Mrt, Mwd, Mgo, Mgm, Mln, Mcd, Mst, Mfm, Mfs, Mfl, Mfb, Mho, Mwo, Mda, Men, Mke, Mva, k, e, r⟩ := s
  cases ho : opn op x with
  | false => exact OPS.nn k e r (c_K_install_no k.hK k.hap x ho) (c_Mo_install_no e.hMo k.np32 k.nb32 e.hOp e.hLn e.hCd e.hSt x ho)
  | true =>
    obtain ⟨a, ha, hop, rfl⟩ := opn_N ho
    have q9 := r.ra a ha
    have hln := q9.ln hop
    have hpr := q9.pr hop
    have hP1 := (k.ap a ha).2.2.2.2.1
    have hP2 := (k.ap a ha).2.2.2.2.2.1
    have h16 := hP1.2.2.2.2.2
    have hol := k.ho.2.2
    have hyy : ∀ j, j < l1 a → y1 a j = nI ((fun j => cn (y1 a j)) j) ∧ (fun j => cn (y1 a j)) j ≤ 15 := fun j hj => hpr.y j hj
    have hnn : ∀ j, j < l1 a → n1 a j = nI ((fun j => cn (n1 a j)) j) ∧ (fun j => cn (n1 a j)) j ≤ 15 := fun j hj => hpr.n j hj
    have hyn : ∀ j, j < Mln a → nI 6 < Mcd (a * 64 + j * 4) → Mcd (a * 64 + j * 4) < nI 10 → Mcd (a * 64 + j * 4 + 2) = nI ((fun j => cn (y1 a j)) j) ∧ Mcd (a * 64 + j * 4 + 3) = nI ((fun j => cn (n1 a j)) j) ∧ (fun j => cn (y1 a j)) j ≤ 15 ∧ (fun j => cn (n1 a j)) j ≤ 15 := fun j hj g1 g2 => by
      have hj1 : j < l1 a := by omega
      obtain ⟨c3, c4⟩ := hpr.c j hj1
      rw [hpr.cd j hj1, c3] at g1 g2
      obtain ⟨t1, t2⟩ := hpr.t j hj1 ((nI_ltI (by omega) (by omega)).mp g1) ((nI_ltI (by omega) (by omega)).mp g2)
      exact ⟨t1.trans (hpr.y j hj1).1, t2.trans (hpr.n j hj1).1, (hpr.y j hj1).2, (hpr.n j hj1).2⟩
    have hy0 : ∀ j, j < Mln a → Mcd (a * 64 + j * 4) < nI 7 → (fun j => cn (y1 a j)) j = 0 ∧ (fun j => cn (n1 a j)) j = 0 := fun j hj g1 => by
      have hj1 : j < l1 a := by omega
      obtain ⟨c3, c4⟩ := hpr.c j hj1
      rw [hpr.cd j hj1, c3] at g1
      have g2 := (nI_ltI (by omega) (by omega)).mp g1
      obtain ⟨t1, t2⟩ := hpr.z j hj1 (by omega)
      show cn (y1 a j) = 0 ∧ cn (n1 a j) = 0
      rw [t1, t2]
      decide
    have hbe : ff (bad (fun j => Mcd (a * 64 + j * 4)) (fun j => cn (y1 a j)) (fun j => cn (n1 a j)) (Mln a)) (Mln a) 0 = ff (bad (c1 a) (fun j => cn (y1 a j)) (fun j => cn (n1 a j)) (l1 a)) (l1 a) 0 := by
      rw [hln]
      exact ff_congr (l1 a) 0 (fun j _ hj => bad_cg (hpr.cd j (by omega)))
    by_cases hbad : ff (bad (c1 a) (fun j => cn (y1 a j)) (fun j => cn (n1 a j)) (l1 a)) (l1 a) 0 < l1 a
    · refine OPS.ch2 (c_K_install_bad k.hK k.hap ha ho hP1 hyy hnn hbad) (fun h1 hp => ?_) (fun h1 (k1 : KER h1 np nb mw mo mr mt mn md ts ck dw dn os ol fb f13 lost dr fl op mp fi lk pp pl pe qb qn qf ql td tl c1 o1 y1 n1 (va_up l1 a 0) c2 o2 y2 n2 l2) (e1 : MOD h1 np nb ck ts lost ol f13 op mp sa sx Mfi Mlk Mow Mtk Mdl Mrt Mwd Mgo Mgm Mln Mcd Mst Mfm Mfs Mfl Mfb Mho Mwo Mda Men Mke Mva) => c_Mo_install_bad e1.hMo k.np32 k.nb32 e1.hOp e1.hLn e1.hCd e1.hSt ha hop (by omega) (yy := (fun j => cn (y1 a j))) (nn := (fun j => cn (n1 a j))) hyn hy0 (by rw [hbe, hln]; exact hbad)) (fun h1 h2 k1 e1 hp2 => ?_)
      · obtain ⟨hp1, hf⟩ := hp
        have m79 := (k.ap a ha).2.2.2.2.2.2
        have hap1 : ∀ i, i < 6 → APP i h1 (dr i) (fl i) (op i) (mp i) (fi i) (lk i) (pp i) (pl i) (pe i) (qb i) (qn i) (qf i) (ql i) (td i) (tl i) (c1 i) (o1 i) (y1 i) (n1 i) ((va_up l1 a 0) i) (c2 i) (o2 i) (y2 i) (n2 i) (l2 i) := by
          intro i hi
          by_cases e9 : i = a
          · subst e9; simp only [va_eq]; obtain ⟨m1, m2, m3, m4, m5, m6, m7⟩ := k.ap i hi; exact ⟨m1.on (fun c h1 h2 => hf c (by omega)), m2.on (fun c h1 h2 => hf c (by omega)), m3.on (fun c h1 h2 => hf c (by omega)), m4.on (fun c h1 h2 => hf c (by omega)), hp1, m6.on (fun c h1 h2 => hf c (by omega)), m7⟩
          · simp only [va_ne e9]; exact (k.ap i hi).on (fun c h1 h2 => hf c (by omega))
        have k1 : KER h1 np nb mw mo mr mt mn md ts ck dw dn os ol fb f13 lost dr fl op mp fi lk pp pl pe qb qn qf ql td tl c1 o1 y1 n1 (va_up l1 a 0) c2 o2 y2 n2 l2 := ⟨k.hK.on (fun c h1 h2 => hf c (by omega)) (fun c h1 h2 => hf c (by omega)), k.hm.on (fun c h1 h2 => hf c (by omega)), k.hd.on (fun c h1 h2 => hf c (by omega)), k.ho.on (fun c h1 h2 => hf c (by omega)), k.hr.on (fun c h1 h2 => hf c (by omega)), hap1⟩
        have e1 : MOD h1 np nb ck ts lost ol f13 op mp sa sx Mfi Mlk Mow Mtk Mdl Mrt Mwd Mgo Mgm Mln Mcd Mst Mfm Mfs Mfl Mfb Mho Mwo Mda Men Mke Mva := e.mv (fun c hc => hf c (by omega))
        exact ⟨⟨_, k1.hK.1⟩, ⟨_, e1.hMo⟩, k1, e1⟩
      · obtain ⟨hLn, hf2⟩ := hp2
        have hR : REL np nb mw mo mr mt mn md ts ck dw dn os ol fb f13 lost dr fl op mp fi lk pp pl pe qb qn qf ql td tl c1 o1 y1 n1 (va_up l1 a 0) c2 o2 y2 n2 l2 sa sx Mfi Mlk Mow Mtk Mdl Mrt Mwd Mgo Mgm (va_up Mln a 0) Mcd Mst Mfm Mfs Mfl Mfb Mho Mwo Mda Men Mke Mva (n + 1) := by
          refine ⟨(by have := r.tsn; omega), (by have := r.ckn; omega), (r.rm), (r.rd), (r.ro), (r.rf), (fun i hi => ?_)⟩
          by_cases e9 : i = a
          · subst e9
            have q := r.ra i hi
            simp only [va_eq]
            exact ⟨q.fk, q.gm, q.go, q.q0, q.fs, q.fl, q.fb, q.t0, q.en, q.td, q.ti, q.ke, (fun h9 => va_eq), (fun h9 => rfl), (fun h9 => PRL.zero), q.yf, q.pf, q.sf⟩
          · simp only [va_ne e9]
            exact (r.ra i hi).cg (k.ap i hi) rfl rfl (fun _ _ => rfl) rfl (va_ne e9) (fun _ _ => rfl) (fun _ _ => rfl) rfl (fun _ _ => rfl) (fun _ _ _ _ => rfl) (fun _ _ => rfl) rfl (fun _ _ => rfl) (fun _ _ => rfl) (fun _ _ _ _ h9 => ⟨h9, fun _ _ => rfl⟩)
        exact ST.mk (k1.mv (hf2.lo (by decide))) ⟨MOB.mv e1.hMo (hf2 166 (by decide)), (hf2 167 (by decide)).trans e1.hOp, (hf2 168 (by decide)).trans e1.hIm, (hf2 169 (by decide)).trans e1.hFi, (hf2 170 (by decide)).trans e1.hLi, (hf2 171 (by decide)).trans e1.hOw, (hf2 172 (by decide)).trans e1.hTk, (hf2 173 (by decide)).trans e1.hDl, (hf2 174 (by decide)).trans e1.hRt, (hf2 175 (by decide)).trans e1.hWd, (hf2 176 (by decide)).trans e1.hGo, (hf2 177 (by decide)).trans e1.hGm, hLn, (hf2 179 (by decide)).trans e1.hCd, (hf2 180 (by decide)).trans e1.hSt, (hf2 181 (by decide)).trans e1.hFm, (hf2 182 (by decide)).trans e1.hFs, (hf2 183 (by decide)).trans e1.hFl, (hf2 184 (by decide)).trans e1.hFb, (hf2 185 (by decide)).trans e1.hHo, (hf2 186 (by decide)).trans e1.hWo, (hf2 187 (by decide)).trans e1.hDa, (hf2 188 (by decide)).trans e1.hEn, (hf2 189 (by decide)).trans e1.hKe, (hf2 190 (by decide)).trans e1.hVa⟩ hR
    · have hgood : ¬ ff (bad (c1 a) (fun j => cn (y1 a j)) (fun j => cn (n1 a j)) (l1 a)) (l1 a) 0 < l1 a := hbad
      have hgm : ¬ ff (bad (fun j => Mcd (a * 64 + j * 4)) (fun j => cn (y1 a j)) (fun j => cn (n1 a j)) (Mln a)) (Mln a) 0 < Mln a := by rw [hbe, hln]; exact hbad
      obtain ⟨hw1, hw2⟩ := r.ro.wst (nI a)
      by_cases h0 : l1 a = 0
      · have hM : ∀ (h1 : pz_H), MOD h1 np nb ck ts lost ol f13 op mp sa sx Mfi Mlk Mow Mtk Mdl Mrt Mwd Mgo Mgm Mln Mcd Mst Mfm Mfs Mfl Mfb Mho Mwo Mda Men Mke Mva → pz_K l L xs M_Mo_install 2 0 0 [.ref 166, .int (nI a)] h1 z (fun v' h' z' => v' = some (.int (nI 0)) ∧ z = z' ∧ MOB h' np nb ck ts lost (drl os ol (nI a)) f13 sa sx ∧ AN h' 178 12 (va_up Mln a 0) ∧ AI h' 180 6 (wst Mst (nI a) ol).1 ∧ frx [166, 178, 180] h1 h') := fun h1 e1 => by
          have h9 := c_Mo_install_0 e1.hMo k.np32 k.nb32 e1.hOp e1.hLn e1.hCd e1.hSt (l := l) (L := L) (xs := xs) (z := z) ha hop (by omega) (yy := (fun j => cn (y1 a j))) (nn := (fun j => cn (n1 a j))) hyn hy0 hgm hol (hln.trans h0)
          rw [hw1] at h9
          exact h9
        refine OPS.ch2 (c_K_install_0k k.hK k.hap k.ho ha ho (k.ap a ha).2.2.2.2.2.2 hP1 hP2 hyy hnn hgood h0) (fun h1 hp => ?_) (fun h1 (k1 : KER h1 np nb mw mo mr mt mn md ts ck dw dn (dro os ol (nI a)) (drl os ol (nI a)) fb f13 lost (va_up dr a (fl a)) (va_up fl a (dr a)) op mp fi lk pp pl pe qb qn qf ql td tl (va_up c1 a (c2 a)) (va_up o1 a (o2 a)) (va_up y1 a (y2 a)) (va_up n1 a (n2 a)) (va_up l1 a 0) (va_up c2 a (c1 a)) (va_up o2 a (o1 a)) (va_up y2 a (y1 a)) (va_up n2 a (n1 a)) (va_up l2 a (l1 a))) (e1 : MOD h1 np nb ck ts lost ol f13 op mp sa sx Mfi Mlk Mow Mtk Mdl Mrt Mwd Mgo Mgm Mln Mcd Mst Mfm Mfs Mfl Mfb Mho Mwo Mda Men Mke Mva) => hM h1 e1) (fun h1 h2 k1 e1 hp2 => ?_)
        · obtain ⟨ho9, hA, hp1, hp2, hk9, hf⟩ := hp
          have m79 := (k.ap a ha).2.2.2.2.2.2
          have hap1 : ∀ i, i < 6 → APP i h1 ((va_up dr a (fl a)) i) ((va_up fl a (dr a)) i) (op i) (mp i) (fi i) (lk i) (pp i) (pl i) (pe i) (qb i) (qn i) (qf i) (ql i) (td i) (tl i) ((va_up c1 a (c2 a)) i) ((va_up o1 a (o2 a)) i) ((va_up y1 a (y2 a)) i) ((va_up n1 a (n2 a)) i) ((va_up l1 a 0) i) ((va_up c2 a (c1 a)) i) ((va_up o2 a (o1 a)) i) ((va_up y2 a (y1 a)) i) ((va_up n2 a (n1 a)) i) ((va_up l2 a (l1 a)) i) := by
            intro i hi
            by_cases e9 : i = a
            · subst e9; simp only [va_eq]; obtain ⟨m1, m2, m3, m4, m5, m6, m7⟩ := k.ap i hi; exact ⟨hA, m2.on (fun c h1 h2 => hk9 c (by omega) (by omega)), m3.on (fun c h1 h2 => hk9 c (by omega) (by omega)), m4.on (fun c h1 h2 => hk9 c (by omega) (by omega)), hp2, hp1, by omega⟩
            · simp only [va_ne e9]; exact (k.ap i hi).on (fun c h1 h2 => hf c (by omega) (by omega))
          have k1 : KER h1 np nb mw mo mr mt mn md ts ck dw dn (dro os ol (nI a)) (drl os ol (nI a)) fb f13 lost (va_up dr a (fl a)) (va_up fl a (dr a)) op mp fi lk pp pl pe qb qn qf ql td tl (va_up c1 a (c2 a)) (va_up o1 a (o2 a)) (va_up y1 a (y2 a)) (va_up n1 a (n2 a)) (va_up l1 a 0) (va_up c2 a (c1 a)) (va_up o2 a (o1 a)) (va_up y2 a (y1 a)) (va_up n2 a (n1 a)) (va_up l2 a (l1 a)) := ⟨k.hK.on (fun c h1 h2 => hf c (by omega) (by omega)) (fun c h1 h2 => hf c (by omega) (by omega)), k.hm.on (fun c h1 h2 => hf c (by omega) (by omega)), k.hd.on (fun c h1 h2 => hf c (by omega) (by omega)), ho9, k.hr.on (fun c h1 h2 => hf c (by omega) (by omega)), hap1⟩
          have e1 : MOD h1 np nb ck ts lost ol f13 op mp sa sx Mfi Mlk Mow Mtk Mdl Mrt Mwd Mgo Mgm Mln Mcd Mst Mfm Mfs Mfl Mfb Mho Mwo Mda Men Mke Mva := e.mv (fun c hc => hf c (by omega) (by omega))
          exact ⟨⟨_, k1.hK.1⟩, ⟨_, e1.hMo⟩, k1, e1⟩
        · obtain ⟨hMo, hLn, hSt, hf2⟩ := hp2
          have hR : REL np nb mw mo mr mt mn md ts ck dw dn (dro os ol (nI a)) (drl os ol (nI a)) fb f13 lost (va_up dr a (fl a)) (va_up fl a (dr a)) op mp fi lk pp pl pe qb qn qf ql td tl (va_up c1 a (c2 a)) (va_up o1 a (o2 a)) (va_up y1 a (y2 a)) (va_up n1 a (n2 a)) (va_up l1 a 0) (va_up c2 a (c1 a)) (va_up o2 a (o1 a)) (va_up y2 a (y1 a)) (va_up n2 a (n1 a)) (va_up l2 a (l1 a)) sa sx Mfi Mlk Mow Mtk Mdl Mrt Mwd Mgo Mgm (va_up Mln a 0) Mcd (wst Mst (nI a) ol).1 Mfm Mfs Mfl Mfb Mho Mwo Mda Men Mke Mva (n + 1) := by
            obtain ⟨hRO, hnot⟩ := r.ro.drop (a := a) (op' := op) (l2' := va_up l2 a (l1 a)) (Mst' := (wst Mst (nI a) ol).1) hw2 (fun i hi => ⟨rfl, va_ne hi⟩)
            refine ⟨(by have := r.tsn; omega), (by have := r.ckn; omega), (r.rm), (r.rd), (hRO), (r.rf), (fun i hi => ?_)⟩
            by_cases e9 : i = a
            · subst e9
              have q := r.ra i hi
              have h16 := (k.ap i hi).2.2.2.2.1.2.2.2.2.2
              simp only [va_eq]
              refine ⟨q.fk, q.gm, q.go, q.q0, q.fs, q.fl, q.fb, q.t0, q.en, q.td, q.ti, q.ke, (fun h9 => va_eq), (fun h9 => rfl), (fun h9 => PRL.zero), (fun j hj => ⟨(q.pr hop).y j hj, (q.pr hop).n j hj⟩), (fun h9 => by rw [h0] at h9; omega), (fun h9 => by rw [h0] at h9; omega)⟩
            · simp only [va_ne e9]
              exact (r.ra i hi).cg (k.ap i hi) rfl rfl (fun _ _ => rfl) rfl (va_ne e9) (fun _ _ => rfl) (fun _ _ => rfl) rfl (fun _ _ => rfl) (fun _ _ _ _ => rfl) (fun _ _ => rfl) rfl (fun _ _ => rfl) (fun _ _ => rfl) (fun _ _ _ _ h9 => ⟨h9, fun _ _ => rfl⟩)
          exact ST.mk (k1.mv (hf2.lo (by decide))) ⟨hMo, (hf2 167 (by decide)).trans e1.hOp, (hf2 168 (by decide)).trans e1.hIm, (hf2 169 (by decide)).trans e1.hFi, (hf2 170 (by decide)).trans e1.hLi, (hf2 171 (by decide)).trans e1.hOw, (hf2 172 (by decide)).trans e1.hTk, (hf2 173 (by decide)).trans e1.hDl, (hf2 174 (by decide)).trans e1.hRt, (hf2 175 (by decide)).trans e1.hWd, (hf2 176 (by decide)).trans e1.hGo, (hf2 177 (by decide)).trans e1.hGm, hLn, (hf2 179 (by decide)).trans e1.hCd, hSt, (hf2 181 (by decide)).trans e1.hFm, (hf2 182 (by decide)).trans e1.hFs, (hf2 183 (by decide)).trans e1.hFl, (hf2 184 (by decide)).trans e1.hFb, (hf2 185 (by decide)).trans e1.hHo, (hf2 186 (by decide)).trans e1.hWo, (hf2 187 (by decide)).trans e1.hDa, (hf2 188 (by decide)).trans e1.hEn, (hf2 189 (by decide)).trans e1.hKe, (hf2 190 (by decide)).trans e1.hVa⟩ hR
      · have h0 : 0 < l1 a := by omega
        have hdl : (drl os ol (nI a)) < 6 := by
          obtain ⟨hRO, hnot⟩ := r.ro.drop (a := a) (op' := op) (l2' := l2) (Mst' := (wst Mst (nI a) ol).1) hw2 (fun i hi => ⟨rfl, rfl⟩)
          exact hRO.room (by unfold drl; split <;> omega) ha hnot
        have hM : ∀ (h1 : pz_H), MOD h1 np nb ck ts lost ol f13 op mp sa sx Mfi Mlk Mow Mtk Mdl Mrt Mwd Mgo Mgm Mln Mcd Mst Mfm Mfs Mfl Mfb Mho Mwo Mda Men Mke Mva → pz_K l L xs M_Mo_install 2 0 0 [.ref 166, .int (nI a)] h1 z (fun v' h' z' => v' = some (.int (nI 0)) ∧ z = z' ∧ MOB h' np nb ck ts lost ((drl os ol (nI a)) + 1) f13 sa sx ∧ AN h' 178 12 (va_up (va_up Mln a 0) (6 + a) (Mln a)) ∧ AI h' 179 768 (fil Mcd (fun j => Mcd (j - 384)) (384 + a * 64) 64) ∧ AI h' 180 6 (upd (wst Mst (nI a) ol).1 (drl os ol (nI a)) (nI a)) ∧ frx [166, 178, 179, 180] h1 h') := fun h1 e1 => by
          have h9 := c_Mo_install_n e1.hMo k.np32 k.nb32 e1.hOp e1.hLn e1.hCd e1.hSt (l := l) (L := L) (xs := xs) (z := z) ha hop (by omega) (yy := (fun j => cn (y1 a j))) (nn := (fun j => cn (n1 a j))) hyn hy0 hgm hol (by omega) (by rw [hw1]; exact hdl)
          rw [hw1] at h9
          exact h9
        refine OPS.ch2 (c_K_install_nk k.hK k.hap k.ho ha ho (k.ap a ha).2.2.2.2.2.2 hP1 hP2 hyy hnn hgood h0 hdl) (fun h1 hp => ?_) (fun h1 (k1 : KER h1 np nb mw mo mr mt mn md ts ck dw dn (upd (dro os ol (nI a)) (drl os ol (nI a)) (nI a)) ((drl os ol (nI a)) + 1) fb f13 lost (va_up dr a (fl a)) (va_up fl a (dr a)) op mp fi lk pp pl pe qb qn qf ql td tl (va_up c1 a (c2 a)) (va_up o1 a (o2 a)) (va_up y1 a (y2 a)) (va_up n1 a (n2 a)) (va_up l1 a 0) (va_up c2 a (c1 a)) (va_up o2 a (o1 a)) (va_up y2 a (y1 a)) (va_up n2 a (n1 a)) (va_up l2 a (l1 a))) (e1 : MOD h1 np nb ck ts lost ol f13 op mp sa sx Mfi Mlk Mow Mtk Mdl Mrt Mwd Mgo Mgm Mln Mcd Mst Mfm Mfs Mfl Mfb Mho Mwo Mda Men Mke Mva) => hM h1 e1) (fun h1 h2 k1 e1 hp2 => ?_)
        · obtain ⟨ho9, hA, hp1, hp2, hk9, hf⟩ := hp
          have m79 := (k.ap a ha).2.2.2.2.2.2
          have hap1 : ∀ i, i < 6 → APP i h1 ((va_up dr a (fl a)) i) ((va_up fl a (dr a)) i) (op i) (mp i) (fi i) (lk i) (pp i) (pl i) (pe i) (qb i) (qn i) (qf i) (ql i) (td i) (tl i) ((va_up c1 a (c2 a)) i) ((va_up o1 a (o2 a)) i) ((va_up y1 a (y2 a)) i) ((va_up n1 a (n2 a)) i) ((va_up l1 a 0) i) ((va_up c2 a (c1 a)) i) ((va_up o2 a (o1 a)) i) ((va_up y2 a (y1 a)) i) ((va_up n2 a (n1 a)) i) ((va_up l2 a (l1 a)) i) := by
            intro i hi
            by_cases e9 : i = a
            · subst e9; simp only [va_eq]; obtain ⟨m1, m2, m3, m4, m5, m6, m7⟩ := k.ap i hi; exact ⟨hA, m2.on (fun c h1 h2 => hk9 c (by omega) (by omega)), m3.on (fun c h1 h2 => hk9 c (by omega) (by omega)), m4.on (fun c h1 h2 => hk9 c (by omega) (by omega)), hp2, hp1, by omega⟩
            · simp only [va_ne e9]; exact (k.ap i hi).on (fun c h1 h2 => hf c (by omega) (by omega))
          have k1 : KER h1 np nb mw mo mr mt mn md ts ck dw dn (upd (dro os ol (nI a)) (drl os ol (nI a)) (nI a)) ((drl os ol (nI a)) + 1) fb f13 lost (va_up dr a (fl a)) (va_up fl a (dr a)) op mp fi lk pp pl pe qb qn qf ql td tl (va_up c1 a (c2 a)) (va_up o1 a (o2 a)) (va_up y1 a (y2 a)) (va_up n1 a (n2 a)) (va_up l1 a 0) (va_up c2 a (c1 a)) (va_up o2 a (o1 a)) (va_up y2 a (y1 a)) (va_up n2 a (n1 a)) (va_up l2 a (l1 a)) := ⟨k.hK.on (fun c h1 h2 => hf c (by omega) (by omega)) (fun c h1 h2 => hf c (by omega) (by omega)), k.hm.on (fun c h1 h2 => hf c (by omega) (by omega)), k.hd.on (fun c h1 h2 => hf c (by omega) (by omega)), ho9, k.hr.on (fun c h1 h2 => hf c (by omega) (by omega)), hap1⟩
          have e1 : MOD h1 np nb ck ts lost ol f13 op mp sa sx Mfi Mlk Mow Mtk Mdl Mrt Mwd Mgo Mgm Mln Mcd Mst Mfm Mfs Mfl Mfb Mho Mwo Mda Men Mke Mva := e.mv (fun c hc => hf c (by omega) (by omega))
          exact ⟨⟨_, k1.hK.1⟩, ⟨_, e1.hMo⟩, k1, e1⟩
        · obtain ⟨hMo, hLn, hCd, hSt, hf2⟩ := hp2
          have hR : REL np nb mw mo mr mt mn md ts ck dw dn (upd (dro os ol (nI a)) (drl os ol (nI a)) (nI a)) ((drl os ol (nI a)) + 1) fb f13 lost (va_up dr a (fl a)) (va_up fl a (dr a)) op mp fi lk pp pl pe qb qn qf ql td tl (va_up c1 a (c2 a)) (va_up o1 a (o2 a)) (va_up y1 a (y2 a)) (va_up n1 a (n2 a)) (va_up l1 a 0) (va_up c2 a (c1 a)) (va_up o2 a (o1 a)) (va_up y2 a (y1 a)) (va_up n2 a (n1 a)) (va_up l2 a (l1 a)) sa sx Mfi Mlk Mow Mtk Mdl Mrt Mwd Mgo Mgm (va_up (va_up Mln a 0) (6 + a) (Mln a)) (fil Mcd (fun j => Mcd (j - 384)) (384 + a * 64) 64) (upd (wst Mst (nI a) ol).1 (drl os ol (nI a)) (nI a)) Mfm Mfs Mfl Mfb Mho Mwo Mda Men Mke Mva (n + 1) := by
            obtain ⟨hRO, hnot⟩ := r.ro.drop (a := a) (op' := op) (l2' := va_up l2 a (l1 a)) (Mst' := (wst Mst (nI a) ol).1) hw2 (fun i hi => ⟨rfl, va_ne hi⟩)
            refine ⟨(by have := r.tsn; omega), (by have := r.ckn; omega), (r.rm), (r.rd), (hRO.app ha hop (by rw [va_eq]; exact h0) hnot), (r.rf), (fun i hi => ?_)⟩
            by_cases e9 : i = a
            · subst e9
              have q := r.ra i hi
              have h16 := (k.ap i hi).2.2.2.2.1.2.2.2.2.2
              simp only [va_eq]
              refine ⟨q.fk, q.gm, q.go, q.q0, q.fs, q.fl, q.fb, q.t0, q.en, q.td, q.ti, q.ke, (fun h9 => by rw [va_ne (by omega), va_eq]), (fun h9 => rfl), (fun h9 => PRL.zero), (fun j hj => ⟨(q.pr hop).y j hj, (q.pr hop).n j hj⟩), (fun h9 => ⟨(q.pr hop).c, fun j hj => ?_, fun j hj => ?_, (q.pr hop).y, (q.pr hop).n, fun j hj g1 g2 => ?_, (q.pr hop).z⟩), (fun h9 j hj g9 => bad_no ((q.pr hop).c j hj) g9 (ff_none (P := bad (c1 i) (fun j => cn (y1 i j)) (fun j => cn (n1 i j)) (l1 i)) (l1 i) 0 (by omega) j (by omega) (by omega)))⟩
              · rw [fil_i (by omega)]
                show Mcd (384 + i * 64 + j * 4 - 384) = _
                rw [show 384 + i * 64 + j * 4 - 384 = i * 64 + j * 4 by omega]
                exact (q.pr hop).cd j hj
              · rw [fil_i (by omega)]
                show Mcd (384 + i * 64 + j * 4 + 1 - 384) = _
                rw [show 384 + i * 64 + j * 4 + 1 - 384 = i * 64 + j * 4 + 1 by omega]
                exact (q.pr hop).k j hj
              · obtain ⟨t1, t2⟩ := (q.pr hop).t j hj g1 g2
                refine ⟨?_, ?_⟩
                · rw [fil_i (by omega)]
                  show Mcd (384 + i * 64 + j * 4 + 2 - 384) = _
                  rw [show 384 + i * 64 + j * 4 + 2 - 384 = i * 64 + j * 4 + 2 by omega]
                  exact t1
                · rw [fil_i (by omega)]
                  show Mcd (384 + i * 64 + j * 4 + 3 - 384) = _
                  rw [show 384 + i * 64 + j * 4 + 3 - 384 = i * 64 + j * 4 + 3 by omega]
                  exact t2
            · simp only [va_ne e9]
              exact (r.ra i hi).cg (k.ap i hi) rfl rfl (fun _ _ => rfl) rfl (by rw [va_ne (by omega), va_ne e9]) (fun t ht => fil_o (by omega)) (fun t ht => fil_o (by omega)) rfl (fun _ _ => rfl) (fun _ _ _ _ => rfl) (fun _ _ => rfl) rfl (fun _ _ => rfl) (fun _ _ => rfl) (fun _ _ _ _ h9 => ⟨h9, fun _ _ => rfl⟩)
          exact ST.mk (k1.mv (hf2.lo (by decide))) ⟨hMo, (hf2 167 (by decide)).trans e1.hOp, (hf2 168 (by decide)).trans e1.hIm, (hf2 169 (by decide)).trans e1.hFi, (hf2 170 (by decide)).trans e1.hLi, (hf2 171 (by decide)).trans e1.hOw, (hf2 172 (by decide)).trans e1.hTk, (hf2 173 (by decide)).trans e1.hDl, (hf2 174 (by decide)).trans e1.hRt, (hf2 175 (by decide)).trans e1.hWd, (hf2 176 (by decide)).trans e1.hGo, (hf2 177 (by decide)).trans e1.hGm, hLn, hCd, hSt, (hf2 181 (by decide)).trans e1.hFm, (hf2 182 (by decide)).trans e1.hFs, (hf2 183 (by decide)).trans e1.hFl, (hf2 184 (by decide)).trans e1.hFb, (hf2 185 (by decide)).trans e1.hHo, (hf2 186 (by decide)).trans e1.hWo, (hf2 187 (by decide)).trans e1.hDa, (hf2 188 (by decide)).trans e1.hEn, (hf2 189 (by decide)).trans e1.hKe, (hf2 190 (by decide)).trans e1.hVa⟩ hR
