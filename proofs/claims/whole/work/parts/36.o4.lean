/-! calls on both: op, install -/
theorem tst_N {c : Nat} (h : c ≤ 11) : tst (nI c) = decide (6 < c ∧ c < 10) := by
  unfold tst rng
  apply decide_eq_decide.mpr
  rw [nI_ltI (by omega) (by omega), nI_ltI (by omega) (by omega)]
  omega
theorem PRL.zero {cd : Nat → Int32} {base : Nat} {gc go gy gn : Nat → Int32} : PRL cd base 0 gc go gy gn := ⟨fun j hj => absurd hj (Nat.not_lt_zero j), fun j hj => absurd hj (Nat.not_lt_zero j), fun j hj => absurd hj (Nat.not_lt_zero j), fun j hj => absurd hj (Nat.not_lt_zero j), fun j hj => absurd hj (Nat.not_lt_zero j), fun j hj => absurd hj (Nat.not_lt_zero j), fun j hj => absurd hj (Nat.not_lt_zero j)⟩
theorem PRL.app {cd : Nat → Int32} {base gl : Nat} {gc go gy gn : Nat → Int32} (r : PRL cd base gl gc go gy gn) {c y n : Nat} {k Y N : Int32} (hc : c ≤ 11) (hy : Y = nI y ∧ y ≤ 15) (hn : N = nI n ∧ n ≤ 15) {y9 n9 : Int32} (ht : 6 < c → c < 10 → y9 = Y ∧ n9 = N) (hz : ¬ (6 < c ∧ c < 10) → Y = 0 ∧ N = 0) : PRL (upd (upd (upd (upd cd (base + gl * 4) (nI c)) (base + gl * 4 + 1) k) (base + gl * 4 + 2) y9) (base + gl * 4 + 3) n9) base (gl + 1) (upd gc gl (nI c)) (upd go gl k) (upd gy gl Y) (upd gn gl N) := by
  refine ⟨fun j hj => ?_, fun j hj => ?_, fun j hj => ?_, fun j hj => ?_, fun j hj => ?_, fun j hj h1 h2 => ?_, fun j hj h1 => ?_⟩
  · by_cases e : j = gl
    · subst e; rw [upd_eq, cn_nI (by omega)]; exact ⟨rfl, hc⟩
    · rw [upd_ne e]; exact r.c j (by omega)
  · rw [upd_ne (by omega), upd_ne (by omega), upd_ne (by omega)]
    by_cases e : j = gl
    · subst e; rw [upd_eq, upd_eq]
    · rw [upd_ne (by omega), upd_ne e]; exact r.cd j (by omega)
  · rw [upd_ne (by omega), upd_ne (by omega)]
    by_cases e : j = gl
    · subst e; rw [upd_eq, upd_eq]
    · rw [upd_ne (by omega), upd_ne (by omega), upd_ne e]; exact r.k j (by omega)
  · by_cases e : j = gl
    · subst e; rw [upd_eq, hy.1, cn_nI (by omega)]; exact ⟨rfl, hy.2⟩
    · rw [upd_ne e]; exact r.y j (by omega)
  · by_cases e : j = gl
    · subst e; rw [upd_eq, hn.1, cn_nI (by omega)]; exact ⟨rfl, hn.2⟩
    · rw [upd_ne e]; exact r.n j (by omega)
  · by_cases e : j = gl
    · subst e
      rw [upd_eq, cn_nI (by omega)] at h1 h2
      rw [upd_ne (by omega), upd_eq, upd_eq, upd_eq, upd_eq]
      exact ht h1 h2
    · rw [upd_ne e] at h1 h2
      obtain ⟨t1, t2⟩ := r.t j (by omega) h1 h2
      exact ⟨by rw [upd_ne (by omega), upd_ne (by omega), upd_ne (by omega), upd_ne (by omega), upd_ne e]; exact t1, by rw [upd_ne (by omega), upd_ne (by omega), upd_ne (by omega), upd_ne (by omega), upd_ne e]; exact t2⟩
  · by_cases e : j = gl
    · subst e
      rw [upd_eq, cn_nI (by omega)] at h1
      rw [upd_eq, upd_eq]
      exact hz h1
    · rw [upd_ne e] at h1
      rw [upd_ne e, upd_ne e]
      exact r.z j (by omega) h1
set_option maxHeartbeats 4000000 in
set_option maxRecDepth 20000 in
theorem op_op {l : Launch} {L : Nat} {xs : Nat → Int32} {h : pz_H} {z n : Nat} (x c9 k9 y n9 : Int32) (hn : n < 4000) (s : ST h n) : OPS l L xs M_K_op M_Mo_op 3 2 [.int x, .int c9, .int k9, .int y, .int n9] h z n := by
  obtain ⟨np, nb, mw, mo, mr, mt, mn, md, ts, ck, dw, dn, os, ol, fb, f13, lost, dr, fl, op, mp, fi, lk, pp, pl, pe, qb, qn, qf, ql, td, tl, c1, o1, y1, n1, l1, c2, o2, y2, n2, l2, sa, sx, Mfi, Mlk, Mow, Mtk, Mdl, Mrt, Mwd, Mgo, Mgm, Mln, Mcd, Mst, Mfm, Mfs, Mfl, Mfb, Mho, Mwo, Mda, Men, Mke, Mva, k, e, r⟩ := s
  cases ho : (opn op x && insOk c9 k9 y n9) with
  | false => exact OPS.nn k e r (c_K_op_no k.hK k.hap x c9 k9 y n9 ho) (c_Mo_op_no e.hMo k.np32 k.nb32 e.hOp e.hLn e.hCd x c9 k9 y n9 ho)
  | true =>
    rw [Bool.and_eq_true] at ho
    obtain ⟨ho, hins⟩ := ho
    obtain ⟨a, ha, hop, rfl⟩ := opn_N ho
    have hln := (r.ra a ha).ln hop
    have hP := (k.ap a ha).2.2.2.2.1
    have h16 := hP.2.2.2.2.2
    by_cases hfull : l1 a = 16
    · exact OPS.nn k e r (c_K_op_full k.hK k.hap ha hP c9 k9 y n9 ho hins hfull) (c_Mo_op_full e.hMo k.np32 k.nb32 e.hOp e.hLn e.hCd ha hop c9 k9 y n9 hins (hln.trans hfull))
    · have hlt : l1 a < 16 := by omega
      obtain ⟨i1, i2, i3, i4⟩ := insOk_e hins
      obtain ⟨c, hc12, rfl⟩ := inn_N (by omega) i1
      have hc : c ≤ 11 := by omega
      have hM : ∀ (h1 : pz_H), MOD h1 np nb ck ts lost ol f13 op mp sa sx Mfi Mlk Mow Mtk Mdl Mrt Mwd Mgo Mgm Mln Mcd Mst Mfm Mfs Mfl Mfb Mho Mwo Mda Men Mke Mva → pz_K l L xs M_Mo_op 2 0 0 [.ref 166, .int (nI a), .int (nI c), .int k9, .int y, .int n9] h1 z (fun v' h' z' => v' = some (.int (nI (l1 a + 1 - 1))) ∧ z = z' ∧ AN h' 178 12 (va_up Mln a (Mln a + 1)) ∧ AI h' 179 768 (upd (upd (upd (upd Mcd (a * 64 + Mln a * 4) (nI c)) ((a * 64 + Mln a * 4) + 1) k9) ((a * 64 + Mln a * 4) + 2) y) ((a * 64 + Mln a * 4) + 3) n9) ∧ frx [178, 179] h1 h') := fun h1 e1 => by
        have h9 := c_Mo_op_ok e1.hMo k.np32 k.nb32 e1.hOp e1.hLn e1.hCd (l := l) (L := L) (xs := xs) (z := z) ha hop (nI c) k9 y n9 hins (by omega)
        rw [show nI (Mln a) = nI (l1 a + 1 - 1) by rw [hln]; rfl] at h9
        exact h9
      cases ht : tst (nI c) with
      | true =>
        have ht9 := ht
        rw [tst_N hc] at ht9
        have ht8 := of_decide_eq_true ht9
        obtain ⟨j1, j2⟩ := i4 ((nI_ltI (by omega) (by omega)).mpr ht8.1) ((nI_ltI (by omega) (by omega)).mpr ht8.2)
        obtain ⟨y0, hy0, rfl⟩ := inn_N (by omega) j1
        obtain ⟨n0, hn0, rfl⟩ := inn_N (by omega) j2
        have hCt := c_K_op_t (l := l) (L := L) (xs := xs) (z := z) k.hK k.hap ha hP (nI c) k9 (nI y0) (nI n0) ho hins hlt ht
        refine OPS.ch2 (hCt) (fun h1 hp => ?_) (fun h1 (k1 : KER h1 np nb mw mo mr mt mn md ts ck dw dn os ol fb f13 lost dr fl op mp fi lk pp pl pe qb qn qf ql td tl (va_up c1 a (upd (c1 a) (l1 a) (nI c))) (va_up o1 a (upd (o1 a) (l1 a) k9)) (va_up y1 a (upd (y1 a) (l1 a) (nI y0))) (va_up n1 a (upd (n1 a) (l1 a) (nI n0))) (va_up l1 a (l1 a + 1)) c2 o2 y2 n2 l2) (e1 : MOD h1 np nb ck ts lost ol f13 op mp sa sx Mfi Mlk Mow Mtk Mdl Mrt Mwd Mgo Mgm Mln Mcd Mst Mfm Mfs Mfl Mfb Mho Mwo Mda Men Mke Mva) => hM h1 e1) (fun h1 h2 k1 e1 hp2 => ?_)
        · obtain ⟨hp1, hf⟩ := hp
          have m79 := (k.ap a ha).2.2.2.2.2.2
          have hap1 : ∀ i, i < 6 → APP i h1 (dr i) (fl i) (op i) (mp i) (fi i) (lk i) (pp i) (pl i) (pe i) (qb i) (qn i) (qf i) (ql i) (td i) (tl i) ((va_up c1 a (upd (c1 a) (l1 a) (nI c))) i) ((va_up o1 a (upd (o1 a) (l1 a) k9)) i) ((va_up y1 a (upd (y1 a) (l1 a) (nI y0))) i) ((va_up n1 a (upd (n1 a) (l1 a) (nI n0))) i) ((va_up l1 a (l1 a + 1)) i) (c2 i) (o2 i) (y2 i) (n2 i) (l2 i) := by
            intro i hi
            by_cases e9 : i = a
            · subst e9; simp only [va_eq]; obtain ⟨m1, m2, m3, m4, m5, m6, m7⟩ := k.ap i hi; exact ⟨m1.on (fun c h1 h2 => hf c (by omega)), m2.on (fun c h1 h2 => hf c (by omega)), m3.on (fun c h1 h2 => hf c (by omega)), m4.on (fun c h1 h2 => hf c (by omega)), hp1, m6.on (fun c h1 h2 => hf c (by omega)), m7⟩
            · have m7 := (k.ap a ha).2.2.2.2.2.2; simp only [va_ne e9]; exact (k.ap i hi).on (fun c h1 h2 => hf c (by omega))
          have k1 : KER h1 np nb mw mo mr mt mn md ts ck dw dn os ol fb f13 lost dr fl op mp fi lk pp pl pe qb qn qf ql td tl (va_up c1 a (upd (c1 a) (l1 a) (nI c))) (va_up o1 a (upd (o1 a) (l1 a) k9)) (va_up y1 a (upd (y1 a) (l1 a) (nI y0))) (va_up n1 a (upd (n1 a) (l1 a) (nI n0))) (va_up l1 a (l1 a + 1)) c2 o2 y2 n2 l2 := ⟨k.hK.on (fun c h1 h2 => hf c (by omega)) (fun c h1 h2 => hf c (by omega)), k.hm.on (fun c h1 h2 => hf c (by omega)), k.hd.on (fun c h1 h2 => hf c (by omega)), k.ho.on (fun c h1 h2 => hf c (by omega)), k.hr.on (fun c h1 h2 => hf c (by omega)), hap1⟩
          have e1 : MOD h1 np nb ck ts lost ol f13 op mp sa sx Mfi Mlk Mow Mtk Mdl Mrt Mwd Mgo Mgm Mln Mcd Mst Mfm Mfs Mfl Mfb Mho Mwo Mda Men Mke Mva := e.mv (fun c hc => hf c (by omega))
          exact ⟨⟨_, k1.hK.1⟩, ⟨_, e1.hMo⟩, k1, e1⟩
        · obtain ⟨hLn, hCd, hf2⟩ := hp2
          have hR : REL np nb mw mo mr mt mn md ts ck dw dn os ol fb f13 lost dr fl op mp fi lk pp pl pe qb qn qf ql td tl (va_up c1 a (upd (c1 a) (l1 a) (nI c))) (va_up o1 a (upd (o1 a) (l1 a) k9)) (va_up y1 a (upd (y1 a) (l1 a) (nI y0))) (va_up n1 a (upd (n1 a) (l1 a) (nI n0))) (va_up l1 a (l1 a + 1)) c2 o2 y2 n2 l2 sa sx Mfi Mlk Mow Mtk Mdl Mrt Mwd Mgo Mgm (va_up Mln a (Mln a + 1)) (upd (upd (upd (upd Mcd (a * 64 + Mln a * 4) (nI c)) ((a * 64 + Mln a * 4) + 1) k9) ((a * 64 + Mln a * 4) + 2) (nI y0)) ((a * 64 + Mln a * 4) + 3) (nI n0)) Mst Mfm Mfs Mfl Mfb Mho Mwo Mda Men Mke Mva (n + 1) := by
            refine ⟨(by have := r.tsn; omega), (by have := r.ckn; omega), (r.rm), (r.rd), (r.ro), (r.rf), (fun i hi => ?_)⟩
            by_cases e9 : i = a
            · subst e9
              have q := r.ra i hi
              simp only [va_eq]
              refine ⟨q.fk, q.gm, q.go, q.q0, q.fs, q.fl, q.fb, q.t0, q.en, q.td, q.ti, q.ke, (fun h9 => by rw [va_eq, hln]), (fun h9 => by rw [hop] at h9; cases h9), (fun h9 => ?_), q.yf, (fun h9 => (q.pf h9).cg (k.ap i hi).2.2.2.2.2.1.2.2.2.2.2 (fun t ht => by rw [upd_ne (by omega), upd_ne (by omega), upd_ne (by omega), upd_ne (by omega)])), q.sf⟩
              rw [hln]
              exact (q.pr h9).app hc ⟨rfl, by omega⟩ ⟨rfl, by omega⟩ (fun _ _ => ⟨rfl, rfl⟩) (fun h8 => absurd ht8 h8)
            · simp only [va_ne e9]
              exact (r.ra i hi).cg (k.ap i hi) rfl rfl (fun _ _ => rfl) rfl (va_ne e9) (fun t ht => by rw [upd_ne (by omega), upd_ne (by omega), upd_ne (by omega), upd_ne (by omega)]) (fun t ht => by rw [upd_ne (by omega), upd_ne (by omega), upd_ne (by omega), upd_ne (by omega)]) rfl (fun _ _ => rfl) (fun _ _ _ _ => rfl) (fun _ _ => rfl) rfl (fun _ _ => rfl) (fun _ _ => rfl) (fun _ _ _ _ h9 => ⟨h9, fun _ _ => rfl⟩)
          exact ST.mk (k1.mv (hf2.lo (by decide))) ⟨MOB.mv e1.hMo (hf2 166 (by decide)), (hf2 167 (by decide)).trans e1.hOp, (hf2 168 (by decide)).trans e1.hIm, (hf2 169 (by decide)).trans e1.hFi, (hf2 170 (by decide)).trans e1.hLi, (hf2 171 (by decide)).trans e1.hOw, (hf2 172 (by decide)).trans e1.hTk, (hf2 173 (by decide)).trans e1.hDl, (hf2 174 (by decide)).trans e1.hRt, (hf2 175 (by decide)).trans e1.hWd, (hf2 176 (by decide)).trans e1.hGo, (hf2 177 (by decide)).trans e1.hGm, hLn, hCd, (hf2 180 (by decide)).trans e1.hSt, (hf2 181 (by decide)).trans e1.hFm, (hf2 182 (by decide)).trans e1.hFs, (hf2 183 (by decide)).trans e1.hFl, (hf2 184 (by decide)).trans e1.hFb, (hf2 185 (by decide)).trans e1.hHo, (hf2 186 (by decide)).trans e1.hWo, (hf2 187 (by decide)).trans e1.hDa, (hf2 188 (by decide)).trans e1.hEn, (hf2 189 (by decide)).trans e1.hKe, (hf2 190 (by decide)).trans e1.hVa⟩ hR
      | false =>
        have ht9 := ht
        rw [tst_N hc] at ht9
        have ht8 := of_decide_eq_false ht9
        have hCf := c_K_op_f (l := l) (L := L) (xs := xs) (z := z) k.hK k.hap ha hP (nI c) k9 y n9 ho hins hlt ht
        refine OPS.ch2 (hCf) (fun h1 hp => ?_) (fun h1 (k1 : KER h1 np nb mw mo mr mt mn md ts ck dw dn os ol fb f13 lost dr fl op mp fi lk pp pl pe qb qn qf ql td tl (va_up c1 a (upd (c1 a) (l1 a) (nI c))) (va_up o1 a (upd (o1 a) (l1 a) k9)) (va_up y1 a (upd (y1 a) (l1 a) (nI 0))) (va_up n1 a (upd (n1 a) (l1 a) (nI 0))) (va_up l1 a (l1 a + 1)) c2 o2 y2 n2 l2) (e1 : MOD h1 np nb ck ts lost ol f13 op mp sa sx Mfi Mlk Mow Mtk Mdl Mrt Mwd Mgo Mgm Mln Mcd Mst Mfm Mfs Mfl Mfb Mho Mwo Mda Men Mke Mva) => hM h1 e1) (fun h1 h2 k1 e1 hp2 => ?_)
        · obtain ⟨hp1, hf⟩ := hp
          have m79 := (k.ap a ha).2.2.2.2.2.2
          have hap1 : ∀ i, i < 6 → APP i h1 (dr i) (fl i) (op i) (mp i) (fi i) (lk i) (pp i) (pl i) (pe i) (qb i) (qn i) (qf i) (ql i) (td i) (tl i) ((va_up c1 a (upd (c1 a) (l1 a) (nI c))) i) ((va_up o1 a (upd (o1 a) (l1 a) k9)) i) ((va_up y1 a (upd (y1 a) (l1 a) (nI 0))) i) ((va_up n1 a (upd (n1 a) (l1 a) (nI 0))) i) ((va_up l1 a (l1 a + 1)) i) (c2 i) (o2 i) (y2 i) (n2 i) (l2 i) := by
            intro i hi
            by_cases e9 : i = a
            · subst e9; simp only [va_eq]; obtain ⟨m1, m2, m3, m4, m5, m6, m7⟩ := k.ap i hi; exact ⟨m1.on (fun c h1 h2 => hf c (by omega)), m2.on (fun c h1 h2 => hf c (by omega)), m3.on (fun c h1 h2 => hf c (by omega)), m4.on (fun c h1 h2 => hf c (by omega)), hp1, m6.on (fun c h1 h2 => hf c (by omega)), m7⟩
            · have m7 := (k.ap a ha).2.2.2.2.2.2; simp only [va_ne e9]; exact (k.ap i hi).on (fun c h1 h2 => hf c (by omega))
          have k1 : KER h1 np nb mw mo mr mt mn md ts ck dw dn os ol fb f13 lost dr fl op mp fi lk pp pl pe qb qn qf ql td tl (va_up c1 a (upd (c1 a) (l1 a) (nI c))) (va_up o1 a (upd (o1 a) (l1 a) k9)) (va_up y1 a (upd (y1 a) (l1 a) (nI 0))) (va_up n1 a (upd (n1 a) (l1 a) (nI 0))) (va_up l1 a (l1 a + 1)) c2 o2 y2 n2 l2 := ⟨k.hK.on (fun c h1 h2 => hf c (by omega)) (fun c h1 h2 => hf c (by omega)), k.hm.on (fun c h1 h2 => hf c (by omega)), k.hd.on (fun c h1 h2 => hf c (by omega)), k.ho.on (fun c h1 h2 => hf c (by omega)), k.hr.on (fun c h1 h2 => hf c (by omega)), hap1⟩
          have e1 : MOD h1 np nb ck ts lost ol f13 op mp sa sx Mfi Mlk Mow Mtk Mdl Mrt Mwd Mgo Mgm Mln Mcd Mst Mfm Mfs Mfl Mfb Mho Mwo Mda Men Mke Mva := e.mv (fun c hc => hf c (by omega))
          exact ⟨⟨_, k1.hK.1⟩, ⟨_, e1.hMo⟩, k1, e1⟩
        · obtain ⟨hLn, hCd, hf2⟩ := hp2
          have hR : REL np nb mw mo mr mt mn md ts ck dw dn os ol fb f13 lost dr fl op mp fi lk pp pl pe qb qn qf ql td tl (va_up c1 a (upd (c1 a) (l1 a) (nI c))) (va_up o1 a (upd (o1 a) (l1 a) k9)) (va_up y1 a (upd (y1 a) (l1 a) (nI 0))) (va_up n1 a (upd (n1 a) (l1 a) (nI 0))) (va_up l1 a (l1 a + 1)) c2 o2 y2 n2 l2 sa sx Mfi Mlk Mow Mtk Mdl Mrt Mwd Mgo Mgm (va_up Mln a (Mln a + 1)) (upd (upd (upd (upd Mcd (a * 64 + Mln a * 4) (nI c)) ((a * 64 + Mln a * 4) + 1) k9) ((a * 64 + Mln a * 4) + 2) y) ((a * 64 + Mln a * 4) + 3) n9) Mst Mfm Mfs Mfl Mfb Mho Mwo Mda Men Mke Mva (n + 1) := by
            refine ⟨(by have := r.tsn; omega), (by have := r.ckn; omega), (r.rm), (r.rd), (r.ro), (r.rf), (fun i hi => ?_)⟩
            by_cases e9 : i = a
            · subst e9
              have q := r.ra i hi
              simp only [va_eq]
              refine ⟨q.fk, q.gm, q.go, q.q0, q.fs, q.fl, q.fb, q.t0, q.en, q.td, q.ti, q.ke, (fun h9 => by rw [va_eq, hln]), (fun h9 => by rw [hop] at h9; cases h9), (fun h9 => ?_), q.yf, (fun h9 => (q.pf h9).cg (k.ap i hi).2.2.2.2.2.1.2.2.2.2.2 (fun t ht => by rw [upd_ne (by omega), upd_ne (by omega), upd_ne (by omega), upd_ne (by omega)])), q.sf⟩
              rw [hln]
              exact (q.pr h9).app hc ⟨rfl, by omega⟩ ⟨rfl, by omega⟩ (fun h1 h2 => absurd ⟨h1, h2⟩ ht8) (fun _ => ⟨rfl, rfl⟩)
            · simp only [va_ne e9]
              exact (r.ra i hi).cg (k.ap i hi) rfl rfl (fun _ _ => rfl) rfl (va_ne e9) (fun t ht => by rw [upd_ne (by omega), upd_ne (by omega), upd_ne (by omega), upd_ne (by omega)]) (fun t ht => by rw [upd_ne (by omega), upd_ne (by omega), upd_ne (by omega), upd_ne (by omega)]) rfl (fun _ _ => rfl) (fun _ _ _ _ => rfl) (fun _ _ => rfl) rfl (fun _ _ => rfl) (fun _ _ => rfl) (fun _ _ _ _ h9 => ⟨h9, fun _ _ => rfl⟩)
          exact ST.mk (k1.mv (hf2.lo (by decide))) ⟨MOB.mv e1.hMo (hf2 166 (by decide)), (hf2 167 (by decide)).trans e1.hOp, (hf2 168 (by decide)).trans e1.hIm, (hf2 169 (by decide)).trans e1.hFi, (hf2 170 (by decide)).trans e1.hLi, (hf2 171 (by decide)).trans e1.hOw, (hf2 172 (by decide)).trans e1.hTk, (hf2 173 (by decide)).trans e1.hDl, (hf2 174 (by decide)).trans e1.hRt, (hf2 175 (by decide)).trans e1.hWd, (hf2 176 (by decide)).trans e1.hGo, (hf2 177 (by decide)).trans e1.hGm, hLn, hCd, (hf2 180 (by decide)).trans e1.hSt, (hf2 181 (by decide)).trans e1.hFm, (hf2 182 (by decide)).trans e1.hFs, (hf2 183 (by decide)).trans e1.hFl, (hf2 184 (by decide)).trans e1.hFb, (hf2 185 (by decide)).trans e1.hHo, (hf2 186 (by decide)).trans e1.hWo, (hf2 187 (by decide)).trans e1.hDa, (hf2 188 (by decide)).trans e1.hEn, (hf2 189 (by decide)).trans e1.hKe, (hf2 190 (by decide)).trans e1.hVa⟩ hR
