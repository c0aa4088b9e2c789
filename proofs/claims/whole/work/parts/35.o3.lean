/-! calls on both: push, next, got -/
theorem PRL.cg {cd cd' : Nat → Int32} {base gl : Nat} {gc go gy gn : Nat → Int32} (r : PRL cd base gl gc go gy gn) (hl : gl ≤ 16) (hc : ∀ t, t < 64 → cd' (base + t) = cd (base + t)) : PRL cd' base gl gc go gy gn :=
  ⟨r.c, fun j hj => by rw [hc (j * 4) (by omega)]; exact r.cd j hj, fun j hj => by rw [show base + j * 4 + 1 = base + (j * 4 + 1) by omega, hc (j * 4 + 1) (by omega)]; exact r.k j hj, r.y, r.n, fun j hj h1 h2 => by rw [show base + j * 4 + 2 = base + (j * 4 + 2) by omega, show base + j * 4 + 3 = base + (j * 4 + 3) by omega, hc (j * 4 + 2) (by omega), hc (j * 4 + 3) (by omega)]; exact r.t j hj h1 h2, r.z⟩
theorem RA.cg {h : pz_H} {a : Nat} {dr fl : Nat} {op mp : Bool} {fi lk : Nat} {pp : Nat → Int32} {pl pe : Nat} {qb : Nat → Nat → Int32} {qn : Nat → Nat} {qf ql : Nat} {td : Nat → Int32} {tl : Nat} {c1 o1 y1 n1 : Nat → Int32} {l1 : Nat} {c2 o2 y2 n2 : Nat → Int32} {l2 : Nat} {nb : Nat} {dw dn dw' dn' : Nat → Int32} {Mfi Mfi' : Nat → Int32} {Mlk Mlk' : Nat → Int32} {Mgo Mgo' : Nat → Int32} {Mgm Mgm' : Nat → Nat} {Mln Mln' : Nat → Nat} {Mcd Mcd' : Nat → Int32} {Mfs Mfs' : Nat → Nat} {Mfl Mfl' : Nat → Nat} {Mfb Mfb' : Nat → Int32} {Mda Mda' : Nat → Int32} {Men Men' : Nat → Nat} {Mke Mke' : Nat → Int32} {Mva Mva' : Nat → Int32} (r : RA a op mp fi lk pp pl pe qb qn qf ql td tl c1 o1 y1 n1 l1 c2 o2 y2 n2 l2 nb dw dn Mfi Mlk Mgo Mgm Mln Mcd Mfs Mfl Mfb Mda Men Mke Mva) (ap : APP a h dr fl op mp fi lk pp pl pe qb qn qf ql td tl c1 o1 y1 n1 l1 c2 o2 y2 n2 l2) (cMfi : Mfi' a = Mfi a) (cMlk : Mlk' a = Mlk a) (cMgo : ∀ k, k < 8 → Mgo' (a * 8 + k) = Mgo (a * 8 + k)) (cMgm : Mgm' a = Mgm a) (cMln : Mln' a = Mln a) (cMcd : ∀ t, t < 64 → Mcd' (a * 64 + t) = Mcd (a * 64 + t)) (cMcf : ∀ t, t < 64 → Mcd' (384 + a * 64 + t) = Mcd (384 + a * 64 + t)) (cMfs : Mfs' a = Mfs a) (cMfl : ∀ k, k < 4 → Mfl' (a * 4 + k) = Mfl (a * 4 + k)) (cMfb : ∀ k t, k < 4 → t < 16 → Mfb' ((a * 4 + k) * 16 + t) = Mfb ((a * 4 + k) * 16 + t)) (cMda : ∀ j, j < 7 → Mda' (a * 7 + j) = Mda (a * 7 + j)) (cMen : Men' a = Men a) (cMke : ∀ q, q < 28 → Mke' (a * 28 + q) = Mke (a * 28 + q)) (cMva : ∀ q, q < 28 → Mva' (a * 28 + q) = Mva (a * 28 + q)) (cdk : op = true → mp = true → ∀ b, b < nb → dn b = nI a → dn' b = nI a ∧ ∀ w, w < 8 → dw' (b * 8 + w) = dw (b * 8 + w)) : RA a op mp fi lk pp pl pe qb qn qf ql td tl c1 o1 y1 n1 l1 c2 o2 y2 n2 l2 nb dw' dn' Mfi' Mlk' Mgo' Mgm' Mln' Mcd' Mfs' Mfl' Mfb' Mda' Men' Mke' Mva' := by
  obtain ⟨-, m2, m3, m4, m5, m6, -⟩ := ap
  have hpl := m2.2.2.1
  have hql := m3.2.2.2.2
  have hqn : ∀ j, j < 4 → qn j ≤ 16 := fun j hj => (m3.2.2.1 j hj).2.2
  have htl := m4.2.2
  have hl1 := m5.2.2.2.2.2
  have hl2 := m6.2.2.2.2.2
  have hek : op = true → mp = true → ∀ q, q < tl → dw' (eka (fun j => cn (td j)) q) = dw (eka (fun j => cn (td j)) q) ∧ dw' (eka (fun j => cn (td j)) q + 1) = dw (eka (fun j => cn (td j)) q + 1) := fun h1 h2 q hq => by
    obtain ⟨-, g2, g3, -⟩ := r.td h1 h2 (q / 4) (by omega)
    have g4 := (cdk h1 h2 _ g2 g3).2
    unfold eka
    rw [Nat.add_assoc]
    exact ⟨g4 _ (by omega), g4 _ (by omega)⟩
  refine ⟨fun h1 h2 => by rw [cMfi, cMlk]; exact r.fk h1 h2, by rw [cMgm]; exact r.gm, fun k hk => by rw [cMgo k (by omega)]; exact r.go k hk, r.q0, fun h1 => by rw [cMfs]; exact r.fs h1, fun h1 k hk => by rw [cMfl k (by omega)]; exact r.fl h1 k hk, fun h1 k hk t ht => by rw [cMfb k t (by omega) (Nat.lt_of_lt_of_le ht (hqn _ (Nat.mod_lt _ (by omega))))]; exact r.fb h1 k hk t ht, r.t0, fun h1 h2 => by rw [cMen]; exact r.en h1 h2, fun h1 h2 j hj => ?_, r.ti, fun h1 h2 q hq => ?_, fun h1 => by rw [cMln]; exact r.ln h1, r.l0, fun h1 => (r.pr h1).cg hl1 cMcd, r.yf, fun h1 => (r.pf h1).cg hl2 cMcf, r.sf⟩
  · obtain ⟨g1, g2, g3, g4⟩ := r.td h1 h2 j hj
    exact ⟨g1, g2, (cdk h1 h2 _ g2 g3).1, by rw [cMda j (by omega)]; exact g4⟩
  · rw [(hek h1 h2 q hq).1, (hek h1 h2 q hq).2, cMke q (by omega), cMva q (by omega)]
    exact r.ke h1 h2 q hq
set_option maxHeartbeats 4000000 in
set_option maxRecDepth 20000 in
theorem op_push {l : Launch} {L : Nat} {xs : Nat → Int32} {h : pz_H} {z n : Nat} (x : Int32) (hn : n < 4000) (s : ST h n) : OPS l L xs M_K_push M_Mo_push 1 1 [.int x] h z n := by
  obtain ⟨np, nb, mw, mo, mr, mt, mn, md, ts, ck, dw, dn, os, ol, fb, f13, lost, dr, fl, op, mp, fi, lk, pp, pl, pe, qb, qn, qf, ql, td, tl, c1, o1, y1, n1, l1, c2, o2, y2, n2, l2, sa, sx, Mfi, Mlk, Mow, Mtk, Mdl, Mrt, Mwd, Mgo, Mgm, Mln, Mcd, Mst, Mfm, Mfs, Mfl, Mfb, Mho, Mwo, Mda, Men, Mke, Mva, k, e, r⟩ := s
  have hfl := k.hr.2.2
  cases ho : rng x (nI 0) (nI 255) with
  | false => exact OPS.nn k e r (c_K_push_no k.hK k.hap k.hr x ho) (c_Mo_push_no e.hMo k.np32 k.nb32 e.hFm x ho)
  | true =>
    by_cases h16 : f13 = 16
    · exact OPS.nn k e r (c_K_push_full k.hK k.hap k.hr x ho h16) (c_Mo_push_full e.hMo k.np32 k.nb32 e.hFm x ho h16)
    · have hlt : f13 < 16 := by omega
      refine OPS.ch2 (c_K_push_ok k.hK k.hap k.hr x ho hlt) (fun h1 hp => ?_) (fun h1 (k1 : KER h1 np nb mw mo mr mt mn md ts ck dw dn os ol (upd fb f13 x) (f13 + 1) lost dr fl op mp fi lk pp pl pe qb qn qf ql td tl c1 o1 y1 n1 l1 c2 o2 y2 n2 l2) (e1 : MOD h1 np nb ck ts lost ol f13 op mp sa sx Mfi Mlk Mow Mtk Mdl Mrt Mwd Mgo Mgm Mln Mcd Mst Mfm Mfs Mfl Mfb Mho Mwo Mda Men Mke Mva) => c_Mo_push_ok e1.hMo k.np32 k.nb32 e1.hFm x ho hlt) (fun h1 h2 k1 e1 hp2 => ?_)
      · obtain ⟨hr, hf⟩ := hp
        have k1 : KER h1 np nb mw mo mr mt mn md ts ck dw dn os ol (upd fb f13 x) (f13 + 1) lost dr fl op mp fi lk pp pl pe qb qn qf ql td tl c1 o1 y1 n1 l1 c2 o2 y2 n2 l2 := ⟨k.hK.on (fun c h1 h2 => hf c (by omega)) (fun c h1 h2 => hf c (by omega)), k.hm.on (fun c h1 h2 => hf c (by omega)), k.hd.on (fun c h1 h2 => hf c (by omega)), k.ho.on (fun c h1 h2 => hf c (by omega)), hr, fun i hi => (k.ap i hi).on (fun c h1 h2 => hf c (by omega))⟩
        have e1 : MOD h1 np nb ck ts lost ol f13 op mp sa sx Mfi Mlk Mow Mtk Mdl Mrt Mwd Mgo Mgm Mln Mcd Mst Mfm Mfs Mfl Mfb Mho Mwo Mda Men Mke Mva := e.mv (fun c hc => hf c (by omega))
        exact ⟨⟨_, k1.hK.1⟩, ⟨_, e1.hMo⟩, k1, e1⟩
      · obtain ⟨hMo, hFm, hf2⟩ := hp2
        have hR : REL np nb mw mo mr mt mn md ts ck dw dn os ol (upd fb f13 x) (f13 + 1) lost dr fl op mp fi lk pp pl pe qb qn qf ql td tl c1 o1 y1 n1 l1 c2 o2 y2 n2 l2 sa sx Mfi Mlk Mow Mtk Mdl Mrt Mwd Mgo Mgm Mln Mcd Mst (upd Mfm f13 x) Mfs Mfl Mfb Mho Mwo Mda Men Mke Mva (n + 1) := by
          refine ⟨(by have := r.tsn; omega), (by have := r.ckn; omega), (r.rm), (r.rd), (r.ro), (fun q hq => ?_), (r.ra)⟩
          by_cases e9 : q = f13
          · subst e9; rw [upd_eq, upd_eq]
          · rw [upd_ne e9, upd_ne e9]; exact r.rf q (by omega)
        exact ST.mk (k1.mv (hf2.lo (by decide))) ⟨hMo, (hf2 167 (by decide)).trans e1.hOp, (hf2 168 (by decide)).trans e1.hIm, (hf2 169 (by decide)).trans e1.hFi, (hf2 170 (by decide)).trans e1.hLi, (hf2 171 (by decide)).trans e1.hOw, (hf2 172 (by decide)).trans e1.hTk, (hf2 173 (by decide)).trans e1.hDl, (hf2 174 (by decide)).trans e1.hRt, (hf2 175 (by decide)).trans e1.hWd, (hf2 176 (by decide)).trans e1.hGo, (hf2 177 (by decide)).trans e1.hGm, (hf2 178 (by decide)).trans e1.hLn, (hf2 179 (by decide)).trans e1.hCd, (hf2 180 (by decide)).trans e1.hSt, hFm, (hf2 182 (by decide)).trans e1.hFs, (hf2 183 (by decide)).trans e1.hFl, (hf2 184 (by decide)).trans e1.hFb, (hf2 185 (by decide)).trans e1.hHo, (hf2 186 (by decide)).trans e1.hWo, (hf2 187 (by decide)).trans e1.hDa, (hf2 188 (by decide)).trans e1.hEn, (hf2 189 (by decide)).trans e1.hKe, (hf2 190 (by decide)).trans e1.hVa⟩ hR
set_option maxHeartbeats 4000000 in
set_option maxRecDepth 20000 in
theorem op_next {l : Launch} {L : Nat} {xs : Nat → Int32} {h : pz_H} {z n : Nat} (x : Int32) (hn : n < 4000) (s : ST h n) : OPS l L xs M_K_next M_Mo_next 3 2 [.int x] h z n := by
  obtain ⟨np, nb, mw, mo, mr, mt, mn, md, ts, ck, dw, dn, os, ol, fb, f13, lost, dr, fl, op, mp, fi, lk, pp, pl, pe, qb, qn, qf, ql, td, tl, c1, o1, y1, n1, l1, c2, o2, y2, n2, l2, sa, sx, Mfi, Mlk, Mow, Mtk, Mdl, Mrt, Mwd, Mgo, Mgm, Mln, Mcd, Mst, Mfm, Mfs, Mfl, Mfb, Mho, Mwo, Mda, Men, Mke, Mva, k, e, r⟩ := s
  cases ho : opn op x with
  | false => exact OPS.nn k e r (c_K_next_no k.hK k.hap x ho) (c_Mo_next_no e.hMo k.np32 k.nb32 e.hOp e.hFs e.hFl e.hFb x ho)
  | true =>
    obtain ⟨a, ha, hop, rfl⟩ := opn_N ho
    have hfs := (r.ra a ha).fs hop
    have hq4 := (k.ap a ha).2.2.1.2.2.2.2
    by_cases h0 : ql a = 0
    · exact OPS.nn k e r (c_K_next_none k.hK k.hap ha (k.ap a ha).2.2.1 ho h0) (c_Mo_next_none e.hMo k.np32 k.nb32 e.hOp e.hFs e.hFl e.hFb ha hop (hfs.trans h0))
    · have h1p : 0 < ql a := by omega
      have hM : ∀ (h1 : pz_H), MOD h1 np nb ck ts lost ol f13 op mp sa sx Mfi Mlk Mow Mtk Mdl Mrt Mwd Mgo Mgm Mln Mcd Mst Mfm Mfs Mfl Mfb Mho Mwo Mda Men Mke Mva → pz_K l L xs M_Mo_next 2 0 0 [.ref 166, .int (nI a)] h1 z (fun v h' z' => v = some (.int (nI (ql a - 1))) ∧ z = z' ∧ AN h' 182 6 (va_up Mfs a (Mfs a - 1)) ∧ AN h' 183 24 (filN Mfl (fun j => Mfl (j + 1)) (a * 4) 3) ∧ AI h' 184 384 (fil Mfb (fun j => Mfb (j + 16)) (a * 64) 48) ∧ frx [182, 183, 184] h1 h') := fun h1 e1 => by
        have h9 := c_Mo_next_ok e1.hMo k.np32 k.nb32 e1.hOp e1.hFs e1.hFl e1.hFb (l := l) (L := L) (xs := xs) (z := z) ha hop (by omega) (by omega)
        rw [show nI (Mfs a - 1) = nI (ql a - 1) by rw [hfs]] at h9
        exact h9
      refine OPS.ch2 (c_K_next_ok k.hK k.hap ha (k.ap a ha).2.2.1 ho h1p) (fun h1 hp => ?_) (fun h1 (k1 : KER h1 np nb mw mo mr mt mn md ts ck dw dn os ol fb f13 lost dr fl op mp fi lk pp pl pe qb qn (va_up qf a ((qf a + 1) % 4)) (va_up ql a (ql a - 1)) td tl c1 o1 y1 n1 l1 c2 o2 y2 n2 l2) (e1 : MOD h1 np nb ck ts lost ol f13 op mp sa sx Mfi Mlk Mow Mtk Mdl Mrt Mwd Mgo Mgm Mln Mcd Mst Mfm Mfs Mfl Mfb Mho Mwo Mda Men Mke Mva) => hM h1 e1) (fun h1 h2 k1 e1 hp2 => ?_)
      · obtain ⟨hq, hf⟩ := hp
        have hap1 : ∀ i, i < 6 → APP i h1 (dr i) (fl i) (op i) (mp i) (fi i) (lk i) (pp i) (pl i) (pe i) (qb i) (qn i) ((va_up qf a ((qf a + 1) % 4)) i) ((va_up ql a (ql a - 1)) i) (td i) (tl i) (c1 i) (o1 i) (y1 i) (n1 i) (l1 i) (c2 i) (o2 i) (y2 i) (n2 i) (l2 i) := by
          intro i hi
          by_cases e9 : i = a
          · subst e9; simp only [va_eq]; obtain ⟨m1, m2, m3, m4, m5, m6, m7⟩ := k.ap i hi; exact ⟨m1.on (fun c h1 h2 => hf c (by omega)), m2.on (fun c h1 h2 => hf c (by omega)), hq, m4.on (fun c h1 h2 => hf c (by omega)), m5.on (fun c h1 h2 => hf c (by omega)), m6.on (fun c h1 h2 => hf c (by omega)), m7⟩
          · simp only [va_ne e9]; exact (k.ap i hi).on (fun c h1 h2 => hf c (by omega))
        have k1 : KER h1 np nb mw mo mr mt mn md ts ck dw dn os ol fb f13 lost dr fl op mp fi lk pp pl pe qb qn (va_up qf a ((qf a + 1) % 4)) (va_up ql a (ql a - 1)) td tl c1 o1 y1 n1 l1 c2 o2 y2 n2 l2 := ⟨k.hK.on (fun c h1 h2 => hf c (by omega)) (fun c h1 h2 => hf c (by omega)), k.hm.on (fun c h1 h2 => hf c (by omega)), k.hd.on (fun c h1 h2 => hf c (by omega)), k.ho.on (fun c h1 h2 => hf c (by omega)), k.hr.on (fun c h1 h2 => hf c (by omega)), hap1⟩
        have e1 : MOD h1 np nb ck ts lost ol f13 op mp sa sx Mfi Mlk Mow Mtk Mdl Mrt Mwd Mgo Mgm Mln Mcd Mst Mfm Mfs Mfl Mfb Mho Mwo Mda Men Mke Mva := e.mv (fun c hc => hf c (by omega))
        exact ⟨⟨_, k1.hK.1⟩, ⟨_, e1.hMo⟩, k1, e1⟩
      · obtain ⟨hFs, hFl, hFb, hf2⟩ := hp2
        have hR : REL np nb mw mo mr mt mn md ts ck dw dn os ol fb f13 lost dr fl op mp fi lk pp pl pe qb qn (va_up qf a ((qf a + 1) % 4)) (va_up ql a (ql a - 1)) td tl c1 o1 y1 n1 l1 c2 o2 y2 n2 l2 sa sx Mfi Mlk Mow Mtk Mdl Mrt Mwd Mgo Mgm Mln Mcd Mst Mfm (va_up Mfs a (Mfs a - 1)) (filN Mfl (fun j => Mfl (j + 1)) (a * 4) 3) (fil Mfb (fun j => Mfb (j + 16)) (a * 64) 48) Mho Mwo Mda Men Mke Mva (n + 1) := by
          refine ⟨(by have := r.tsn; omega), (by have := r.ckn; omega), (r.rm), (r.rd), (r.ro), (r.rf), (fun i hi => ?_)⟩
          by_cases e9 : i = a
          · subst e9
            have q := r.ra i hi
            have hq4 := (k.ap i hi).2.2.1.2.2.2.2
            have hqn : ∀ j, j < 4 → qn i j ≤ 16 := fun j hj => ((k.ap i hi).2.2.1.2.2.1 j hj).2.2
            simp only [va_eq]
            refine ⟨q.fk, q.gm, q.go, (fun h9 => by rw [hop] at h9; cases h9), (fun h9 => by rw [va_eq, q.fs h9]), (fun h9 j hj => ?_), (fun h9 j hj t ht => ?_), q.t0, q.en, q.td, q.ti, q.ke, q.ln, q.l0, q.pr, q.yf, q.pf, q.sf⟩
            · rw [filN_i (by omega), show i * 4 + j + 1 = i * 4 + (j + 1) by omega, q.fl h9 (j + 1) (by omega)]; congr 1 <;> omega
            · have e8 : ((qf i + 1) % 4 + j) % 4 = (qf i + (j + 1)) % 4 := by omega
              rw [e8] at ht ⊢
              have h16 := hqn ((qf i + (j + 1)) % 4) (Nat.mod_lt _ (by omega))
              rw [fil_i (by omega), show (i * 4 + j) * 16 + t + 16 = (i * 4 + (j + 1)) * 16 + t by omega]
              exact q.fb h9 (j + 1) (by omega) t ht
          · simp only [va_ne e9]
            exact (r.ra i hi).cg (k.ap i hi) rfl rfl (fun _ _ => rfl) rfl rfl (fun _ _ => rfl) (fun _ _ => rfl) (va_ne e9) (fun j hj => filN_o (by omega)) (fun j t hj ht => fil_o (by omega)) (fun _ _ => rfl) rfl (fun _ _ => rfl) (fun _ _ => rfl) (fun _ _ _ _ h9 => ⟨h9, fun _ _ => rfl⟩)
        exact ST.mk (k1.mv (hf2.lo (by decide))) ⟨MOB.mv e1.hMo (hf2 166 (by decide)), (hf2 167 (by decide)).trans e1.hOp, (hf2 168 (by decide)).trans e1.hIm, (hf2 169 (by decide)).trans e1.hFi, (hf2 170 (by decide)).trans e1.hLi, (hf2 171 (by decide)).trans e1.hOw, (hf2 172 (by decide)).trans e1.hTk, (hf2 173 (by decide)).trans e1.hDl, (hf2 174 (by decide)).trans e1.hRt, (hf2 175 (by decide)).trans e1.hWd, (hf2 176 (by decide)).trans e1.hGo, (hf2 177 (by decide)).trans e1.hGm, (hf2 178 (by decide)).trans e1.hLn, (hf2 179 (by decide)).trans e1.hCd, (hf2 180 (by decide)).trans e1.hSt, (hf2 181 (by decide)).trans e1.hFm, hFs, hFl, hFb, (hf2 185 (by decide)).trans e1.hHo, (hf2 186 (by decide)).trans e1.hWo, (hf2 187 (by decide)).trans e1.hDa, (hf2 188 (by decide)).trans e1.hEn, (hf2 189 (by decide)).trans e1.hKe, (hf2 190 (by decide)).trans e1.hVa⟩ hR
theorem inb_inn {i : Int32} {fl : Nat} (hf : fl ≤ 16) : inb i.toInt64 fl = inn i fl := by
  unfold inb inn
  have e1 : (i.toInt64 < 0) ↔ (i < 0) := by
    rw [Int64.lt_iff_toInt_lt, Int32.lt_iff_toInt_lt, Int32.toInt_toInt64]
    exact Iff.rfl
  have e2 : (lN fl ≤ i.toInt64) ↔ (nI fl ≤ i) := by
    rw [Int64.le_iff_toInt_le, Int32.le_iff_toInt_le, Int32.toInt_toInt64, lN_toInt (by omega), nI_toInt (by omega)]
  apply decide_eq_decide.mpr
  rw [lg_cmp_lt, lg_cmp_ge, nI_l (by omega), e1, e2]
set_option maxHeartbeats 4000000 in
set_option maxRecDepth 20000 in
theorem op_got {l : Launch} {L : Nat} {xs : Nat → Int32} {h : pz_H} {z n : Nat} (x y : Int32) (hn : n < 4000) (s : ST h n) : OPS l L xs M_K_got M_Mo_got 3 2 [.int x, .int y] h z n := by
  obtain ⟨np, nb, mw, mo, mr, mt, mn, md, ts, ck, dw, dn, os, ol, fb, f13, lost, dr, fl, op, mp, fi, lk, pp, pl, pe, qb, qn, qf, ql, td, tl, c1, o1, y1, n1, l1, c2, o2, y2, n2, l2, sa, sx, Mfi, Mlk, Mow, Mtk, Mdl, Mrt, Mwd, Mgo, Mgm, Mln, Mcd, Mst, Mfm, Mfs, Mfl, Mfb, Mho, Mwo, Mda, Men, Mke, Mva, k, e, r⟩ := s
  cases ho : opn op x with
  | false => exact OPS.nn k e r (c_K_got_no k.hK k.hap x y ho) (c_Mo_got_no e.hMo k.np32 k.nb32 e.hOp e.hFs e.hFl e.hFb x y ho)
  | true =>
    obtain ⟨a, ha, hop, rfl⟩ := opn_N ho
    have hQ := (k.ap a ha).2.2.1
    have hfs := (r.ra a ha).fs hop
    have hq4 := hQ.2.2.2.2
    have hf4 := hQ.2.2.2.1
    have h16 := (hQ.2.2.1 (qf a) hf4).2.2
    by_cases h0 : ql a = 0
    · exact OPS.nn k e r (c_K_got_none k.hK k.hap ha hQ ho y h0) (c_Mo_got_none e.hMo k.np32 k.nb32 e.hOp e.hFs e.hFl e.hFb ha hop y (hfs.trans h0))
    · have h1p : 0 < ql a := by omega
      have hfl : Mfl (a * 4) = qn a (qf a) := by
        have h9 := (r.ra a ha).fl hop 0 h1p
        rw [Nat.add_zero, Nat.add_zero, Nat.mod_eq_of_lt hf4] at h9
        exact h9
      by_cases hi : y = -1
      · have hM := c_Mo_got_len e.hMo k.np32 k.nb32 e.hOp e.hFs e.hFl e.hFb (l := l) (L := L) (xs := xs) (z := z) ha hop y (by omega) (by omega) (by omega) hi
        rw [hfl] at hM
        exact OPS.nn k e r (c_K_got_len k.hK k.hap ha hQ ho y h1p hi) hM
      · cases hb : inn y (qn a (qf a)) with
        | false => exact OPS.nn k e r (c_K_got_nob k.hK k.hap ha hQ ho y h1p hi (by rw [inb_inn h16]; exact hb)) (c_Mo_got_nob e.hMo k.np32 k.nb32 e.hOp e.hFs e.hFl e.hFb ha hop y (by omega) (by omega) (by omega) hi (by rw [hfl]; exact hb))
        | true =>
          obtain ⟨q, hq, rfl⟩ := inn_N (by omega) hb
          have hM := c_Mo_got_byte e.hMo k.np32 k.nb32 e.hOp e.hFs e.hFl e.hFb (l := l) (L := L) (xs := xs) (z := z) ha hop (q := q) (by omega) (by omega) (by omega) (by omega)
          have h9 := (r.ra a ha).fb hop 0 h1p q (by rw [Nat.add_zero, Nat.mod_eq_of_lt hf4]; exact hq)
          rw [Nat.add_zero, Nat.add_zero, Nat.mod_eq_of_lt hf4] at h9
          rw [show a * 64 + q = a * 4 * 16 + q by omega, h9] at hM
          exact OPS.nn k e r (c_K_got_byte k.hK k.hap ha hQ ho h1p (by omega) (by rw [inb_inn h16]; exact hb)) hM
