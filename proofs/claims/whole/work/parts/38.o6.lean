/-! calls on both: arrive, holder, count -/
theorem fac_some {P : Nat → Bool} {ao : Nat → Nat} {ol a : Nat} (h : fac P ao ol 0 = some a) : ∃ j, j < ol ∧ ao j = a := by
  unfold fac at h
  split at h
  · next q => exact ⟨_, q, Option.some.inj h⟩
  · cases h
set_option maxHeartbeats 4000000 in
set_option maxRecDepth 20000 in
theorem op_arrive {l : Launch} {L : Nat} {xs : Nat → Int32} {h : pz_H} {z n : Nat} (hn : n < 4000) (s : ST h n) : OPS l L xs M_K_arrive M_Mo_arrive 4 2 [] h z n := by
  obtain ⟨np, nb, mw, mo, mr, mt, mn, md, ts, ck, dw, dn, os, ol, fb, f13, lost, dr, fl, op, mp, fi, lk, pp, pl, pe, qb, qn, qf, ql, td, tl, c1, o1, y1, n1, l1, c2, o2, y2, n2, l2, sa, sx, Mfi, Mlk, Mow, Mtk, Mdl, Mrt, Mwd, Mgo, Mgm, Mln, Mcd, Mst, Mfm, Mfs, Mfl, Mfb, Mho, Mwo, Mda, Men, Mke, Mva, k, e, r⟩ := s
  have hao : ∀ j, j < ol → os j = nI ((fun j => cn (os j)) j) ∧ (fun j => cn (os j)) j < 6 := fun j hj => by
    obtain ⟨b, b1, b2, -⟩ := r.ro.os j hj
    show os j = nI (cn (os j)) ∧ cn (os j) < 6
    rw [b2, cn_nI (by omega)]
    exact ⟨rfl, b1⟩
  have hao2 : ∀ j, j < ol → Mst j = nI ((fun j => cn (os j)) j) ∧ (fun j => cn (os j)) j < 6 := fun j hj => by rw [r.ro.st j hj]; exact hao j hj
  have hop9 : ∀ j, j < ol → op (cn (os j)) = true ∧ 0 < l2 (cn (os j)) := fun j hj => by
    obtain ⟨b, b1, b2, b3, b4⟩ := r.ro.os j hj
    rw [b2, cn_nI (by omega)]
    exact ⟨b3, b4⟩
  have hok : ∀ j, j < ol → FOK Mcd ((fun j => cn (os j)) j) (l2 ((fun j => cn (os j)) j)) (c2 ((fun j => cn (os j)) j)) (o2 ((fun j => cn (os j)) j)) ((fun i j => cn (c2 i j)) ((fun j => cn (os j)) j)) ((fun i j => cn (y2 i j)) ((fun j => cn (os j)) j)) ((fun i j => cn (n2 i j)) ((fun j => cn (os j)) j)) := fun j hj => by
    have ha := (hao j hj).2
    have h0 := (hop9 j hj).2
    show FOK Mcd (cn (os j)) (l2 (cn (os j))) (c2 (cn (os j))) (o2 (cn (os j))) (fun i => cn (c2 (cn (os j)) i)) (fun i => cn (y2 (cn (os j)) i)) (fun i => cn (n2 (cn (os j)) i))
    have ha : cn (os j) < 6 := ha
    generalize cn (os j) = a at ha h0 ⊢
    have hp := (r.ra a ha).pf h0
    refine ⟨(k.ap a ha).2.2.2.2.2.1.2.2.2.2.2, h0, fun i hi => ⟨(hp.c i hi).1, (hp.cd i hi).trans (hp.c i hi).1, (hp.c i hi).2⟩, fun i hi => hp.k i hi, fun i hi g1 g2 => ?_, fun i hi g1 => ?_, fun i hi g1 => (r.ra a ha).sf h0 i hi g1⟩
    · obtain ⟨t1, t2⟩ := hp.t i hi g1 g2
      exact ⟨t1.trans (hp.y i hi).1, t2.trans (hp.n i hi).1⟩
    · have g1 : cn (c2 a i) < 7 := g1
      obtain ⟨t1, t2⟩ := hp.z i hi (by omega)
      show cn (y2 a i) = 0 ∧ cn (n2 a i) = 0
      rw [t1, t2]
      decide
  cases hfa : fac (fun j => acA (c2 (cn (os j))) (o2 (cn (os j))) ((fun i j => cn (y2 i j)) (cn (os j))) ((fun i j => cn (n2 i j)) (cn (os j))) (l2 (cn (os j))) fb f13) (fun j => cn (os j)) ol 0 with
  | none =>
    refine OPS.ch2 (c_K_arrive_none k.hK k.hap k.ho k.hr (fun i hi => (k.ap i hi).2.2.2.2.2.1) (yy := fun i j => cn (y2 i j)) (nn := fun i j => cn (n2 i j)) (fun i hi j hj => ((r.ra i hi).yf j hj).1) (fun i hi j hj => ((r.ra i hi).yf j hj).2) (ao := (fun j => cn (os j))) hao hfa) (fun h1 hp => ?_) (fun h1 (k1 : KER h1 np nb mw mo mr mt mn md ts ck dw dn os ol fb 0 lost dr fl op mp fi lk pp pl pe qb qn qf ql td tl c1 o1 y1 n1 l1 c2 o2 y2 n2 l2) (e1 : MOD h1 np nb ck ts lost ol f13 op mp sa sx Mfi Mlk Mow Mtk Mdl Mrt Mwd Mgo Mgm Mln Mcd Mst Mfm Mfs Mfl Mfb Mho Mwo Mda Men Mke Mva) => c_Mo_arrive_none e1.hMo k.np32 k.nb32 e1.hCd e1.hSt e1.hFm e1.hFs e1.hFl e1.hFb k.hr.2.2 r.rf k.ho.2.2 (ao := (fun j => cn (os j))) hao2 (l2 := l2) (c2 := c2) (o2 := o2) (cc := fun i j => cn (c2 i j)) (yy := fun i j => cn (y2 i j)) (nn := fun i j => cn (n2 i j)) hok hfa) (fun h1 h2 k1 e1 hp2 => ?_)
    · obtain ⟨hr, hf⟩ := hp
      have k1 : KER h1 np nb mw mo mr mt mn md ts ck dw dn os ol fb 0 lost dr fl op mp fi lk pp pl pe qb qn qf ql td tl c1 o1 y1 n1 l1 c2 o2 y2 n2 l2 := ⟨k.hK.on (fun c h1 h2 => hf c (by omega)) (fun c h1 h2 => hf c (by omega)), k.hm.on (fun c h1 h2 => hf c (by omega)), k.hd.on (fun c h1 h2 => hf c (by omega)), k.ho.on (fun c h1 h2 => hf c (by omega)), hr, fun i hi => (k.ap i hi).on (fun c h1 h2 => hf c (by omega))⟩
      have e1 : MOD h1 np nb ck ts lost ol f13 op mp sa sx Mfi Mlk Mow Mtk Mdl Mrt Mwd Mgo Mgm Mln Mcd Mst Mfm Mfs Mfl Mfb Mho Mwo Mda Men Mke Mva := e.mv (fun c hc => hf c (by omega))
      exact ⟨⟨_, k1.hK.1⟩, ⟨_, e1.hMo⟩, k1, e1⟩
    · obtain ⟨⟨A', X', hMo⟩, hf2⟩ := hp2
      have hR : REL np nb mw mo mr mt mn md ts ck dw dn os ol fb 0 lost dr fl op mp fi lk pp pl pe qb qn qf ql td tl c1 o1 y1 n1 l1 c2 o2 y2 n2 l2 A' X' Mfi Mlk Mow Mtk Mdl Mrt Mwd Mgo Mgm Mln Mcd Mst Mfm Mfs Mfl Mfb Mho Mwo Mda Men Mke Mva (n + 1) := by
        exact ⟨(by have := r.tsn; omega), (by have := r.ckn; omega), (r.rm), (r.rd), (r.ro), (fun q hq => absurd hq (Nat.not_lt_zero q)), (r.ra)⟩
      exact ST.mk (k1.mv (hf2.lo (by decide))) ⟨hMo, (hf2 167 (by decide)).trans e1.hOp, (hf2 168 (by decide)).trans e1.hIm, (hf2 169 (by decide)).trans e1.hFi, (hf2 170 (by decide)).trans e1.hLi, (hf2 171 (by decide)).trans e1.hOw, (hf2 172 (by decide)).trans e1.hTk, (hf2 173 (by decide)).trans e1.hDl, (hf2 174 (by decide)).trans e1.hRt, (hf2 175 (by decide)).trans e1.hWd, (hf2 176 (by decide)).trans e1.hGo, (hf2 177 (by decide)).trans e1.hGm, (hf2 178 (by decide)).trans e1.hLn, (hf2 179 (by decide)).trans e1.hCd, (hf2 180 (by decide)).trans e1.hSt, (hf2 181 (by decide)).trans e1.hFm, (hf2 182 (by decide)).trans e1.hFs, (hf2 183 (by decide)).trans e1.hFl, (hf2 184 (by decide)).trans e1.hFb, (hf2 185 (by decide)).trans e1.hHo, (hf2 186 (by decide)).trans e1.hWo, (hf2 187 (by decide)).trans e1.hDa, (hf2 188 (by decide)).trans e1.hEn, (hf2 189 (by decide)).trans e1.hKe, (hf2 190 (by decide)).trans e1.hVa⟩ hR
  | some a =>
    obtain ⟨j, hj, hja⟩ := fac_some hfa
    have ha : a < 6 := by rw [← hja]; exact (hao j hj).2
    have hop : op a = true := by rw [← hja]; exact (hop9 j hj).1
    have hQ := (k.ap a ha).2.2.1
    have hq4 := hQ.2.2.2.2
    have hfs := (r.ra a ha).fs hop
    by_cases h4 : ql a = 4
    · refine OPS.ch2 (c_K_arrive_lost k.hK k.hap k.ho k.hr (fun i hi => (k.ap i hi).2.2.2.2.2.1) (yy := fun i j => cn (y2 i j)) (nn := fun i j => cn (n2 i j)) (fun i hi j hj => ((r.ra i hi).yf j hj).1) (fun i hi j hj => ((r.ra i hi).yf j hj).2) (ao := (fun j => cn (os j))) hao ha hfa hQ h4) (fun h1 hp => ?_) (fun h1 (k1 : KER h1 np nb mw mo mr mt mn md ts ck dw dn os ol fb 0 (lost + 1) dr fl op mp fi lk pp pl pe qb qn qf ql td tl c1 o1 y1 n1 l1 c2 o2 y2 n2 l2) (e1 : MOD h1 np nb ck ts lost ol f13 op mp sa sx Mfi Mlk Mow Mtk Mdl Mrt Mwd Mgo Mgm Mln Mcd Mst Mfm Mfs Mfl Mfb Mho Mwo Mda Men Mke Mva) => c_Mo_arrive_lost e1.hMo k.np32 k.nb32 e1.hCd e1.hSt e1.hFm e1.hFs e1.hFl e1.hFb k.hr.2.2 r.rf k.ho.2.2 (ao := (fun j => cn (os j))) hao2 (l2 := l2) (c2 := c2) (o2 := o2) (cc := fun i j => cn (c2 i j)) (yy := fun i j => cn (y2 i j)) (nn := fun i j => cn (n2 i j)) hok ha hfa (hfs.trans h4)) (fun h1 h2 k1 e1 hp2 => ?_)
      · obtain ⟨hK, hr, hf⟩ := hp
        have k1 : KER h1 np nb mw mo mr mt mn md ts ck dw dn os ol fb 0 (lost + 1) dr fl op mp fi lk pp pl pe qb qn qf ql td tl c1 o1 y1 n1 l1 c2 o2 y2 n2 l2 := ⟨hK, k.hm.on (fun c h1 h2 => hf c (by omega) (by omega)), k.hd.on (fun c h1 h2 => hf c (by omega) (by omega)), k.ho.on (fun c h1 h2 => hf c (by omega) (by omega)), hr, fun i hi => (k.ap i hi).on (fun c h1 h2 => hf c (by omega) (by omega))⟩
        have e1 : MOD h1 np nb ck ts lost ol f13 op mp sa sx Mfi Mlk Mow Mtk Mdl Mrt Mwd Mgo Mgm Mln Mcd Mst Mfm Mfs Mfl Mfb Mho Mwo Mda Men Mke Mva := e.mv (fun c hc => hf c (by omega) (by omega))
        exact ⟨⟨_, k1.hK.1⟩, ⟨_, e1.hMo⟩, k1, e1⟩
      · obtain ⟨⟨A', X', hMo⟩, hf2⟩ := hp2
        have hR : REL np nb mw mo mr mt mn md ts ck dw dn os ol fb 0 (lost + 1) dr fl op mp fi lk pp pl pe qb qn qf ql td tl c1 o1 y1 n1 l1 c2 o2 y2 n2 l2 A' X' Mfi Mlk Mow Mtk Mdl Mrt Mwd Mgo Mgm Mln Mcd Mst Mfm Mfs Mfl Mfb Mho Mwo Mda Men Mke Mva (n + 1) := by
          exact ⟨(by have := r.tsn; omega), (by have := r.ckn; omega), (r.rm), (r.rd), (r.ro), (fun q hq => absurd hq (Nat.not_lt_zero q)), (r.ra)⟩
        exact ST.mk (k1.mv (hf2.lo (by decide))) ⟨hMo, (hf2 167 (by decide)).trans e1.hOp, (hf2 168 (by decide)).trans e1.hIm, (hf2 169 (by decide)).trans e1.hFi, (hf2 170 (by decide)).trans e1.hLi, (hf2 171 (by decide)).trans e1.hOw, (hf2 172 (by decide)).trans e1.hTk, (hf2 173 (by decide)).trans e1.hDl, (hf2 174 (by decide)).trans e1.hRt, (hf2 175 (by decide)).trans e1.hWd, (hf2 176 (by decide)).trans e1.hGo, (hf2 177 (by decide)).trans e1.hGm, (hf2 178 (by decide)).trans e1.hLn, (hf2 179 (by decide)).trans e1.hCd, (hf2 180 (by decide)).trans e1.hSt, (hf2 181 (by decide)).trans e1.hFm, (hf2 182 (by decide)).trans e1.hFs, (hf2 183 (by decide)).trans e1.hFl, (hf2 184 (by decide)).trans e1.hFb, (hf2 185 (by decide)).trans e1.hHo, (hf2 186 (by decide)).trans e1.hWo, (hf2 187 (by decide)).trans e1.hDa, (hf2 188 (by decide)).trans e1.hEn, (hf2 189 (by decide)).trans e1.hKe, (hf2 190 (by decide)).trans e1.hVa⟩ hR
    · have h4 : ql a < 4 := by omega
      refine OPS.ch2 (c_K_arrive_ok k.hK k.hap k.ho k.hr (fun i hi => (k.ap i hi).2.2.2.2.2.1) (yy := fun i j => cn (y2 i j)) (nn := fun i j => cn (n2 i j)) (fun i hi j hj => ((r.ra i hi).yf j hj).1) (fun i hi j hj => ((r.ra i hi).yf j hj).2) (ao := (fun j => cn (os j))) hao ha hfa hQ h4) (fun h1 hp => ?_) (fun h1 (k1 : KER h1 np nb mw mo mr mt mn md ts ck dw dn os ol fb 0 lost dr fl op mp fi lk pp pl pe (va_up qb a (va_up (qb a) ((qf a + ql a) % 4) (va_cpy fb (qb a ((qf a + ql a) % 4)) 0 0 f13))) (va_up qn a (va_up (qn a) ((qf a + ql a) % 4) f13)) qf (va_up ql a (ql a + 1)) td tl c1 o1 y1 n1 l1 c2 o2 y2 n2 l2) (e1 : MOD h1 np nb ck ts lost ol f13 op mp sa sx Mfi Mlk Mow Mtk Mdl Mrt Mwd Mgo Mgm Mln Mcd Mst Mfm Mfs Mfl Mfb Mho Mwo Mda Men Mke Mva) => c_Mo_arrive_ok e1.hMo k.np32 k.nb32 e1.hCd e1.hSt e1.hFm e1.hFs e1.hFl e1.hFb k.hr.2.2 r.rf k.ho.2.2 (ao := (fun j => cn (os j))) hao2 (l2 := l2) (c2 := c2) (o2 := o2) (cc := fun i j => cn (c2 i j)) (yy := fun i j => cn (y2 i j)) (nn := fun i j => cn (n2 i j)) hok ha hfa (by rw [hfs]; exact h4)) (fun h1 h2 k1 e1 hp2 => ?_)
      · obtain ⟨hq, hr, hf⟩ := hp
        have hap1 : ∀ i, i < 6 → APP i h1 (dr i) (fl i) (op i) (mp i) (fi i) (lk i) (pp i) (pl i) (pe i) ((va_up qb a (va_up (qb a) ((qf a + ql a) % 4) (va_cpy fb (qb a ((qf a + ql a) % 4)) 0 0 f13))) i) ((va_up qn a (va_up (qn a) ((qf a + ql a) % 4) f13)) i) (qf i) ((va_up ql a (ql a + 1)) i) (td i) (tl i) (c1 i) (o1 i) (y1 i) (n1 i) (l1 i) (c2 i) (o2 i) (y2 i) (n2 i) (l2 i) := by
          intro i hi
          by_cases e9 : i = a
          · subst e9; simp only [va_eq]; obtain ⟨m1, m2, m3, m4, m5, m6, m7⟩ := k.ap i hi; exact ⟨m1.on (fun c h1 h2 => hf c (by omega) (by omega)), m2.on (fun c h1 h2 => hf c (by omega) (by omega)), hq, m4.on (fun c h1 h2 => hf c (by omega) (by omega)), m5.on (fun c h1 h2 => hf c (by omega) (by omega)), m6.on (fun c h1 h2 => hf c (by omega) (by omega)), m7⟩
          · simp only [va_ne e9]; exact (k.ap i hi).on (fun c h1 h2 => hf c (by omega) (by omega))
        have k1 : KER h1 np nb mw mo mr mt mn md ts ck dw dn os ol fb 0 lost dr fl op mp fi lk pp pl pe (va_up qb a (va_up (qb a) ((qf a + ql a) % 4) (va_cpy fb (qb a ((qf a + ql a) % 4)) 0 0 f13))) (va_up qn a (va_up (qn a) ((qf a + ql a) % 4) f13)) qf (va_up ql a (ql a + 1)) td tl c1 o1 y1 n1 l1 c2 o2 y2 n2 l2 := ⟨k.hK.on (fun c h1 h2 => hf c (by omega) (by omega)) (fun c h1 h2 => hf c (by omega) (by omega)), k.hm.on (fun c h1 h2 => hf c (by omega) (by omega)), k.hd.on (fun c h1 h2 => hf c (by omega) (by omega)), k.ho.on (fun c h1 h2 => hf c (by omega) (by omega)), hr, hap1⟩
        have e1 : MOD h1 np nb ck ts lost ol f13 op mp sa sx Mfi Mlk Mow Mtk Mdl Mrt Mwd Mgo Mgm Mln Mcd Mst Mfm Mfs Mfl Mfb Mho Mwo Mda Men Mke Mva := e.mv (fun c hc => hf c (by omega) (by omega))
        exact ⟨⟨_, k1.hK.1⟩, ⟨_, e1.hMo⟩, k1, e1⟩
      · obtain ⟨⟨A', X', hMo⟩, hFs, hFl, hFb, hf2⟩ := hp2
        have hR : REL np nb mw mo mr mt mn md ts ck dw dn os ol fb 0 lost dr fl op mp fi lk pp pl pe (va_up qb a (va_up (qb a) ((qf a + ql a) % 4) (va_cpy fb (qb a ((qf a + ql a) % 4)) 0 0 f13))) (va_up qn a (va_up (qn a) ((qf a + ql a) % 4) f13)) qf (va_up ql a (ql a + 1)) td tl c1 o1 y1 n1 l1 c2 o2 y2 n2 l2 A' X' Mfi Mlk Mow Mtk Mdl Mrt Mwd Mgo Mgm Mln Mcd Mst Mfm (va_up Mfs a (Mfs a + 1)) (va_up Mfl (a * 4 + Mfs a) f13) (fil Mfb (fun j => Mfm (j - (a * 4 + Mfs a) * 16)) ((a * 4 + Mfs a) * 16) f13) Mho Mwo Mda Men Mke Mva (n + 1) := by
          have hqf := (k.ap a ha).2.2.1.2.2.2.1
          refine ⟨(by have := r.tsn; omega), (by have := r.ckn; omega), (r.rm), (r.rd), (r.ro), (fun q hq => absurd hq (Nat.not_lt_zero q)), (fun i hi => ?_)⟩
          by_cases e9 : i = a
          · subst e9
            have q := r.ra i hi
            have hqn : ∀ j, j < 4 → qn i j ≤ 16 := fun j hj => ((k.ap i hi).2.2.1.2.2.1 j hj).2.2
            simp only [va_eq]
            refine ⟨q.fk, q.gm, q.go, (fun h9 => by rw [hop] at h9; cases h9), (fun h9 => by rw [va_eq, q.fs h9]), (fun h9 j hj => ?_), (fun h9 j hj t ht => ?_), q.t0, q.en, q.td, q.ti, q.ke, q.ln, q.l0, q.pr, q.yf, q.pf, q.sf⟩
            · rw [q.fs h9]
              by_cases e8 : j = ql i
              · rw [e8, va_eq, va_eq]
              · rw [va_ne (by omega), va_ne (by omega)]; exact q.fl h9 j (by omega)
            · rw [q.fs h9]
              by_cases e8 : j = ql i
              · rw [e8] at ht ⊢
                rw [va_eq] at ht
                rw [va_eq, fil_i (by omega)]
                show Mfm ((i * 4 + ql i) * 16 + t - (i * 4 + ql i) * 16) = va_cpy fb _ 0 0 f13 t
                rw [Nat.add_sub_cancel_left]
                unfold va_cpy
                rw [if_pos (by omega), Nat.zero_add, Nat.sub_zero]
                exact r.rf t ht
              · have e7 : (qf i + j) % 4 ≠ (qf i + ql i) % 4 := by omega
                rw [va_ne e7] at ht ⊢
                have h16 := hqn ((qf i + j) % 4) (Nat.mod_lt _ (by omega))
                have hb16 := k.hr.2.2
                rw [fil_o (by omega)]
                exact q.fb h9 j (by omega) t ht
          · have hb16 := k.hr.2.2
            simp only [va_ne e9]
            exact (r.ra i hi).cg (k.ap i hi) rfl rfl (fun _ _ => rfl) rfl rfl (fun _ _ => rfl) (fun _ _ => rfl) (va_ne e9) (fun j hj => va_ne (by omega)) (fun j t hj ht => fil_o (by omega)) (fun _ _ => rfl) rfl (fun _ _ => rfl) (fun _ _ => rfl) (fun _ _ _ _ h9 => ⟨h9, fun _ _ => rfl⟩)
        exact ST.mk (k1.mv (hf2.lo (by decide))) ⟨hMo, (hf2 167 (by decide)).trans e1.hOp, (hf2 168 (by decide)).trans e1.hIm, (hf2 169 (by decide)).trans e1.hFi, (hf2 170 (by decide)).trans e1.hLi, (hf2 171 (by decide)).trans e1.hOw, (hf2 172 (by decide)).trans e1.hTk, (hf2 173 (by decide)).trans e1.hDl, (hf2 174 (by decide)).trans e1.hRt, (hf2 175 (by decide)).trans e1.hWd, (hf2 176 (by decide)).trans e1.hGo, (hf2 177 (by decide)).trans e1.hGm, (hf2 178 (by decide)).trans e1.hLn, (hf2 179 (by decide)).trans e1.hCd, (hf2 180 (by decide)).trans e1.hSt, (hf2 181 (by decide)).trans e1.hFm, hFs, hFl, hFb, (hf2 185 (by decide)).trans e1.hHo, (hf2 186 (by decide)).trans e1.hWo, (hf2 187 (by decide)).trans e1.hDa, (hf2 188 (by decide)).trans e1.hEn, (hf2 189 (by decide)).trans e1.hKe, (hf2 190 (by decide)).trans e1.hVa⟩ hR
set_option maxHeartbeats 4000000 in
set_option maxRecDepth 20000 in
theorem op_holder {l : Launch} {L : Nat} {xs : Nat → Int32} {h : pz_H} {z n : Nat} (x y : Int32) (hn : n < 4000) (s : ST h n) : OPS l L xs M_K_holder M_Mo_holder 1 1 [.int x, .int y] h z n := by
  obtain ⟨np, nb, mw, mo, mr, mt, mn, md, ts, ck, dw, dn, os, ol, fb, f13, lost, dr, fl, op, mp, fi, lk, pp, pl, pe, qb, qn, qf, ql, td, tl, c1, o1, y1, n1, l1, c2, o2, y2, n2, l2, sa, sx, Mfi, Mlk, Mow, Mtk, Mdl, Mrt, Mwd, Mgo, Mgm, Mln, Mcd, Mst, Mfm, Mfs, Mfl, Mfb, Mho, Mwo, Mda, Men, Mke, Mva, k, e, r⟩ := s
  by_cases h0 : x = 0
  · have hM := c_Mo_holder_0 e.hMo k.np32 k.nb32 e.hOw e.hGo e.hGm e.hHo (l := l) (L := L) (xs := xs) (z := z) x y h0
    have e9 : (if inn y np = true then Mow y.toNatClampNeg else -1) = (if inn y np = true then mo y.toNatClampNeg else -1) := by
      split
      · next q =>
        obtain ⟨u, hu, rfl⟩ := inn_N (by have := k.np32; omega) q
        rw [nI_clamp (by have := k.np32; omega)]
        exact r.rm.ow u hu
      · rfl
    rw [e9] at hM
    exact OPS.nn k e r (c_K_holder_0 k.hK k.hap k.hm x y h0) hM
  · by_cases h1 : x = nI 1
    · have hM := c_Mo_holder_1 e.hMo k.np32 k.nb32 e.hOw e.hGo e.hGm e.hHo (l := l) (L := L) (xs := xs) (z := z) x y h1
      have e9 : (if inn y nb = true then Mho y.toNatClampNeg else -1) = (if inn y nb = true then dn y.toNatClampNeg else -1) := by
        split
        · next q =>
          obtain ⟨u, hu, rfl⟩ := inn_N (by have := k.nb32; omega) q
          rw [nI_clamp (by have := k.nb32; omega)]
          exact r.rd.ho u hu
        · rfl
      rw [e9] at hM
      exact OPS.nn k e r (c_K_holder_1 k.hK k.hap k.hd x y h1) hM
    · cases h2 : rng x (nI 2) (nI 7) with
      | false => exact OPS.nn k e r (c_K_holder_no k.hK k.hap x y h0 h1 h2) (c_Mo_holder_no e.hMo k.np32 k.nb32 e.hOw e.hGo e.hGm e.hHo x y h0 h1 h2)
      | true =>
        obtain ⟨b, g1, g2, rfl⟩ := rng_N (by decide) (by decide) h2
        obtain ⟨a, rfl⟩ : ∃ a, b = a + 2 := ⟨b - 2, by omega⟩
        have ha : a < 6 := by omega
        have hG := (k.ap a ha).2.1
        have hgm := (r.ra a ha).gm
        have hM := c_Mo_holder_app e.hMo k.np32 k.nb32 e.hOw e.hGo e.hGm e.hHo (l := l) (L := L) (xs := xs) (z := z) ha (by rw [hgm]; exact hG.2.2.1) y
        have e9 : (if inn y (Mgm a) = true then Mgo (a * 8 + y.toNatClampNeg) else -1) = (if inn y (pl a) = true then pp a ((pe a + 8 - 1 - y.toNatClampNeg) % 8) else -1) := by
          rw [hgm]
          split
          · next q =>
            have := hG.2.2.1
            obtain ⟨u, hu, rfl⟩ := inn_N (by omega) q
            rw [nI_clamp (by omega)]
            exact (r.ra a ha).go u hu
          · rfl
        rw [e9] at hM
        exact OPS.nn k e r (c_K_holder_app k.hK k.hap ha hG y) hM
theorem cnt_0 {P : Nat → Bool} : ∀ k i, (∀ j, i ≤ j → j < i + k → P j = false) → cnt P k i = 0
  | 0, _, _ => rfl
  | k + 1, i, h => by
    unfold cnt
    rw [h i (Nat.le_refl _) (by omega), if_neg (by decide), cnt_0 k (i + 1) (fun j h1 h2 => h j (by omega) (by omega))]
theorem i32_toInt {x : Int32} (h : inn x 9 = true) : ∃ c, c < 9 ∧ x = nI c := inn_N (by omega) h
set_option maxHeartbeats 4000000 in
set_option maxRecDepth 20000 in
theorem op_count {l : Launch} {L : Nat} {xs : Nat → Int32} {h : pz_H} {z n : Nat} (x y : Int32) (hn : n < 4000) (s : ST h n) : OPS l L xs M_K_count M_Mo_count 3 1 [.int x, .int y] h z n := by
  obtain ⟨np, nb, mw, mo, mr, mt, mn, md, ts, ck, dw, dn, os, ol, fb, f13, lost, dr, fl, op, mp, fi, lk, pp, pl, pe, qb, qn, qf, ql, td, tl, c1, o1, y1, n1, l1, c2, o2, y2, n2, l2, sa, sx, Mfi, Mlk, Mow, Mtk, Mdl, Mrt, Mwd, Mgo, Mgm, Mln, Mcd, Mst, Mfm, Mfs, Mfl, Mfb, Mho, Mwo, Mda, Men, Mke, Mva, k, e, r⟩ := s
  cases h9 : inn x 9 with
  | false =>
    have hx : x.toInt < 0 ∨ 8 < x.toInt := by
      have g1 := of_decide_eq_false h9
      rw [Int32.lt_iff_toInt_lt, Int32.le_iff_toInt_le] at g1
      have g2 : (nI 9).toInt = 9 := by decide
      have g3 : (0 : Int32).toInt = 0 := by decide
      omega
    have hM := c_Mo_count_x e.hMo k.np32 k.nb32 e.hOp e.hIm e.hOw e.hDl e.hSt e.hFs e.hHo e.hEn (l := l) (L := L) (xs := xs) (z := z) x y h9
    cases h6 : rng y (nI 0) (nI 5) with
    | false => exact OPS.nn k e r (c_K_count_no k.hK k.hap x y (by omega) h6) hM
    | true =>
      obtain ⟨a, -, g2, rfl⟩ := rng_N (by decide) (by decide) h6
      exact OPS.nn k e r (c_K_count_x k.hK k.hap (show a < 6 by omega) x hx) hM
  | true =>
    obtain ⟨c, hc, rfl⟩ := inn_N (by omega) h9
    have hct : (nI c).toInt = (c : Int) := nI_toInt (by omega)
    by_cases c3 : c < 3
    · rcases (show c = 0 ∨ c = 1 ∨ c = 2 by omega) with rfl | rfl | rfl
      · have hM := c_Mo_count_0 e.hMo k.np32 k.nb32 e.hOp e.hIm e.hOw e.hDl e.hSt e.hFs e.hHo e.hEn (l := l) (L := L) (xs := xs) (z := z) y
        rw [cnt_congr (P' := fun j => decide (mo j = -1)) np 0 (fun j _ hj => by show (decide (Mow j = -1) && (!false || _)) = _; rw [r.rm.ow j (by omega)]; simp)] at hM
        exact OPS.nn k e r (c_K_count_0 k.hK k.hap k.hm (nI 0) y (by decide)) hM
      · have hM := c_Mo_count_1 e.hMo k.np32 k.nb32 e.hOp e.hIm e.hOw e.hDl e.hSt e.hFs e.hHo e.hEn (l := l) (L := L) (xs := xs) (z := z) y
        rw [cnt_congr (P' := fun j => decide (dn j = -1)) nb 0 (fun j _ hj => by show decide (Mho j = -1) = _; rw [r.rd.ho j (by omega)])] at hM
        exact OPS.nn k e r (c_K_count_1 k.hK k.hap k.hd (nI 1) y (by decide)) hM
      · exact OPS.nn k e r (c_K_count_2 k.hK k.hap (nI 2) y (by decide)) (c_Mo_count_2 e.hMo k.np32 k.nb32 e.hOp e.hIm e.hOw e.hDl e.hSt e.hFs e.hHo e.hEn y)
    · cases h6 : rng y (nI 0) (nI 5) with
      | false => exact OPS.nn k e r (c_K_count_no k.hK k.hap (nI c) y (by omega) h6) (c_Mo_count_no e.hMo k.np32 k.nb32 e.hOp e.hIm e.hOw e.hDl e.hSt e.hFs e.hHo e.hEn (by omega) (by omega) y h6)
      | true =>
        obtain ⟨a, -, g2, rfl⟩ := rng_N (by decide) (by decide) h6
        have ha : a < 6 := by omega
        cases hop : op a with
        | false =>
          have hM : ∀ c, 3 ≤ c → c ≤ 8 → pz_K l L xs M_Mo_count 1 0 0 [.ref 166, .int (nI c), .int (nI a)] h z (fun v h' z' => v = some (.int (nI 0)) ∧ h = h' ∧ z = z') := fun c g1 g2 => c_Mo_count_cl e.hMo k.np32 k.nb32 e.hOp e.hIm e.hOw e.hDl e.hSt e.hFs e.hHo e.hEn g1 g2 ha hop
          have q := r.ra a ha
          have hmo : ∀ j, j < np → ¬ mo j = nI a := fun j hj e9 => by
            obtain ⟨b, b1, b2, b3⟩ := (r.rm.own j hj).resolve_left (by rw [e9]; exact nI_nem1 (by omega))
            rw [nI_inj (by omega) (by omega) (b2.symm.trans e9), hop] at b3
            cases b3
          have hdn : ∀ j, j < nb → ¬ dn j = nI a := fun j hj e9 => by
            obtain ⟨b, b1, b2, b3⟩ := (r.rd.own j hj).resolve_left (by rw [e9]; exact nI_nem1 (by omega))
            rw [nI_inj (by omega) (by omega) (b2.symm.trans e9), hop] at b3
            cases b3
          rcases (show c = 3 ∨ c = 4 ∨ c = 5 ∨ c = 6 ∨ c = 7 ∨ c = 8 by omega) with rfl | rfl | rfl | rfl | rfl | rfl
          · have hC := c_K_count_3 (l := l) (L := L) (xs := xs) (z := z) k.hK k.hap k.hm ha (nI 3) (by decide)
            rw [cnt_0 np 0 (fun j _ hj => decide_eq_false (hmo j (by omega)))] at hC
            exact OPS.nn k e r hC (hM 3 (by omega) (by omega))
          · have hC := c_K_count_4 (l := l) (L := L) (xs := xs) (z := z) k.hK k.hap k.hm ha (nI 4) (by decide)
            rw [cnt_0 np 0 (fun j _ hj => by rw [decide_eq_false (hmo j (by omega))]; rfl)] at hC
            exact OPS.nn k e r hC (hM 4 (by omega) (by omega))
          · have hC := c_K_count_5 (l := l) (L := L) (xs := xs) (z := z) k.hK k.hap ha (k.ap a ha).2.2.1 (nI 5) (by decide)
            rw [q.q0 hop] at hC
            exact OPS.nn k e r hC (hM 5 (by omega) (by omega))
          · have hC := c_K_count_6 (l := l) (L := L) (xs := xs) (z := z) k.hK k.hap k.hd ha (nI 6) (by decide)
            rw [cnt_0 nb 0 (fun j _ hj => decide_eq_false (hdn j (by omega)))] at hC
            exact OPS.nn k e r hC (hM 6 (by omega) (by omega))
          · have hC := c_K_count_7 (l := l) (L := L) (xs := xs) (z := z) k.hK k.hap k.ho ha (nI 7) (by decide)
            rw [orm_ge (fun q9 => by
              have g1 := of_decide_eq_true (ff_is (fun j => decide (os j = nI a)) ol 0 (by omega))
              obtain ⟨b, b1, b2, b3, -⟩ := r.ro.os _ q9
              rw [nI_inj (by omega) (by omega) (b2.symm.trans g1), hop] at b3
              cases b3), show nI 1 + -1 = nI 0 from by decide] at hC
            exact OPS.nn k e r hC (hM 7 (by omega) (by omega))
          · have hC := c_K_count_8 (l := l) (L := L) (xs := xs) (z := z) k.hK k.hap ha (k.ap a ha).2.2.2.1 (nI 8) (by decide)
            rw [q.t0 (fun q9 => by rw [hop] at q9; cases q9.1)] at hC
            exact OPS.nn k e r hC (hM 8 (by omega) (by omega))
        | true =>
          have q := r.ra a ha
          rcases (show c = 3 ∨ c = 4 ∨ c = 5 ∨ c = 6 ∨ c = 7 ∨ c = 8 by omega) with rfl | rfl | rfl | rfl | rfl | rfl
          · have hM := c_Mo_count_3 e.hMo k.np32 k.nb32 e.hOp e.hIm e.hOw e.hDl e.hSt e.hFs e.hHo e.hEn (l := l) (L := L) (xs := xs) (z := z) ha hop
            rw [cnt_congr (P' := fun j => decide (mo j = nI a)) np 0 (fun j _ hj => by show (decide (Mow j = nI a) && (!false || _)) = _; rw [r.rm.ow j (by omega)]; simp)] at hM
            exact OPS.nn k e r (c_K_count_3 k.hK k.hap k.hm ha (nI 3) (by decide)) hM
          · have hM := c_Mo_count_4 e.hMo k.np32 k.nb32 e.hOp e.hIm e.hOw e.hDl e.hSt e.hFs e.hHo e.hEn (l := l) (L := L) (xs := xs) (z := z) ha hop
            rw [cnt_congr (P' := fun j => decide (mo j = nI a) && mn j) np 0 (fun j _ hj => by show (decide (Mow j = nI a) && (!true || decide (0 < Mdl j))) = _; rw [r.rm.ow j (by omega), ← r.rm.nm (by omega) (by have := r.ckn; omega)]; rfl)] at hM
            exact OPS.nn k e r (c_K_count_4 k.hK k.hap k.hm ha (nI 4) (by decide)) hM
          · have hM := c_Mo_count_5 e.hMo k.np32 k.nb32 e.hOp e.hIm e.hOw e.hDl e.hSt e.hFs e.hHo e.hEn (l := l) (L := L) (xs := xs) (z := z) ha hop
            rw [q.fs hop] at hM
            exact OPS.nn k e r (c_K_count_5 k.hK k.hap ha (k.ap a ha).2.2.1 (nI 5) (by decide)) hM
          · have hM := c_Mo_count_6 e.hMo k.np32 k.nb32 e.hOp e.hIm e.hOw e.hDl e.hSt e.hFs e.hHo e.hEn (l := l) (L := L) (xs := xs) (z := z) ha hop
            rw [cnt_congr (P' := fun j => decide (dn j = nI a)) nb 0 (fun j _ hj => by show decide (Mho j = nI a) = _; rw [r.rd.ho j (by omega)])] at hM
            exact OPS.nn k e r (c_K_count_6 k.hK k.hap k.hd ha (nI 6) (by decide)) hM
          · have hM := c_Mo_count_7 e.hMo k.np32 k.nb32 e.hOp e.hIm e.hOw e.hDl e.hSt e.hFs e.hHo e.hEn (l := l) (L := L) (xs := xs) (z := z) ha hop k.ho.2.2
            rw [Nat.sub_zero, ff_congr (P' := fun j => decide (os j = nI a)) ol 0 (fun j _ hj => by show decide (Mst j = nI a) = _; rw [r.ro.st j (by omega)])] at hM
            exact OPS.nn k e r (c_K_count_7 k.hK k.hap k.ho ha (nI 7) (by decide)) hM
          · have hM := c_Mo_count_8 e.hMo k.np32 k.nb32 e.hOp e.hIm e.hOw e.hDl e.hSt e.hFs e.hHo e.hEn (l := l) (L := L) (xs := xs) (z := z) ha hop
            have e9 : (if mp a = true then Men a else 0) = tl a := by
              split
              · next q9 => exact q.en hop q9
              · next q9 => exact (q.t0 (fun q8 => q9 q8.2)).symm
            rw [e9] at hM
            exact OPS.nn k e r (c_K_count_8 k.hK k.hap ha (k.ap a ha).2.2.2.1 (nI 8) (by decide)) hM
