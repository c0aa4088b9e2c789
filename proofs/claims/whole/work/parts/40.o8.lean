/-! calls on both: put -/
/-- blocks, where those of raw applications stay as they were -/
theorem RD.gen {nb : Nat} {dw dn : Nat → Int32} {op mp : Nat → Bool} {fi lk : Nat → Nat} {Mho Mwo : Nat → Int32} (r : RD nb dw dn op mp fi lk Mho Mwo) {dw' dn' Mho' Mwo' : Nat → Int32} {op' : Nat → Bool} (ho' : ∀ b, b < nb → Mho' b = dn' b) (own' : ∀ b, b < nb → dn' b = -1 ∨ ∃ a, a < 6 ∧ dn' b = nI a ∧ op' a = true) (hE : ∀ b a', b < nb → a' < 6 → mp a' = false → dn' b = nI a' → dn b = nI a' ∧ ∀ w, w < 8 → dw' (b * 8 + w) = dw (b * 8 + w) ∧ Mwo' (b * 8 + w) = Mwo (b * 8 + w)) (hF : ∀ b g a', b < nb → g < nb → a' < 6 → mp a' = false → dn' b = nI a' → dn g = nI a' → dn' g = nI a') : RD nb dw' dn' op' mp fi lk Mho' Mwo' := by
  have key : ∀ a' b' w', LNK dn' mp fi lk nb a' b' w' → LNK dn mp fi lk nb a' b' w' ∧ dw' (b' * 8 + w') = dw (b' * 8 + w') := fun a' b' w' ⟨h1, h2, h3, h4, h5, h6⟩ => by
    have h8 := r.fl a' h1
    obtain ⟨g1, g2⟩ := hE b' a' h2 h1 h4 h3
    exact ⟨⟨h1, h2, g1, h4, h5, h6⟩, (g2 w' (by omega)).1⟩
  refine ⟨ho', own', fun a' b' h1 h2 h3 h4 w hw => ?_, r.fl, fun a' b' w' h => ?_, fun a' b1 w1 b2 w2 g1 g2 g3 g4 => ?_⟩
  · obtain ⟨g1, g2⟩ := hE b' a' h2 h1 h4 h3
    rw [(g2 w hw).1, (g2 w hw).2]
    exact r.wo a' b' h1 h2 g1 h4 w hw
  · obtain ⟨L9, e⟩ := key a' b' w' h
    rw [e]
    rcases r.lnk a' b' w' L9 with e2 | ⟨g, h1, h2, h3⟩
    · exact Or.inl e2
    · exact Or.inr ⟨g, h1, h2, hF b' g a' h.2.1 h1 h.1 h.2.2.2.1 h.2.2.1 h3⟩
  · obtain ⟨L1, e1⟩ := key a' b1 w1 g1
    obtain ⟨L2, e2⟩ := key a' b2 w2 g2
    rw [e1] at g3 g4
    rw [e2] at g4
    exact r.ij a' b1 w1 b2 w2 L1 L2 g3 g4
theorem eka_ne {tb : Nat → Nat} {q q' : Nat} (hi : q / 4 ≠ q' / 4 → tb (q / 4) ≠ tb (q' / 4)) (h : q ≠ q') : eka tb q ≠ eka tb q' ∧ eka tb q ≠ eka tb q' + 1 ∧ eka tb q + 1 ≠ eka tb q' ∧ eka tb q + 1 ≠ eka tb q' + 1 := by
  unfold eka
  by_cases e : q / 4 = q' / 4
  · rw [e]
    omega
  · have := hi e
    omega
theorem eka_b {tb : Nat → Nat} {q : Nat} : tb (q / 4) * 8 ≤ eka tb q ∧ eka tb q + 1 < tb (q / 4) * 8 + 8 := by
  unfold eka
  omega
set_option maxHeartbeats 4000000 in
set_option maxRecDepth 20000 in
theorem op_put {l : Launch} {L : Nat} {xs : Nat → Int32} {h : pz_H} {z n : Nat} (x ky u : Int32) (pr : Bool) (hn : n < 4000) (s : ST h n) : OPS l L xs M_K_put M_Mo_put 4 2 [.int x, .int ky, .int u, .int (pb pr)] h z n := by
  obtain ⟨np, nb, mw, mo, mr, mt, mn, md, ts, ck, dw, dn, os, ol, fb, f13, lost, dr, fl, op, mp, fi, lk, pp, pl, pe, qb, qn, qf, ql, td, tl, c1, o1, y1, n1, l1, c2, o2, y2, n2, l2, sa, sx, Mfi, Mlk, Mow, Mtk, Mdl, Mrt, Mwd, Mgo, Mgm, Mln, Mcd, Mst, Mfm, Mfs, Mfl, Mfb, Mho, Mwo, Mda, Men, Mke, Mva, k, e, r⟩ := s
  have hnb := k.nb32
  cases ho : (opn op x && mp x.toNatClampNeg) with
  | false => exact OPS.nn k e r (c_K_put_no k.hK k.hap x ky u pr ho) (c_Mo_put_no e.hMo k.np32 k.nb32 e.hOp e.hIm e.hFi e.hLi e.hHo e.hWo e.hDa e.hEn e.hKe e.hVa x ky u pr ho)
  | true =>
    rw [Bool.and_eq_true] at ho
    obtain ⟨ho, hmp⟩ := ho
    obtain ⟨a, ha, hop, rfl⟩ := opn_N ho
    rw [nI_clamp (by omega)] at hmp
    have q9 := r.ra a ha
    have hen := q9.en hop hmp
    have hT := (k.ap a ha).2.2.2.1
    have htl := hT.2.2
    have hff : ff (fun j => decide (Mke (a * 28 + j) = ky)) (Men a) 0 = ff (fun q => decide (dw (eka (fun j => cn (td a j)) q) = ky)) (tl a) 0 := by
      rw [hen]
      exact ff_congr (tl a) 0 (fun j _ hj => by show decide (Mke (a * 28 + j) = ky) = decide (dw (eka (fun j => cn (td a j)) j) = ky); rw [(q9.ke hop hmp j (by omega)).1])
    have hfb : ff (fun j => !decide (0 ≤ Mho j)) nb 0 = ff (fun j => decide (dn j = -1)) nb 0 := ff_congr nb 0 (fun j _ hj => by show (!decide (0 ≤ Mho j)) = decide (dn j = -1); rw [r.rd.ho j (by omega)]; exact fre (P := fun a => op a = true) (r.rd.own j (by omega)))
    have hmb : ∀ b a' B, a' < 6 → mp a' = false → dn b = nI a' → dn B = nI a → b ≠ B := fun b a' B h1 h2 h3 h4 h5 => nI_ne h1 ha (fun e9 => by rw [e9, hmp] at h2; cases h2) (h3.symm.trans (by rw [h5]; exact h4))
    have hmo : ∀ b i B, i < 6 → i ≠ a → dn b = nI i → dn B = nI a → b ≠ B := fun b i B h1 h2 h3 h4 h5 => nI_ne h1 ha h2 (h3.symm.trans (by rw [h5]; exact h4))
    have hinj : ∀ q q', q / 4 * 4 < tl a → q' / 4 * 4 < tl a → q / 4 ≠ q' / 4 → (fun j => cn (td a j)) (q / 4) ≠ (fun j => cn (td a j)) (q' / 4) := fun q q' h1 h2 h3 h4 => h3 (q9.ti hop hmp (q / 4) (q' / 4) h1 h2 (by rw [(q9.td hop hmp (q / 4) h1).1, (q9.td hop hmp (q' / 4) h2).1]; exact congrArg nI h4))
    by_cases hq : ff (fun q => decide (dw (eka (fun j => cn (td a j)) q) = ky)) (tl a) 0 < tl a
    · obtain ⟨q, hqe⟩ : ∃ q, q = ff (fun q => decide (dw (eka (fun j => cn (td a j)) q) = ky)) (tl a) 0 := ⟨_, rfl⟩
      have hky : dw (eka (fun j => cn (td a j)) q) = ky := of_decide_eq_true (by rw [hqe]; exact ff_is (fun q => decide (dw (eka (fun j => cn (td a j)) q) = ky)) (tl a) 0 (by omega))
      rw [← hqe] at hq
      cases pr with
      | true =>
        refine OPS.ch2 (c_K_put_set k.hK k.hap k.hd ha ky u ho hmp hT (tb := (fun j => cn (td a j))) (fun j hj => ⟨(q9.td hop hmp j hj).1, (q9.td hop hmp j hj).2.1⟩) hqe hq) (fun h1 hp => ?_) (fun h1 (k1 : KER h1 np nb mw mo mr mt mn md ts ck (upd (upd dw (eka (fun j => cn (td a j)) q) ky) (eka (fun j => cn (td a j)) q + 1) u) dn os ol fb f13 lost dr fl op mp fi lk pp pl pe qb qn qf ql td tl c1 o1 y1 n1 l1 c2 o2 y2 n2 l2) (e1 : MOD h1 np nb ck ts lost ol f13 op mp sa sx Mfi Mlk Mow Mtk Mdl Mrt Mwd Mgo Mgm Mln Mcd Mst Mfm Mfs Mfl Mfb Mho Mwo Mda Men Mke Mva) => c_Mo_put_set e1.hMo k.np32 k.nb32 e1.hOp e1.hIm e1.hFi e1.hLi e1.hHo e1.hWo e1.hDa e1.hEn e1.hKe e1.hVa ha hop ky u hmp (by omega) (hqe.trans hff.symm) (by omega)) (fun h1 h2 k1 e1 hp2 => ?_)
        · obtain ⟨hd, hf⟩ := hp
          have k1 : KER h1 np nb mw mo mr mt mn md ts ck (upd (upd dw (eka (fun j => cn (td a j)) q) ky) (eka (fun j => cn (td a j)) q + 1) u) dn os ol fb f13 lost dr fl op mp fi lk pp pl pe qb qn qf ql td tl c1 o1 y1 n1 l1 c2 o2 y2 n2 l2 := ⟨k.hK.on (fun c h1 h2 => hf c (by omega)) (fun c h1 h2 => hf c (by omega)), k.hm.on (fun c h1 h2 => hf c (by omega)), hd, k.ho.on (fun c h1 h2 => hf c (by omega)), k.hr.on (fun c h1 h2 => hf c (by omega)), fun i hi => (k.ap i hi).on (fun c h1 h2 => hf c (by omega))⟩
          have e1 : MOD h1 np nb ck ts lost ol f13 op mp sa sx Mfi Mlk Mow Mtk Mdl Mrt Mwd Mgo Mgm Mln Mcd Mst Mfm Mfs Mfl Mfb Mho Mwo Mda Men Mke Mva := e.mv (fun c hc => hf c (by omega))
          exact ⟨⟨_, k1.hK.1⟩, ⟨_, e1.hMo⟩, k1, e1⟩
        · obtain ⟨hVa, hf2⟩ := hp2
          have hR : REL np nb mw mo mr mt mn md ts ck (upd (upd dw (eka (fun j => cn (td a j)) q) ky) (eka (fun j => cn (td a j)) q + 1) u) dn os ol fb f13 lost dr fl op mp fi lk pp pl pe qb qn qf ql td tl c1 o1 y1 n1 l1 c2 o2 y2 n2 l2 sa sx Mfi Mlk Mow Mtk Mdl Mrt Mwd Mgo Mgm Mln Mcd Mst Mfm Mfs Mfl Mfb Mho Mwo Mda Men Mke (upd Mva (a * 28 + q) u) (n + 1) := by
            have hB := eka_b (tb := (fun j => cn (td a j))) (q := q)
            obtain ⟨-, hb1, hb2, -⟩ := q9.td hop hmp (q / 4) (by omega)
            have hB : cn (td a (q / 4)) * 8 ≤ eka (fun j => cn (td a j)) q ∧ eka (fun j => cn (td a j)) q + 1 < cn (td a (q / 4)) * 8 + 8 := hB
            refine ⟨(by have := r.tsn; omega), (by have := r.ckn; omega), (r.rm), (r.rd.gen r.rd.ho r.rd.own (fun b a' h1 h2 h3 h4 => ⟨h4, fun w hw => ⟨(by have n9 := hmb b a' _ h2 h3 h4 hb2; rw [upd_ne (by omega), upd_ne (by omega)]), rfl⟩⟩) (fun _ _ _ _ _ _ _ _ h9 => h9)), (r.ro), (r.rf), (fun i hi => ?_)⟩
            by_cases e9 : i = a
            · subst e9
              have q8 := r.ra i hi
              have hqx := q9
              refine ⟨q9.fk, q9.gm, q9.go, q9.q0, q9.fs, q9.fl, q9.fb, q9.t0, q9.en, q9.td, q9.ti, (fun h1 h2 j hj => ?_), q9.ln, q9.l0, q9.pr, q9.yf, q9.pf, q9.sf⟩
              by_cases e8 : j = q
              · subst e8; exact ⟨by rw [upd_ne (by omega), upd_eq, ← (q9.ke h1 h2 j hj).1]; exact hky.symm, by rw [upd_eq, upd_eq]⟩
              · obtain ⟨n1, n2, n3, n4⟩ := eka_ne (tb := (fun j => cn (td i j))) (hinj j q (by omega) (by omega)) e8
                exact ⟨by rw [upd_ne n2, upd_ne n1]; exact (q9.ke h1 h2 j hj).1, by rw [upd_ne n4, upd_ne n3, upd_ne (by omega)]; exact (q9.ke h1 h2 j hj).2⟩
            · have hql := hT.2.2
              exact (r.ra i hi).cg (k.ap i hi) rfl rfl (fun _ _ => rfl) rfl rfl (fun _ _ => rfl) (fun _ _ => rfl) rfl (fun _ _ => rfl) (fun _ _ _ _ => rfl) (fun _ _ => rfl) rfl (fun _ _ => rfl) (fun j hj => upd_ne (by omega)) (fun h1 h2 b0 hb0 hd0 => ⟨hd0, fun w hw => by have n9 := hmo b0 i _ hi e9 hd0 hb2; rw [upd_ne (by omega), upd_ne (by omega)]⟩)
          exact ST.mk (k1.mv (hf2.lo (by decide))) ⟨MOB.mv e1.hMo (hf2 166 (by decide)), (hf2 167 (by decide)).trans e1.hOp, (hf2 168 (by decide)).trans e1.hIm, (hf2 169 (by decide)).trans e1.hFi, (hf2 170 (by decide)).trans e1.hLi, (hf2 171 (by decide)).trans e1.hOw, (hf2 172 (by decide)).trans e1.hTk, (hf2 173 (by decide)).trans e1.hDl, (hf2 174 (by decide)).trans e1.hRt, (hf2 175 (by decide)).trans e1.hWd, (hf2 176 (by decide)).trans e1.hGo, (hf2 177 (by decide)).trans e1.hGm, (hf2 178 (by decide)).trans e1.hLn, (hf2 179 (by decide)).trans e1.hCd, (hf2 180 (by decide)).trans e1.hSt, (hf2 181 (by decide)).trans e1.hFm, (hf2 182 (by decide)).trans e1.hFs, (hf2 183 (by decide)).trans e1.hFl, (hf2 184 (by decide)).trans e1.hFb, (hf2 185 (by decide)).trans e1.hHo, (hf2 186 (by decide)).trans e1.hWo, (hf2 187 (by decide)).trans e1.hDa, (hf2 188 (by decide)).trans e1.hEn, (hf2 189 (by decide)).trans e1.hKe, hVa⟩ hR
      | false =>
        by_cases h4 : (tl a - 1) % 4 = 0
        · have hda : Mda (a * 7 + Men a / 4) = nI (cn (td a ((tl a - 1) / 4))) := by
            rw [hen, show tl a / 4 = (tl a - 1) / 4 by omega]
            obtain ⟨t1, -, -, t4⟩ := q9.td hop hmp ((tl a - 1) / 4) (by omega)
            exact t4.trans t1
          have hg32 := (q9.td hop hmp ((tl a - 1) / 4) (by omega)).2.1
          refine OPS.ch2 (c_K_put_rem_free k.hK k.hap k.hd ha ky u ho hmp hT (tb := (fun j => cn (td a j))) (fun j hj => ⟨(q9.td hop hmp j hj).1, (q9.td hop hmp j hj).2.1⟩) hqe hq h4) (fun h1 hp => ?_) (fun h1 (k1 : KER h1 np nb mw mo mr mt mn md ts ck (upd (upd dw (eka (fun j => cn (td a j)) q) (dw (eka (fun j => cn (td a j)) (tl a - 1)))) (eka (fun j => cn (td a j)) q + 1) (dw (eka (fun j => cn (td a j)) (tl a - 1) + 1))) (upd dn (cn (td a ((tl a - 1) / 4))) (-1)) os ol fb f13 lost dr fl op mp fi lk pp pl pe qb qn qf ql td (va_up tl a (tl a - 1)) c1 o1 y1 n1 l1 c2 o2 y2 n2 l2) (e1 : MOD h1 np nb ck ts lost ol f13 op mp sa sx Mfi Mlk Mow Mtk Mdl Mrt Mwd Mgo Mgm Mln Mcd Mst Mfm Mfs Mfl Mfb Mho Mwo Mda Men Mke Mva) => c_Mo_put_rem_free e1.hMo k.np32 k.nb32 e1.hOp e1.hIm e1.hFi e1.hLi e1.hHo e1.hWo e1.hDa e1.hEn e1.hKe e1.hVa ha hop ky u hmp (by omega) (hqe.trans hff.symm) (by omega) (by omega) hda (by omega)) (fun h1 h2 k1 e1 hp2 => ?_)
          · obtain ⟨hd, ht, hf⟩ := hp
            have hap1 : ∀ i, i < 6 → APP i h1 (dr i) (fl i) (op i) (mp i) (fi i) (lk i) (pp i) (pl i) (pe i) (qb i) (qn i) (qf i) (ql i) (td i) ((va_up tl a (tl a - 1)) i) (c1 i) (o1 i) (y1 i) (n1 i) (l1 i) (c2 i) (o2 i) (y2 i) (n2 i) (l2 i) := by
              intro i hi
              by_cases e9 : i = a
              · subst e9; simp only [va_eq]; obtain ⟨m1, m2, m3, m4, m5, m6, m7⟩ := k.ap i hi; exact ⟨m1.on (fun c h1 h2 => hf c (by omega) (by omega)), m2.on (fun c h1 h2 => hf c (by omega) (by omega)), m3.on (fun c h1 h2 => hf c (by omega) (by omega)), ht, m5.on (fun c h1 h2 => hf c (by omega) (by omega)), m6.on (fun c h1 h2 => hf c (by omega) (by omega)), m7⟩
              · simp only [va_ne e9]; exact (k.ap i hi).on (fun c h1 h2 => hf c (by omega) (by omega))
            have k1 : KER h1 np nb mw mo mr mt mn md ts ck (upd (upd dw (eka (fun j => cn (td a j)) q) (dw (eka (fun j => cn (td a j)) (tl a - 1)))) (eka (fun j => cn (td a j)) q + 1) (dw (eka (fun j => cn (td a j)) (tl a - 1) + 1))) (upd dn (cn (td a ((tl a - 1) / 4))) (-1)) os ol fb f13 lost dr fl op mp fi lk pp pl pe qb qn qf ql td (va_up tl a (tl a - 1)) c1 o1 y1 n1 l1 c2 o2 y2 n2 l2 := ⟨k.hK.on (fun c h1 h2 => hf c (by omega) (by omega)) (fun c h1 h2 => hf c (by omega) (by omega)), k.hm.on (fun c h1 h2 => hf c (by omega) (by omega)), hd, k.ho.on (fun c h1 h2 => hf c (by omega) (by omega)), k.hr.on (fun c h1 h2 => hf c (by omega) (by omega)), hap1⟩
            have e1 : MOD h1 np nb ck ts lost ol f13 op mp sa sx Mfi Mlk Mow Mtk Mdl Mrt Mwd Mgo Mgm Mln Mcd Mst Mfm Mfs Mfl Mfb Mho Mwo Mda Men Mke Mva := e.mv (fun c hc => hf c (by omega) (by omega))
            exact ⟨⟨_, k1.hK.1⟩, ⟨_, e1.hMo⟩, k1, e1⟩
          · obtain ⟨hHo, hEn, hKe, hVa, hf2⟩ := hp2
            have hR : REL np nb mw mo mr mt mn md ts ck (upd (upd dw (eka (fun j => cn (td a j)) q) (dw (eka (fun j => cn (td a j)) (tl a - 1)))) (eka (fun j => cn (td a j)) q + 1) (dw (eka (fun j => cn (td a j)) (tl a - 1) + 1))) (upd dn (cn (td a ((tl a - 1) / 4))) (-1)) os ol fb f13 lost dr fl op mp fi lk pp pl pe qb qn qf ql td (va_up tl a (tl a - 1)) c1 o1 y1 n1 l1 c2 o2 y2 n2 l2 sa sx Mfi Mlk Mow Mtk Mdl Mrt Mwd Mgo Mgm Mln Mcd Mst Mfm Mfs Mfl Mfb (upd Mho (cn (td a ((tl a - 1) / 4))) (-1)) Mwo Mda (va_up Men a (Men a - 1)) (upd Mke (a * 28 + q) (Mke (a * 28 + Men a - 1))) (upd Mva (a * 28 + q) (Mva (a * 28 + Men a - 1))) (n + 1) := by
              have hB := eka_b (tb := (fun j => cn (td a j))) (q := q)
              obtain ⟨-, hb1, hb2, -⟩ := q9.td hop hmp (q / 4) (by omega)
              have hB : cn (td a (q / 4)) * 8 ≤ eka (fun j => cn (td a j)) q ∧ eka (fun j => cn (td a j)) q + 1 < cn (td a (q / 4)) * 8 + 8 := hB
              obtain ⟨-, hf1, hf3, -⟩ := q9.td hop hmp ((tl a - 1) / 4) (by omega)
              refine ⟨(by have := r.tsn; omega), (by have := r.ckn; omega), (r.rm), (r.rd.gen (fun b hb9 => upd_c (r.rd.ho b hb9)) (fun b hb9 => ?_) (fun b a' h1 h2 h3 h4 => ?_) (fun b g a' h1 h2 h3 h4 h5 h6 => by rw [upd_ne (hmb g a' _ h3 h4 h6 hf3)]; exact h6)), (r.ro), (r.rf), (fun i hi => ?_)⟩
              · by_cases e9 : b = cn (td a ((tl a - 1) / 4))
                · rw [e9, upd_eq]; exact Or.inl rfl
                · rw [upd_ne e9]; exact r.rd.own b hb9
              · have n8 : b ≠ cn (td a ((tl a - 1) / 4)) := fun e9 => by rw [e9, upd_eq] at h4; exact nI_nem1 (by omega) h4.symm
                rw [upd_ne n8] at h4
                exact ⟨h4, fun w hw => ⟨(by have n9 := hmb b a' _ h2 h3 h4 hb2; rw [upd_ne (by omega), upd_ne (by omega)]), rfl⟩⟩
              · by_cases e9 : i = a
                · subst e9
                  simp only [va_eq]
                  refine ⟨q9.fk, q9.gm, q9.go, q9.q0, q9.fs, q9.fl, q9.fb, (fun h9 => absurd ⟨hop, hmp⟩ h9), (fun h1 h2 => by rw [va_eq, hen]), (fun h1 h2 j hj => ?_), (fun h1 h2 j1 j2 g1 g2 => q9.ti h1 h2 j1 j2 (by omega) (by omega)), (fun h1 h2 j hj => ?_), q9.ln, q9.l0, q9.pr, q9.yf, q9.pf, q9.sf⟩
                  · obtain ⟨t1, t2, t3, t4⟩ := q9.td h1 h2 j (by omega)
                    rw [upd_ne (fun e8 => absurd (q9.ti h1 h2 j ((tl i - 1) / 4) (by omega) (by omega) (by rw [t1, e8]; exact (q9.td h1 h2 ((tl i - 1) / 4) (by omega)).1.symm)) (by omega))]
                    exact ⟨t1, t2, t3, t4⟩
                  · rw [hen]
                    by_cases e8 : j = q
                    · subst e8; exact ⟨by rw [upd_ne (by omega), upd_eq, upd_eq, show i * 28 + tl i - 1 = i * 28 + (tl i - 1) by omega]; exact (q9.ke h1 h2 (tl i - 1) (by omega)).1, by rw [upd_eq, upd_eq, show i * 28 + tl i - 1 = i * 28 + (tl i - 1) by omega]; exact (q9.ke h1 h2 (tl i - 1) (by omega)).2⟩
                    · obtain ⟨n1, n2, n3, n4⟩ := eka_ne (tb := (fun j => cn (td i j))) (hinj j q (by omega) (by omega)) e8
                      exact ⟨by rw [upd_ne n2, upd_ne n1, upd_ne (by omega)]; exact (q9.ke h1 h2 j (by omega)).1, by rw [upd_ne n4, upd_ne n3, upd_ne (by omega)]; exact (q9.ke h1 h2 j (by omega)).2⟩
                · have hql := hT.2.2
                  simp only [va_ne e9]
                  exact (r.ra i hi).cg (k.ap i hi) rfl rfl (fun _ _ => rfl) rfl rfl (fun _ _ => rfl) (fun _ _ => rfl) rfl (fun _ _ => rfl) (fun _ _ _ _ => rfl) (fun _ _ => rfl) (va_ne e9) (fun j hj => upd_ne (by omega)) (fun j hj => upd_ne (by omega)) (fun h1 h2 b0 hb0 hd0 => ⟨by rw [upd_ne (hmo b0 i _ hi e9 hd0 hf3)]; exact hd0, fun w hw => by have n9 := hmo b0 i _ hi e9 hd0 hb2; rw [upd_ne (by omega), upd_ne (by omega)]⟩)
            exact ST.mk (k1.mv (hf2.lo (by decide))) ⟨MOB.mv e1.hMo (hf2 166 (by decide)), (hf2 167 (by decide)).trans e1.hOp, (hf2 168 (by decide)).trans e1.hIm, (hf2 169 (by decide)).trans e1.hFi, (hf2 170 (by decide)).trans e1.hLi, (hf2 171 (by decide)).trans e1.hOw, (hf2 172 (by decide)).trans e1.hTk, (hf2 173 (by decide)).trans e1.hDl, (hf2 174 (by decide)).trans e1.hRt, (hf2 175 (by decide)).trans e1.hWd, (hf2 176 (by decide)).trans e1.hGo, (hf2 177 (by decide)).trans e1.hGm, (hf2 178 (by decide)).trans e1.hLn, (hf2 179 (by decide)).trans e1.hCd, (hf2 180 (by decide)).trans e1.hSt, (hf2 181 (by decide)).trans e1.hFm, (hf2 182 (by decide)).trans e1.hFs, (hf2 183 (by decide)).trans e1.hFl, (hf2 184 (by decide)).trans e1.hFb, hHo, (hf2 186 (by decide)).trans e1.hWo, (hf2 187 (by decide)).trans e1.hDa, hEn, hKe, hVa⟩ hR
        · refine OPS.ch2 (c_K_put_rem_keep k.hK k.hap k.hd ha ky u ho hmp hT (tb := (fun j => cn (td a j))) (fun j hj => ⟨(q9.td hop hmp j hj).1, (q9.td hop hmp j hj).2.1⟩) hqe hq h4) (fun h1 hp => ?_) (fun h1 (k1 : KER h1 np nb mw mo mr mt mn md ts ck (upd (upd dw (eka (fun j => cn (td a j)) q) (dw (eka (fun j => cn (td a j)) (tl a - 1)))) (eka (fun j => cn (td a j)) q + 1) (dw (eka (fun j => cn (td a j)) (tl a - 1) + 1))) dn os ol fb f13 lost dr fl op mp fi lk pp pl pe qb qn qf ql td (va_up tl a (tl a - 1)) c1 o1 y1 n1 l1 c2 o2 y2 n2 l2) (e1 : MOD h1 np nb ck ts lost ol f13 op mp sa sx Mfi Mlk Mow Mtk Mdl Mrt Mwd Mgo Mgm Mln Mcd Mst Mfm Mfs Mfl Mfb Mho Mwo Mda Men Mke Mva) => c_Mo_put_rem_keep e1.hMo k.np32 k.nb32 e1.hOp e1.hIm e1.hFi e1.hLi e1.hHo e1.hWo e1.hDa e1.hEn e1.hKe e1.hVa ha hop ky u hmp (by omega) (hqe.trans hff.symm) (by omega) (by omega)) (fun h1 h2 k1 e1 hp2 => ?_)
          · obtain ⟨hd, ht, hf⟩ := hp
            have hap1 : ∀ i, i < 6 → APP i h1 (dr i) (fl i) (op i) (mp i) (fi i) (lk i) (pp i) (pl i) (pe i) (qb i) (qn i) (qf i) (ql i) (td i) ((va_up tl a (tl a - 1)) i) (c1 i) (o1 i) (y1 i) (n1 i) (l1 i) (c2 i) (o2 i) (y2 i) (n2 i) (l2 i) := by
              intro i hi
              by_cases e9 : i = a
              · subst e9; simp only [va_eq]; obtain ⟨m1, m2, m3, m4, m5, m6, m7⟩ := k.ap i hi; exact ⟨m1.on (fun c h1 h2 => hf c (by omega) (by omega)), m2.on (fun c h1 h2 => hf c (by omega) (by omega)), m3.on (fun c h1 h2 => hf c (by omega) (by omega)), ht, m5.on (fun c h1 h2 => hf c (by omega) (by omega)), m6.on (fun c h1 h2 => hf c (by omega) (by omega)), m7⟩
              · simp only [va_ne e9]; exact (k.ap i hi).on (fun c h1 h2 => hf c (by omega) (by omega))
            have k1 : KER h1 np nb mw mo mr mt mn md ts ck (upd (upd dw (eka (fun j => cn (td a j)) q) (dw (eka (fun j => cn (td a j)) (tl a - 1)))) (eka (fun j => cn (td a j)) q + 1) (dw (eka (fun j => cn (td a j)) (tl a - 1) + 1))) dn os ol fb f13 lost dr fl op mp fi lk pp pl pe qb qn qf ql td (va_up tl a (tl a - 1)) c1 o1 y1 n1 l1 c2 o2 y2 n2 l2 := ⟨k.hK.on (fun c h1 h2 => hf c (by omega) (by omega)) (fun c h1 h2 => hf c (by omega) (by omega)), k.hm.on (fun c h1 h2 => hf c (by omega) (by omega)), hd, k.ho.on (fun c h1 h2 => hf c (by omega) (by omega)), k.hr.on (fun c h1 h2 => hf c (by omega) (by omega)), hap1⟩
            have e1 : MOD h1 np nb ck ts lost ol f13 op mp sa sx Mfi Mlk Mow Mtk Mdl Mrt Mwd Mgo Mgm Mln Mcd Mst Mfm Mfs Mfl Mfb Mho Mwo Mda Men Mke Mva := e.mv (fun c hc => hf c (by omega) (by omega))
            exact ⟨⟨_, k1.hK.1⟩, ⟨_, e1.hMo⟩, k1, e1⟩
          · obtain ⟨hEn, hKe, hVa, hf2⟩ := hp2
            have hR : REL np nb mw mo mr mt mn md ts ck (upd (upd dw (eka (fun j => cn (td a j)) q) (dw (eka (fun j => cn (td a j)) (tl a - 1)))) (eka (fun j => cn (td a j)) q + 1) (dw (eka (fun j => cn (td a j)) (tl a - 1) + 1))) dn os ol fb f13 lost dr fl op mp fi lk pp pl pe qb qn qf ql td (va_up tl a (tl a - 1)) c1 o1 y1 n1 l1 c2 o2 y2 n2 l2 sa sx Mfi Mlk Mow Mtk Mdl Mrt Mwd Mgo Mgm Mln Mcd Mst Mfm Mfs Mfl Mfb Mho Mwo Mda (va_up Men a (Men a - 1)) (upd Mke (a * 28 + q) (Mke (a * 28 + Men a - 1))) (upd Mva (a * 28 + q) (Mva (a * 28 + Men a - 1))) (n + 1) := by
              have hB := eka_b (tb := (fun j => cn (td a j))) (q := q)
              obtain ⟨-, hb1, hb2, -⟩ := q9.td hop hmp (q / 4) (by omega)
              have hB : cn (td a (q / 4)) * 8 ≤ eka (fun j => cn (td a j)) q ∧ eka (fun j => cn (td a j)) q + 1 < cn (td a (q / 4)) * 8 + 8 := hB
              refine ⟨(by have := r.tsn; omega), (by have := r.ckn; omega), (r.rm), (r.rd.gen r.rd.ho r.rd.own (fun b a' h1 h2 h3 h4 => ⟨h4, fun w hw => ⟨(by have n9 := hmb b a' _ h2 h3 h4 hb2; rw [upd_ne (by omega), upd_ne (by omega)]), rfl⟩⟩) (fun _ _ _ _ _ _ _ _ h9 => h9)), (r.ro), (r.rf), (fun i hi => ?_)⟩
              · by_cases e9 : i = a
                · subst e9
                  simp only [va_eq]
                  refine ⟨q9.fk, q9.gm, q9.go, q9.q0, q9.fs, q9.fl, q9.fb, (fun h9 => absurd ⟨hop, hmp⟩ h9), (fun h1 h2 => by rw [va_eq, hen]), (fun h1 h2 j hj => q9.td h1 h2 j (by omega)), (fun h1 h2 j1 j2 g1 g2 => q9.ti h1 h2 j1 j2 (by omega) (by omega)), (fun h1 h2 j hj => ?_), q9.ln, q9.l0, q9.pr, q9.yf, q9.pf, q9.sf⟩
                  · rw [hen]
                    by_cases e8 : j = q
                    · subst e8; exact ⟨by rw [upd_ne (by omega), upd_eq, upd_eq, show i * 28 + tl i - 1 = i * 28 + (tl i - 1) by omega]; exact (q9.ke h1 h2 (tl i - 1) (by omega)).1, by rw [upd_eq, upd_eq, show i * 28 + tl i - 1 = i * 28 + (tl i - 1) by omega]; exact (q9.ke h1 h2 (tl i - 1) (by omega)).2⟩
                    · obtain ⟨n1, n2, n3, n4⟩ := eka_ne (tb := (fun j => cn (td i j))) (hinj j q (by omega) (by omega)) e8
                      exact ⟨by rw [upd_ne n2, upd_ne n1, upd_ne (by omega)]; exact (q9.ke h1 h2 j (by omega)).1, by rw [upd_ne n4, upd_ne n3, upd_ne (by omega)]; exact (q9.ke h1 h2 j (by omega)).2⟩
                · have hql := hT.2.2
                  simp only [va_ne e9]
                  exact (r.ra i hi).cg (k.ap i hi) rfl rfl (fun _ _ => rfl) rfl rfl (fun _ _ => rfl) (fun _ _ => rfl) rfl (fun _ _ => rfl) (fun _ _ _ _ => rfl) (fun _ _ => rfl) (va_ne e9) (fun j hj => upd_ne (by omega)) (fun j hj => upd_ne (by omega)) (fun h1 h2 b0 hb0 hd0 => ⟨hd0, fun w hw => by have n9 := hmo b0 i _ hi e9 hd0 hb2; rw [upd_ne (by omega), upd_ne (by omega)]⟩)
            exact ST.mk (k1.mv (hf2.lo (by decide))) ⟨MOB.mv e1.hMo (hf2 166 (by decide)), (hf2 167 (by decide)).trans e1.hOp, (hf2 168 (by decide)).trans e1.hIm, (hf2 169 (by decide)).trans e1.hFi, (hf2 170 (by decide)).trans e1.hLi, (hf2 171 (by decide)).trans e1.hOw, (hf2 172 (by decide)).trans e1.hTk, (hf2 173 (by decide)).trans e1.hDl, (hf2 174 (by decide)).trans e1.hRt, (hf2 175 (by decide)).trans e1.hWd, (hf2 176 (by decide)).trans e1.hGo, (hf2 177 (by decide)).trans e1.hGm, (hf2 178 (by decide)).trans e1.hLn, (hf2 179 (by decide)).trans e1.hCd, (hf2 180 (by decide)).trans e1.hSt, (hf2 181 (by decide)).trans e1.hFm, (hf2 182 (by decide)).trans e1.hFs, (hf2 183 (by decide)).trans e1.hFl, (hf2 184 (by decide)).trans e1.hFb, (hf2 185 (by decide)).trans e1.hHo, (hf2 186 (by decide)).trans e1.hWo, (hf2 187 (by decide)).trans e1.hDa, hEn, hKe, hVa⟩ hR
    · have hqm : ¬ ff (fun j => decide (Mke (a * 28 + j) = ky)) (Men a) 0 < Men a := by rw [hff, hen]; exact hq
      cases pr with
      | false => exact OPS.nn k e r (c_K_put_nf0 k.hK k.hap k.hd ha ky u ho hmp hT (tb := (fun j => cn (td a j))) (fun j hj => ⟨(q9.td hop hmp j hj).1, (q9.td hop hmp j hj).2.1⟩) hq) (c_Mo_put_nf0 e.hMo k.np32 k.nb32 e.hOp e.hIm e.hFi e.hLi e.hHo e.hWo e.hDa e.hEn e.hKe e.hVa ha hop ky u hmp (by omega) hqm)
      | true =>
        by_cases h28 : tl a = 28
        · exact OPS.nn k e r (c_K_put_full k.hK k.hap k.hd ha ky u ho hmp hT (tb := (fun j => cn (td a j))) (fun j hj => ⟨(q9.td hop hmp j hj).1, (q9.td hop hmp j hj).2.1⟩) hq h28) (c_Mo_put_full e.hMo k.np32 k.nb32 e.hOp e.hIm e.hFi e.hLi e.hHo e.hWo e.hDa e.hEn e.hKe e.hVa ha hop ky u hmp (by omega) hqm (hen.trans h28))
        · have h28 : tl a < 28 := by omega
          by_cases h4 : tl a % 4 = 0
          · by_cases hbb : ff (fun j => decide (dn j = -1)) nb 0 < nb
            · obtain ⟨bb, hbe⟩ : ∃ bb, bb = ff (fun j => decide (dn j = -1)) nb 0 := ⟨_, rfl⟩
              have hbf : dn bb = -1 := of_decide_eq_true (by rw [hbe]; exact ff_is (fun j => decide (dn j = -1)) nb 0 (by omega))
              rw [← hbe] at hbb
              refine OPS.ch2 (c_K_put_new k.hK k.hap k.hd ha ky u ho hmp hT (tb := (fun j => cn (td a j))) (fun j hj => ⟨(q9.td hop hmp j hj).1, (q9.td hop hmp j hj).2.1⟩) hq h28 h4 hbe hbb) (fun h1 hp => ?_) (fun h1 (k1 : KER h1 np nb mw mo mr mt mn md ts ck (upd (upd (fil dw (lkw bb 0 0) (bb * 8) 8) (bb * 8 + 2 * (tl a % 4)) ky) (bb * 8 + (2 * (tl a % 4) + 1)) u) (upd dn bb (nI a)) os ol fb f13 lost dr fl op mp fi lk pp pl pe qb qn qf ql (va_up td a (upd (td a) (tl a / 4) (nI bb))) (va_up tl a (tl a + 1)) c1 o1 y1 n1 l1 c2 o2 y2 n2 l2) (e1 : MOD h1 np nb ck ts lost ol f13 op mp sa sx Mfi Mlk Mow Mtk Mdl Mrt Mwd Mgo Mgm Mln Mcd Mst Mfm Mfs Mfl Mfb Mho Mwo Mda Men Mke Mva) => c_Mo_put_new e1.hMo k.np32 k.nb32 e1.hOp e1.hIm e1.hFi e1.hLi e1.hHo e1.hWo e1.hDa e1.hEn e1.hKe e1.hVa ha hop ky u hmp (by omega) hqm (by omega) (by omega) (hbe.trans hfb.symm) hbb) (fun h1 h2 k1 e1 hp2 => ?_)
              · obtain ⟨hd, ht, hf⟩ := hp
                have hap1 : ∀ i, i < 6 → APP i h1 (dr i) (fl i) (op i) (mp i) (fi i) (lk i) (pp i) (pl i) (pe i) (qb i) (qn i) (qf i) (ql i) ((va_up td a (upd (td a) (tl a / 4) (nI bb))) i) ((va_up tl a (tl a + 1)) i) (c1 i) (o1 i) (y1 i) (n1 i) (l1 i) (c2 i) (o2 i) (y2 i) (n2 i) (l2 i) := by
                  intro i hi
                  by_cases e9 : i = a
                  · subst e9; simp only [va_eq]; obtain ⟨m1, m2, m3, m4, m5, m6, m7⟩ := k.ap i hi; exact ⟨m1.on (fun c h1 h2 => hf c (by omega) (by omega)), m2.on (fun c h1 h2 => hf c (by omega) (by omega)), m3.on (fun c h1 h2 => hf c (by omega) (by omega)), ht, m5.on (fun c h1 h2 => hf c (by omega) (by omega)), m6.on (fun c h1 h2 => hf c (by omega) (by omega)), m7⟩
                  · simp only [va_ne e9]; exact (k.ap i hi).on (fun c h1 h2 => hf c (by omega) (by omega))
                have k1 : KER h1 np nb mw mo mr mt mn md ts ck (upd (upd (fil dw (lkw bb 0 0) (bb * 8) 8) (bb * 8 + 2 * (tl a % 4)) ky) (bb * 8 + (2 * (tl a % 4) + 1)) u) (upd dn bb (nI a)) os ol fb f13 lost dr fl op mp fi lk pp pl pe qb qn qf ql (va_up td a (upd (td a) (tl a / 4) (nI bb))) (va_up tl a (tl a + 1)) c1 o1 y1 n1 l1 c2 o2 y2 n2 l2 := ⟨k.hK.on (fun c h1 h2 => hf c (by omega) (by omega)) (fun c h1 h2 => hf c (by omega) (by omega)), k.hm.on (fun c h1 h2 => hf c (by omega) (by omega)), hd, k.ho.on (fun c h1 h2 => hf c (by omega) (by omega)), k.hr.on (fun c h1 h2 => hf c (by omega) (by omega)), hap1⟩
                have e1 : MOD h1 np nb ck ts lost ol f13 op mp sa sx Mfi Mlk Mow Mtk Mdl Mrt Mwd Mgo Mgm Mln Mcd Mst Mfm Mfs Mfl Mfb Mho Mwo Mda Men Mke Mva := e.mv (fun c hc => hf c (by omega) (by omega))
                exact ⟨⟨_, k1.hK.1⟩, ⟨_, e1.hMo⟩, k1, e1⟩
              · obtain ⟨hHo, hWo, hDa, hEn, hKe, hVa, hf2⟩ := hp2
                have hR : REL np nb mw mo mr mt mn md ts ck (upd (upd (fil dw (lkw bb 0 0) (bb * 8) 8) (bb * 8 + 2 * (tl a % 4)) ky) (bb * 8 + (2 * (tl a % 4) + 1)) u) (upd dn bb (nI a)) os ol fb f13 lost dr fl op mp fi lk pp pl pe qb qn qf ql (va_up td a (upd (td a) (tl a / 4) (nI bb))) (va_up tl a (tl a + 1)) c1 o1 y1 n1 l1 c2 o2 y2 n2 l2 sa sx Mfi Mlk Mow Mtk Mdl Mrt Mwd Mgo Mgm Mln Mcd Mst Mfm Mfs Mfl Mfb (upd Mho bb (nI a)) (fil Mwo (lkw bb 0 0) (bb * 8) 8) (upd Mda (a * 7 + Men a / 4) (nI bb)) (va_up Men a (Men a + 1)) (upd Mke (a * 28 + Men a) ky) (upd Mva (a * 28 + Men a) u) (n + 1) := by
                  have ob : ∀ b a', a' < 6 → dn b = nI a' → b ≠ bb := fun b a' h1 h2 h3 => by rw [h3, hbf] at h2; exact nI_nem1 (by omega) h2.symm
                  refine ⟨(by have := r.tsn; omega), (by have := r.ckn; omega), (r.rm), (r.rd.gen (fun b hb9 => upd_c (r.rd.ho b hb9)) (fun b hb9 => ?_) (fun b a' h1 h2 h3 h4 => ?_) (fun b g a' h1 h2 h3 h4 h5 h6 => by rw [upd_ne (ob g a' h3 h6)]; exact h6)), (r.ro), (r.rf), (fun i hi => ?_)⟩
                  · by_cases e9 : b = bb
                    · subst e9; exact Or.inr ⟨a, ha, upd_eq _ _ _, hop⟩
                    · rw [upd_ne e9]; exact r.rd.own b hb9
                  · have n9 : b ≠ bb := fun e9 => by rw [e9, upd_eq] at h4; exact nI_ne h2 ha (fun e8 => by rw [e8, hmp] at h3; cases h3) h4.symm
                    rw [upd_ne n9] at h4
                    exact ⟨h4, fun w hw => ⟨by rw [upd_ne (by omega), upd_ne (by omega), fil_o (by omega)], fil_o (by omega)⟩⟩
                  · by_cases e9 : i = a
                    · subst e9
                      have hold : ∀ j, j * 4 < tl i → cn (td i j) ≠ bb := fun j hj => ob _ i ha (q9.td hop hmp j hj).2.2.1
                      simp only [va_eq]
                      refine ⟨q9.fk, q9.gm, q9.go, q9.q0, q9.fs, q9.fl, q9.fb, (fun h9 => absurd ⟨hop, hmp⟩ h9), (fun h1 h2 => by rw [va_eq, hen]), (fun h1 h2 j hj => ?_), (fun h1 h2 j1 j2 g1 g2 g3 => ?_), (fun h1 h2 j hj => ?_), q9.ln, q9.l0, q9.pr, q9.yf, q9.pf, q9.sf⟩
                      · rw [hen]
                        by_cases e8 : j = tl i / 4
                        · rw [e8, upd_eq, cn_nI (by omega), upd_eq, upd_eq]; exact ⟨rfl, hbb, rfl, rfl⟩
                        · obtain ⟨t1, t2, t3, t4⟩ := q9.td h1 h2 j (by omega)
                          rw [upd_ne e8, upd_ne (hold j (by omega)), upd_ne (by omega)]; exact ⟨t1, t2, t3, t4⟩
                      · by_cases e8 : j1 = tl i / 4
                        · by_cases e7 : j2 = tl i / 4
                          · omega
                          · rw [e8, upd_eq, upd_ne e7] at g3; exact absurd (by rw [← g3, cn_nI (by omega)]) (hold j2 (by omega))
                        · by_cases e7 : j2 = tl i / 4
                          · rw [e7, upd_eq, upd_ne e8] at g3; exact absurd (by rw [g3, cn_nI (by omega)]) (hold j1 (by omega))
                          · rw [upd_ne e8, upd_ne e7] at g3; exact q9.ti h1 h2 j1 j2 (by omega) (by omega) g3
                      · rw [hen]
                        by_cases e8 : j = tl i
                        · rw [e8]
                          unfold eka
                          simp only [upd_eq, cn_nI (show bb < 2147483648 by omega)]
                          exact ⟨by rw [upd_ne (by omega), upd_eq], by rw [Nat.add_assoc, upd_eq]⟩
                        · have e7 : eka (fun j9 => cn (upd (td i) (tl i / 4) (nI bb) j9)) j = eka (fun j9 => cn (td i j9)) j := by unfold eka; simp only [upd_ne (show j / 4 ≠ tl i / 4 by omega)]
                          have hB := eka_b (tb := fun j9 => cn (td i j9)) (q := j)
                          have hB : cn (td i (j / 4)) * 8 ≤ eka (fun j9 => cn (td i j9)) j ∧ eka (fun j9 => cn (td i j9)) j + 1 < cn (td i (j / 4)) * 8 + 8 := hB
                          have hne := hold (j / 4) (by omega)
                          rw [e7]
                          exact ⟨by rw [upd_ne (by omega), upd_ne (by omega), fil_o (by omega), upd_ne (by omega)]; exact (q9.ke h1 h2 j (by omega)).1, by rw [upd_ne (by omega), upd_ne (by omega), fil_o (by omega), upd_ne (by omega)]; exact (q9.ke h1 h2 j (by omega)).2⟩
                    · have hql := hT.2.2
                      simp only [va_ne e9]
                      exact (r.ra i hi).cg (k.ap i hi) rfl rfl (fun _ _ => rfl) rfl rfl (fun _ _ => rfl) (fun _ _ => rfl) rfl (fun _ _ => rfl) (fun _ _ _ _ => rfl) (fun j hj => upd_ne (by omega)) (va_ne e9) (fun j hj => upd_ne (by omega)) (fun j hj => upd_ne (by omega)) (fun h1 h2 b0 hb0 hd0 => by have n9 := ob b0 i hi hd0; exact ⟨by rw [upd_ne n9]; exact hd0, fun w hw => by rw [upd_ne (by omega), upd_ne (by omega), fil_o (by omega)]⟩)
                exact ST.mk (k1.mv (hf2.lo (by decide))) ⟨MOB.mv e1.hMo (hf2 166 (by decide)), (hf2 167 (by decide)).trans e1.hOp, (hf2 168 (by decide)).trans e1.hIm, (hf2 169 (by decide)).trans e1.hFi, (hf2 170 (by decide)).trans e1.hLi, (hf2 171 (by decide)).trans e1.hOw, (hf2 172 (by decide)).trans e1.hTk, (hf2 173 (by decide)).trans e1.hDl, (hf2 174 (by decide)).trans e1.hRt, (hf2 175 (by decide)).trans e1.hWd, (hf2 176 (by decide)).trans e1.hGo, (hf2 177 (by decide)).trans e1.hGm, (hf2 178 (by decide)).trans e1.hLn, (hf2 179 (by decide)).trans e1.hCd, (hf2 180 (by decide)).trans e1.hSt, (hf2 181 (by decide)).trans e1.hFm, (hf2 182 (by decide)).trans e1.hFs, (hf2 183 (by decide)).trans e1.hFl, (hf2 184 (by decide)).trans e1.hFb, hHo, hWo, hDa, hEn, hKe, hVa⟩ hR
            · exact OPS.nn k e r (c_K_put_none k.hK k.hap k.hd ha ky u ho hmp hT (tb := (fun j => cn (td a j))) (fun j hj => ⟨(q9.td hop hmp j hj).1, (q9.td hop hmp j hj).2.1⟩) hq h28 h4 hbb) (c_Mo_put_none e.hMo k.np32 k.nb32 e.hOp e.hIm e.hFi e.hLi e.hHo e.hWo e.hDa e.hEn e.hKe e.hVa ha hop ky u hmp (by omega) hqm (by omega) (by omega) (by rw [hfb]; exact hbb))
          · refine OPS.ch2 (c_K_put_in k.hK k.hap k.hd ha ky u ho hmp hT (tb := (fun j => cn (td a j))) (fun j hj => ⟨(q9.td hop hmp j hj).1, (q9.td hop hmp j hj).2.1⟩) hq h28 h4) (fun h1 hp => ?_) (fun h1 (k1 : KER h1 np nb mw mo mr mt mn md ts ck (upd (upd dw (cn (td a (tl a / 4)) * 8 + 2 * (tl a % 4)) ky) (cn (td a (tl a / 4)) * 8 + (2 * (tl a % 4) + 1)) u) dn os ol fb f13 lost dr fl op mp fi lk pp pl pe qb qn qf ql td (va_up tl a (tl a + 1)) c1 o1 y1 n1 l1 c2 o2 y2 n2 l2) (e1 : MOD h1 np nb ck ts lost ol f13 op mp sa sx Mfi Mlk Mow Mtk Mdl Mrt Mwd Mgo Mgm Mln Mcd Mst Mfm Mfs Mfl Mfb Mho Mwo Mda Men Mke Mva) => c_Mo_put_in e1.hMo k.np32 k.nb32 e1.hOp e1.hIm e1.hFi e1.hLi e1.hHo e1.hWo e1.hDa e1.hEn e1.hKe e1.hVa ha hop ky u hmp (by omega) hqm (by omega) (by omega)) (fun h1 h2 k1 e1 hp2 => ?_)
            · obtain ⟨hd, ht, hf⟩ := hp
              have hap1 : ∀ i, i < 6 → APP i h1 (dr i) (fl i) (op i) (mp i) (fi i) (lk i) (pp i) (pl i) (pe i) (qb i) (qn i) (qf i) (ql i) (td i) ((va_up tl a (tl a + 1)) i) (c1 i) (o1 i) (y1 i) (n1 i) (l1 i) (c2 i) (o2 i) (y2 i) (n2 i) (l2 i) := by
                intro i hi
                by_cases e9 : i = a
                · subst e9; simp only [va_eq]; obtain ⟨m1, m2, m3, m4, m5, m6, m7⟩ := k.ap i hi; exact ⟨m1.on (fun c h1 h2 => hf c (by omega) (by omega)), m2.on (fun c h1 h2 => hf c (by omega) (by omega)), m3.on (fun c h1 h2 => hf c (by omega) (by omega)), ht, m5.on (fun c h1 h2 => hf c (by omega) (by omega)), m6.on (fun c h1 h2 => hf c (by omega) (by omega)), m7⟩
                · simp only [va_ne e9]; exact (k.ap i hi).on (fun c h1 h2 => hf c (by omega) (by omega))
              have k1 : KER h1 np nb mw mo mr mt mn md ts ck (upd (upd dw (cn (td a (tl a / 4)) * 8 + 2 * (tl a % 4)) ky) (cn (td a (tl a / 4)) * 8 + (2 * (tl a % 4) + 1)) u) dn os ol fb f13 lost dr fl op mp fi lk pp pl pe qb qn qf ql td (va_up tl a (tl a + 1)) c1 o1 y1 n1 l1 c2 o2 y2 n2 l2 := ⟨k.hK.on (fun c h1 h2 => hf c (by omega) (by omega)) (fun c h1 h2 => hf c (by omega) (by omega)), k.hm.on (fun c h1 h2 => hf c (by omega) (by omega)), hd, k.ho.on (fun c h1 h2 => hf c (by omega) (by omega)), k.hr.on (fun c h1 h2 => hf c (by omega) (by omega)), hap1⟩
              have e1 : MOD h1 np nb ck ts lost ol f13 op mp sa sx Mfi Mlk Mow Mtk Mdl Mrt Mwd Mgo Mgm Mln Mcd Mst Mfm Mfs Mfl Mfb Mho Mwo Mda Men Mke Mva := e.mv (fun c hc => hf c (by omega) (by omega))
              exact ⟨⟨_, k1.hK.1⟩, ⟨_, e1.hMo⟩, k1, e1⟩
            · obtain ⟨hEn, hKe, hVa, hf2⟩ := hp2
              have hR : REL np nb mw mo mr mt mn md ts ck (upd (upd dw (cn (td a (tl a / 4)) * 8 + 2 * (tl a % 4)) ky) (cn (td a (tl a / 4)) * 8 + (2 * (tl a % 4) + 1)) u) dn os ol fb f13 lost dr fl op mp fi lk pp pl pe qb qn qf ql td (va_up tl a (tl a + 1)) c1 o1 y1 n1 l1 c2 o2 y2 n2 l2 sa sx Mfi Mlk Mow Mtk Mdl Mrt Mwd Mgo Mgm Mln Mcd Mst Mfm Mfs Mfl Mfb Mho Mwo Mda (va_up Men a (Men a + 1)) (upd Mke (a * 28 + Men a) ky) (upd Mva (a * 28 + Men a) u) (n + 1) := by
                obtain ⟨-, hb1, hb2, -⟩ := q9.td hop hmp (tl a / 4) (by omega)
                refine ⟨(by have := r.tsn; omega), (by have := r.ckn; omega), (r.rm), (r.rd.gen r.rd.ho r.rd.own (fun b a' h1 h2 h3 h4 => ⟨h4, fun w hw => ⟨(by have n9 := hmb b a' _ h2 h3 h4 hb2; rw [upd_ne (by omega), upd_ne (by omega)]), rfl⟩⟩) (fun _ _ _ _ _ _ _ _ h9 => h9)), (r.ro), (r.rf), (fun i hi => ?_)⟩
                by_cases e9 : i = a
                · subst e9
                  simp only [va_eq]
                  refine ⟨q9.fk, q9.gm, q9.go, q9.q0, q9.fs, q9.fl, q9.fb, (fun h9 => absurd ⟨hop, hmp⟩ h9), (fun h1 h2 => by rw [va_eq, hen]), (fun h1 h2 j hj => q9.td h1 h2 j (by omega)), (fun h1 h2 j1 j2 g1 g2 => q9.ti h1 h2 j1 j2 (by omega) (by omega)), (fun h1 h2 j hj => ?_), q9.ln, q9.l0, q9.pr, q9.yf, q9.pf, q9.sf⟩
                  rw [hen]
                  by_cases e8 : j = tl i
                  · subst e8; unfold eka; exact ⟨by rw [upd_ne (by omega), upd_eq, upd_eq], by rw [Nat.add_assoc, upd_eq, upd_eq]⟩
                  · obtain ⟨n1, n2, n3, n4⟩ := eka_ne (tb := (fun j => cn (td i j))) (q := j) (q' := tl i) (hinj j (tl i) (by omega) (by omega)) e8
                    have e7 : eka (fun j => cn (td i j)) (tl i) = cn (td i (tl i / 4)) * 8 + 2 * (tl i % 4) := rfl
                    rw [e7] at n1 n2 n3 n4
                    rw [Nat.add_assoc] at n2 n4
                    exact ⟨by rw [upd_ne n2, upd_ne n1, upd_ne (by omega)]; exact (q9.ke h1 h2 j (by omega)).1, by rw [upd_ne n4, upd_ne n3, upd_ne (by omega)]; exact (q9.ke h1 h2 j (by omega)).2⟩
                · have hql := hT.2.2
                  simp only [va_ne e9]
                  exact (r.ra i hi).cg (k.ap i hi) rfl rfl (fun _ _ => rfl) rfl rfl (fun _ _ => rfl) (fun _ _ => rfl) rfl (fun _ _ => rfl) (fun _ _ _ _ => rfl) (fun _ _ => rfl) (va_ne e9) (fun j hj => upd_ne (by omega)) (fun j hj => upd_ne (by omega)) (fun h1 h2 b0 hb0 hd0 => ⟨hd0, fun w hw => by have n9 := hmo b0 i _ hi e9 hd0 hb2; rw [upd_ne (by omega), upd_ne (by omega)]⟩)
              exact ST.mk (k1.mv (hf2.lo (by decide))) ⟨MOB.mv e1.hMo (hf2 166 (by decide)), (hf2 167 (by decide)).trans e1.hOp, (hf2 168 (by decide)).trans e1.hIm, (hf2 169 (by decide)).trans e1.hFi, (hf2 170 (by decide)).trans e1.hLi, (hf2 171 (by decide)).trans e1.hOw, (hf2 172 (by decide)).trans e1.hTk, (hf2 173 (by decide)).trans e1.hDl, (hf2 174 (by decide)).trans e1.hRt, (hf2 175 (by decide)).trans e1.hWd, (hf2 176 (by decide)).trans e1.hGo, (hf2 177 (by decide)).trans e1.hGm, (hf2 178 (by decide)).trans e1.hLn, (hf2 179 (by decide)).trans e1.hCd, (hf2 180 (by decide)).trans e1.hSt, (hf2 181 (by decide)).trans e1.hFm, (hf2 182 (by decide)).trans e1.hFs, (hf2 183 (by decide)).trans e1.hFl, (hf2 184 (by decide)).trans e1.hFb, (hf2 185 (by decide)).trans e1.hHo, (hf2 186 (by decide)).trans e1.hWo, (hf2 187 (by decide)).trans e1.hDa, hEn, hKe, hVa⟩ hR
