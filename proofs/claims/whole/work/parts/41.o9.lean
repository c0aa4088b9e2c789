/-! calls on both: open, close -/
theorem upT {op : Nat → Bool} {a i : Nat} (h : op i = true) : updB op a true i = true := by
  unfold updB
  split
  · rfl
  · exact h
/-- a closed application opens with block bb -/
theorem RD.opn {nb : Nat} {dw dn : Nat → Int32} {op mp : Nat → Bool} {fi lk : Nat → Nat} {Mho Mwo : Nat → Int32} (r : RD nb dw dn op mp fi lk Mho Mwo) {a bb f c : Nat} {mb : Bool} (ha : a < 6) (hcl : op a = false) (hb : bb < nb) (hbf : dn bb = -1) (hfc : f + c ≤ 8) : RD nb (fil dw (lkw bb f c) (bb * 8) 8) (upd dn bb (nI a)) (updB op a true) (updB mp a mb) (va_up fi a f) (va_up lk a c) (upd Mho bb (nI a)) (fil Mwo (lkw bb f c) (bb * 8) 8) := by
  have hno : ∀ b, b < nb → ¬ dn b = nI a := fun b hb9 e9 => by
    rcases r.own b hb9 with q | ⟨a', h1, h2, h3⟩
    · rw [q] at e9; exact nI_nem1 (by omega) e9.symm
    · rw [nI_inj (by omega) (by omega) (h2.symm.trans e9), hcl] at h3; cases h3
  have key : ∀ a' b' w', LNK (upd dn bb (nI a)) (updB mp a mb) (va_up fi a f) (va_up lk a c) nb a' b' w' → w' < 8 ∧ ((b' = bb ∧ fil dw (lkw bb f c) (bb * 8) 8 (b' * 8 + w') = -1) ∨ (b' ≠ bb ∧ a' ≠ a ∧ LNK dn mp fi lk nb a' b' w' ∧ fil dw (lkw bb f c) (bb * 8) 8 (b' * 8 + w') = dw (b' * 8 + w'))) := fun a' b' w' ⟨h1, h2, h3, h4, h5, h6⟩ => by
    have h8' := r.fl a' h1
    by_cases e : b' = bb
    · rw [e, upd_eq] at h3
      have ea := nI_inj (by omega) (by omega) h3
      subst ea
      rw [va_eq] at h5 h6
      rw [va_eq] at h6
      refine ⟨by omega, Or.inl ⟨e, ?_⟩⟩
      rw [e, fil_i (by omega)]
      unfold lkw
      rw [if_pos (by omega)]
    · rw [upd_ne e] at h3
      have ea : a' ≠ a := fun q => hno b' h2 (by rw [h3, q])
      rw [va_ne ea] at h5 h6
      rw [va_ne ea] at h6
      rw [updB_ne ea] at h4
      exact ⟨by omega, Or.inr ⟨e, ea, ⟨h1, h2, h3, h4, h5, h6⟩, fil_o (by omega)⟩⟩
  refine ⟨fun p hp => upd_c (r.ho p hp), fun p hp => ?_, fun a' b' h1 h2 h3 h4 w hw => ?_, fun i hi => ?_, fun a' b' w' h => ?_, fun a' b1 w1 b2 w2 g1 g2 g3 g4 => ?_⟩
  · by_cases e : p = bb
    · subst e; exact Or.inr ⟨a, ha, upd_eq _ _ _, updB_eq _ _ _⟩
    · rw [upd_ne e]
      rcases r.own p hp with q | ⟨a', h1, h2, h3⟩
      · exact Or.inl q
      · exact Or.inr ⟨a', h1, h2, upT h3⟩
  · by_cases e : b' = bb
    · rw [fil_i (by omega), fil_i (by omega)]
    · rw [upd_ne e] at h3
      rw [updB_ne (fun q => hno b' h2 (by rw [h3, q]))] at h4
      rw [fil_o (by omega), fil_o (by omega)]
      exact r.wo a' b' h1 h2 h3 h4 w hw
  · by_cases e : i = a
    · subst e; rw [va_eq, va_eq]; exact hfc
    · rw [va_ne e, va_ne e]; exact r.fl i hi
  · obtain ⟨hw8, h9⟩ := key a' b' w' h
    rcases h9 with ⟨-, e⟩ | ⟨hne, ea, L9, e⟩
    · exact Or.inl e
    · rw [e]
      rcases r.lnk a' b' w' L9 with e3 | ⟨g2, h1, h2, h3⟩
      · exact Or.inl e3
      · refine Or.inr ⟨g2, h1, h2, ?_⟩
        rw [upd_ne (fun e4 => by rw [e4, hbf] at h3; exact nI_nem1 (by have := L9.1; omega) h3.symm)]
        exact h3
  · obtain ⟨w81, h91⟩ := key a' b1 w1 g1
    obtain ⟨w82, h92⟩ := key a' b2 w2 g2
    rcases h91 with ⟨-, e1⟩ | ⟨n1, -, L1, e1⟩
    · exact absurd e1 g3
    · rcases h92 with ⟨-, e2⟩ | ⟨n2, -, L2, e2⟩
      · rw [e2] at g4; exact absurd g4 g3
      · rw [e1] at g3 g4
        rw [e2] at g4
        exact r.ij a' b1 w1 b2 w2 L1 L2 g3 g4
theorem RM.opn {np : Nat} {mw mo mr mt : Nat → Int32} {mn : Nat → Bool} {md : Nat → Int32} {ts ck : Nat} {op : Nat → Bool} {Mow Mtk Mdl Mrt Mwd : Nat → Int32} (r : RM np mw mo mr mt mn md ts ck op Mow Mtk Mdl Mrt Mwd) {a : Nat} : RM np mw mo mr mt mn md ts ck (updB op a true) Mow Mtk Mdl Mrt Mwd := ⟨r.ow, fun q hq => by
    rcases r.own q hq with h | ⟨a', h1, h2, h3⟩
    · exact Or.inl h
    · exact Or.inr ⟨a', h1, h2, upT h3⟩, r.tk, r.dy, r.d0, r.rt, r.wd⟩
theorem RO.opn {os : Nat → Int32} {ol : Nat} {op : Nat → Bool} {l2 : Nat → Nat} {Mst : Nat → Int32} (r : RO os ol op l2 Mst) {a : Nat} : RO os ol (updB op a true) l2 Mst := ⟨r.st, fun j hj => by
    obtain ⟨a', h1, h2, h3, h4⟩ := r.os j hj
    exact ⟨a', h1, h2, upT h3, h4⟩, r.ij⟩
/-- an application's pages go -/
theorem RM.cls {np : Nat} {mw mo mr mt : Nat → Int32} {mn : Nat → Bool} {md : Nat → Int32} {ts ck : Nat} {op : Nat → Bool} {Mow Mtk Mdl Mrt Mwd : Nat → Int32} (r : RM np mw mo mr mt mn md ts ck op Mow Mtk Mdl Mrt Mwd) {a : Nat} (ha : a < 6) : RM np mw (fgO mo (nI a) np) (fgR mo mr (nI a) a np) mt (fgN mo mn (nI a) np) md ts ck (updB op a false) (fgO Mow (nI a) np) Mtk (fgD Mow Mdl (nI a) np) (fgR Mow Mrt (nI a) a np) Mwd := by
  refine ⟨fun q hq => ?_, fun q hq => ?_, fun q hq hne => ?_, fun q hq hn => ?_, fun q hq hn => ?_, fun t ht => ?_, r.wd⟩
  · show (if q < np ∧ Mow q = nI a then (-1 : Int32) else Mow q) = (if q < np ∧ mo q = nI a then (-1 : Int32) else mo q)
    rw [r.ow q hq]
  · show (if q < np ∧ mo q = nI a then (-1 : Int32) else mo q) = -1 ∨ _
    by_cases c : q < np ∧ mo q = nI a
    · exact Or.inl (if_pos c)
    · rcases r.own q hq with h | ⟨a', h1, h2, h3⟩
      · exact Or.inl (by rw [if_neg c]; exact h)
      · refine Or.inr ⟨a', h1, ?_, by rw [updB_ne (fun e9 => c ⟨hq, by rw [h2, e9]⟩)]; exact h3⟩
        show (if q < np ∧ mo q = nI a then (-1 : Int32) else mo q) = _
        rw [if_neg c]; exact h2
  · refine r.tk q hq (fun e9 => hne ?_)
    show (if q < np ∧ mo q = nI a then (-1 : Int32) else mo q) = -1
    split
    · rfl
    · exact e9
  · have hn : (if q < np ∧ mo q = nI a then false else mn q) = true := hn
    by_cases c : q < np ∧ mo q = nI a
    · rw [if_pos c] at hn; cases hn
    · rw [if_neg c] at hn
      obtain ⟨h1, h2, h3⟩ := r.dy q hq hn
      refine ⟨?_, ?_, h3⟩
      · show ¬ (if q < np ∧ mo q = nI a then (-1 : Int32) else mo q) = -1
        rw [if_neg c]; exact h1
      · show (if q < np ∧ Mow q = nI a then (0 : Int32) else Mdl q) = md q
        rw [r.ow q hq, if_neg c]; exact h2
  · have hn : (if q < np ∧ mo q = nI a then false else mn q) = false := hn
    show (if q < np ∧ Mow q = nI a then (0 : Int32) else Mdl q) = 0
    rw [r.ow q hq]
    by_cases c : q < np ∧ mo q = nI a
    · rw [if_pos c]
    · rw [if_neg c] at hn ⊢
      exact r.d0 q hq hn
  · show (if t / 6 < np ∧ (Mow (t / 6) = nI a ∨ t % 6 = a) then (0 : Int32) else Mrt t) = (if t / 6 < np ∧ (mo (t / 6) = nI a ∨ t % 6 = a) then (0 : Int32) else mr t) ∧ ((if t / 6 < np ∧ (mo (t / 6) = nI a ∨ t % 6 = a) then (0 : Int32) else mr t) = nI 0 ∨ (if t / 6 < np ∧ (mo (t / 6) = nI a ∨ t % 6 = a) then (0 : Int32) else mr t) = nI 1 ∨ (if t / 6 < np ∧ (mo (t / 6) = nI a ∨ t % 6 = a) then (0 : Int32) else mr t) = nI 2)
    rw [r.ow (t / 6) (by omega), (r.rt t ht).1]
    refine ⟨rfl, ?_⟩
    split
    · exact Or.inl rfl
    · exact (r.rt t ht).2
/-- an application's blocks go -/
theorem RD.cls {nb : Nat} {dw dn : Nat → Int32} {op mp : Nat → Bool} {fi lk : Nat → Nat} {Mho Mwo : Nat → Int32} (r : RD nb dw dn op mp fi lk Mho Mwo) {a : Nat} (ha : a < 6) : RD nb dw (frA dn (nI a) nb) (updB op a false) mp fi lk (frA Mho (nI a) nb) Mwo := by
  have hfr : ∀ b a', a' < 6 → frA dn (nI a) nb b = nI a' → dn b = nI a' ∧ ¬ (b < nb ∧ dn b = nI a) := fun b a' h1 h2 => by
    have h2 : (if b < nb ∧ dn b = nI a then (-1 : Int32) else dn b) = nI a' := h2
    by_cases c : b < nb ∧ dn b = nI a
    · rw [if_pos c] at h2; exact absurd h2.symm (nI_nem1 (by omega))
    · rw [if_neg c] at h2; exact ⟨h2, c⟩
  refine r.gen (fun b hb => ?_) (fun b hb => ?_) (fun b a' h1 h2 h3 h4 => ⟨(hfr b a' h2 h4).1, fun _ _ => ⟨rfl, rfl⟩⟩) (fun b g a' h1 h2 h3 h4 h5 h6 => ?_)
  · show (if b < nb ∧ Mho b = nI a then (-1 : Int32) else Mho b) = (if b < nb ∧ dn b = nI a then (-1 : Int32) else dn b)
    rw [r.ho b hb]
  · by_cases c : b < nb ∧ dn b = nI a
    · exact Or.inl (if_pos c)
    · rcases r.own b hb with h | ⟨a', h1, h2, h3⟩
      · exact Or.inl ((if_neg c).trans h)
      · exact Or.inr ⟨a', h1, (if_neg c).trans h2, by rw [updB_ne (fun e9 => c ⟨hb, by rw [h2, e9]⟩)]; exact h3⟩
  · obtain ⟨g1, g2⟩ := hfr b a' h3 h5
    exact (if_neg (fun q => g2 ⟨h1, by rw [g1, ← q.2]; exact h6.symm⟩)).trans h6
set_option maxHeartbeats 4000000 in
set_option maxRecDepth 20000 in
theorem op_open {l : Launch} {L : Nat} {xs : Nat → Int32} {h : pz_H} {z n : Nat} (x : Int32) (m : Bool) (f c : Int32) (hn : n < 4000) (s : ST h n) : OPS l L xs M_K_open M_Mo_open 2 2 [.int x, .int (pb m), .int f, .int c] h z n := by
  obtain ⟨np, nb, mw, mo, mr, mt, mn, md, ts, ck, dw, dn, os, ol, fb, f13, lost, dr, fl, op, mp, fi, lk, pp, pl, pe, qb, qn, qf, ql, td, tl, c1, o1, y1, n1, l1, c2, o2, y2, n2, l2, sa, sx, Mfi, Mlk, Mow, Mtk, Mdl, Mrt, Mwd, Mgo, Mgm, Mln, Mcd, Mst, Mfm, Mfs, Mfl, Mfb, Mho, Mwo, Mda, Men, Mke, Mva, k, e, r⟩ := s
  have hnb := k.nb32
  have hfb : ff (fun j => !decide (0 ≤ Mho j)) nb 0 = ff (fun j => decide (dn j = -1)) nb 0 := ff_congr nb 0 (fun j _ hj => by show (!decide (0 ≤ Mho j)) = decide (dn j = -1); rw [r.rd.ho j (by omega)]; exact fre (P := fun a => op a = true) (r.rd.own j (by omega)))
  cases ho : opg op x m f c with
  | false => exact OPS.nn k e r (c_K_open_no k.hK k.hap x f c m ho) (c_Mo_open_no e.hMo k.np32 k.nb32 e.hOp e.hIm e.hFi e.hLi e.hGm e.hLn e.hFs e.hHo e.hWo e.hEn x f c m ho)
  | true =>
    obtain ⟨a, ha, rfl, hcl, hm9⟩ := opg_e ho
    have q9 := r.ra a ha
    have h0q := q9.q0 hcl
    have ht0 := q9.t0 (fun h9 => by rw [hcl] at h9; exact absurd h9.1 (by decide))
    have hl0 := q9.l0 hcl
    have hG := (k.ap a ha).2.1
    by_cases hbb : ff (fun j => decide (dn j = -1)) nb 0 < nb
    · obtain ⟨bb, hbe⟩ : ∃ bb, bb = ff (fun j => decide (dn j = -1)) nb 0 := ⟨_, rfl⟩
      have hbf : dn bb = -1 := of_decide_eq_true (by rw [hbe]; exact ff_is (fun j => decide (dn j = -1)) nb 0 (by omega))
      rw [← hbe] at hbb
      cases m with
      | true =>
        refine OPS.ch2 (c_K_open_map k.hK k.hap k.hd ha f c hcl hG hbe hbb) (fun h1 hp => ?_) (fun h1 (k1 : KER h1 np nb mw mo mr mt mn md ts ck (fil dw (lkw bb 0 0) (bb * 8) 8) (upd dn bb (nI a)) os ol fb f13 lost dr fl (updB op a true) (updB mp a true) (va_up fi a 0) (va_up lk a 0) pp (va_up pl a 0) (va_up pe a 0) qb qn qf ql td tl c1 o1 y1 n1 l1 c2 o2 y2 n2 l2) (e1 : MOD h1 np nb ck ts lost ol f13 op mp sa sx Mfi Mlk Mow Mtk Mdl Mrt Mwd Mgo Mgm Mln Mcd Mst Mfm Mfs Mfl Mfb Mho Mwo Mda Men Mke Mva) => c_Mo_open_map e1.hMo k.np32 k.nb32 e1.hOp e1.hIm e1.hFi e1.hLi e1.hGm e1.hLn e1.hFs e1.hHo e1.hWo e1.hEn ha hcl f c (hbe.trans hfb.symm) hbb) (fun h1 h2 k1 e1 hp2 => ?_)
        · obtain ⟨hA, hg, hd, hf⟩ := hp
          have hap1 : ∀ i, i < 6 → APP i h1 (dr i) (fl i) ((updB op a true) i) ((updB mp a true) i) ((va_up fi a 0) i) ((va_up lk a 0) i) (pp i) ((va_up pl a 0) i) ((va_up pe a 0) i) (qb i) (qn i) (qf i) (ql i) (td i) (tl i) (c1 i) (o1 i) (y1 i) (n1 i) (l1 i) (c2 i) (o2 i) (y2 i) (n2 i) (l2 i) := by
            intro i hi
            by_cases e9 : i = a
            · subst e9; simp only [va_eq, updB_eq]; obtain ⟨m1, m2, m3, m4, m5, m6, m7⟩ := k.ap i hi; exact ⟨hA, hg, m3.on (fun c h1 h2 => hf c (by omega) (by omega)), m4.on (fun c h1 h2 => hf c (by omega) (by omega)), m5.on (fun c h1 h2 => hf c (by omega) (by omega)), m6.on (fun c h1 h2 => hf c (by omega) (by omega)), m7⟩
            · simp only [va_ne e9, updB_ne e9]; exact (k.ap i hi).on (fun c h1 h2 => hf c (by omega) (by omega))
          have k1 : KER h1 np nb mw mo mr mt mn md ts ck (fil dw (lkw bb 0 0) (bb * 8) 8) (upd dn bb (nI a)) os ol fb f13 lost dr fl (updB op a true) (updB mp a true) (va_up fi a 0) (va_up lk a 0) pp (va_up pl a 0) (va_up pe a 0) qb qn qf ql td tl c1 o1 y1 n1 l1 c2 o2 y2 n2 l2 := ⟨k.hK.on (fun c h1 h2 => hf c (by omega) (by omega)) (fun c h1 h2 => hf c (by omega) (by omega)), k.hm.on (fun c h1 h2 => hf c (by omega) (by omega)), hd, k.ho.on (fun c h1 h2 => hf c (by omega) (by omega)), k.hr.on (fun c h1 h2 => hf c (by omega) (by omega)), hap1⟩
          have e1 : MOD h1 np nb ck ts lost ol f13 op mp sa sx Mfi Mlk Mow Mtk Mdl Mrt Mwd Mgo Mgm Mln Mcd Mst Mfm Mfs Mfl Mfb Mho Mwo Mda Men Mke Mva := e.mv (fun c hc => hf c (by omega) (by omega))
          exact ⟨⟨_, k1.hK.1⟩, ⟨_, e1.hMo⟩, k1, e1⟩
        · obtain ⟨hOp, hIm, hFi, hLi, hGm, hLn, hFs, hHo, hWo, hEn, hf2⟩ := hp2
          have hR : REL np nb mw mo mr mt mn md ts ck (fil dw (lkw bb 0 0) (bb * 8) 8) (upd dn bb (nI a)) os ol fb f13 lost dr fl (updB op a true) (updB mp a true) (va_up fi a 0) (va_up lk a 0) pp (va_up pl a 0) (va_up pe a 0) qb qn qf ql td tl c1 o1 y1 n1 l1 c2 o2 y2 n2 l2 sa sx (upd Mfi a f) (upd Mlk a c) Mow Mtk Mdl Mrt Mwd Mgo (va_up Mgm a 0) (va_up Mln a 0) Mcd Mst Mfm (va_up Mfs a 0) Mfl Mfb (upd Mho bb (nI a)) (fil Mwo (lkw bb 0 0) (bb * 8) 8) Mda (va_up Men a 0) Mke Mva (n + 1) := by
            have ob : ∀ b a', a' < 6 → dn b = nI a' → b ≠ bb := fun b a' h1 h2 h3 => by rw [h3, hbf] at h2; exact nI_nem1 (by omega) h2.symm
            refine ⟨(by have := r.tsn; omega), (by have := r.ckn; omega), (r.rm.opn), (r.rd.opn ha hcl hbb hbf (by omega)), (r.ro.opn), (r.rf), (fun i hi => ?_)⟩
            by_cases e9 : i = a
            · subst e9
              have q := q9
              simp only [va_eq, updB_eq]
              exact ⟨(fun _ h9 => absurd h9 (by decide)), (va_eq), (fun k hk => absurd hk (Nat.not_lt_zero _)), (fun h9 => absurd h9 (by decide)), (fun _ => by rw [va_eq, h0q]), (fun _ k hk => absurd hk (by omega)), (fun _ k hk => absurd hk (by omega)), (fun _ => ht0), (fun _ _ => by rw [va_eq, ht0]), (fun _ _ j hj => absurd hj (by omega)), (fun _ _ i j hi => absurd hi (by omega)), (fun _ _ j hj => absurd hj (by omega)), (fun _ => by rw [va_eq, hl0]), (fun h9 => absurd h9 (by decide)), (fun _ => by rw [hl0]; exact PRL.zero), q.yf, q.pf, q.sf⟩
            · simp only [va_ne e9, updB_ne e9]
              exact (r.ra i hi).cg (k.ap i hi) (upd_ne e9) (upd_ne e9) (fun _ _ => rfl) (va_ne e9) (va_ne e9) (fun _ _ => rfl) (fun _ _ => rfl) (va_ne e9) (fun _ _ => rfl) (fun _ _ _ _ => rfl) (fun _ _ => rfl) (va_ne e9) (fun _ _ => rfl) (fun _ _ => rfl) (fun h1 h2 b0 hb0 hd0 => by have n9 := ob b0 i hi hd0; exact ⟨by rw [upd_ne n9]; exact hd0, fun w hw => fil_o (by omega)⟩)
          exact ST.mk (k1.mv (hf2.lo (by decide))) ⟨MOB.mv e1.hMo (hf2 166 (by decide)), hOp, hIm, hFi, hLi, (hf2 171 (by decide)).trans e1.hOw, (hf2 172 (by decide)).trans e1.hTk, (hf2 173 (by decide)).trans e1.hDl, (hf2 174 (by decide)).trans e1.hRt, (hf2 175 (by decide)).trans e1.hWd, (hf2 176 (by decide)).trans e1.hGo, hGm, hLn, (hf2 179 (by decide)).trans e1.hCd, (hf2 180 (by decide)).trans e1.hSt, (hf2 181 (by decide)).trans e1.hFm, hFs, (hf2 183 (by decide)).trans e1.hFl, (hf2 184 (by decide)).trans e1.hFb, hHo, hWo, (hf2 187 (by decide)).trans e1.hDa, hEn, (hf2 189 (by decide)).trans e1.hKe, (hf2 190 (by decide)).trans e1.hVa⟩ hR
      | false =>
        obtain ⟨f', c', hf8, hfc, rfl, rfl, hlay⟩ := hm9.resolve_left (by decide)
        refine OPS.ch2 (c_K_open_raw k.hK k.hap k.hd ha f' c' hlay hfc hcl hG hbe hbb) (fun h1 hp => ?_) (fun h1 (k1 : KER h1 np nb mw mo mr mt mn md ts ck (fil dw (lkw bb f' c') (bb * 8) 8) (upd dn bb (nI a)) os ol fb f13 lost dr fl (updB op a true) (updB mp a false) (va_up fi a f') (va_up lk a c') pp (va_up pl a 0) (va_up pe a 0) qb qn qf ql td tl c1 o1 y1 n1 l1 c2 o2 y2 n2 l2) (e1 : MOD h1 np nb ck ts lost ol f13 op mp sa sx Mfi Mlk Mow Mtk Mdl Mrt Mwd Mgo Mgm Mln Mcd Mst Mfm Mfs Mfl Mfb Mho Mwo Mda Men Mke Mva) => c_Mo_open_raw e1.hMo k.np32 k.nb32 e1.hOp e1.hIm e1.hFi e1.hLi e1.hGm e1.hLn e1.hFs e1.hHo e1.hWo e1.hEn ha hcl hf8 hfc (hbe.trans hfb.symm) hbb) (fun h1 h2 k1 e1 hp2 => ?_)
        · obtain ⟨hA, hg, hd, hf⟩ := hp
          have hap1 : ∀ i, i < 6 → APP i h1 (dr i) (fl i) ((updB op a true) i) ((updB mp a false) i) ((va_up fi a f') i) ((va_up lk a c') i) (pp i) ((va_up pl a 0) i) ((va_up pe a 0) i) (qb i) (qn i) (qf i) (ql i) (td i) (tl i) (c1 i) (o1 i) (y1 i) (n1 i) (l1 i) (c2 i) (o2 i) (y2 i) (n2 i) (l2 i) := by
            intro i hi
            by_cases e9 : i = a
            · subst e9; simp only [va_eq, updB_eq]; obtain ⟨m1, m2, m3, m4, m5, m6, m7⟩ := k.ap i hi; exact ⟨hA, hg, m3.on (fun c h1 h2 => hf c (by omega) (by omega)), m4.on (fun c h1 h2 => hf c (by omega) (by omega)), m5.on (fun c h1 h2 => hf c (by omega) (by omega)), m6.on (fun c h1 h2 => hf c (by omega) (by omega)), m7⟩
            · simp only [va_ne e9, updB_ne e9]; exact (k.ap i hi).on (fun c h1 h2 => hf c (by omega) (by omega))
          have k1 : KER h1 np nb mw mo mr mt mn md ts ck (fil dw (lkw bb f' c') (bb * 8) 8) (upd dn bb (nI a)) os ol fb f13 lost dr fl (updB op a true) (updB mp a false) (va_up fi a f') (va_up lk a c') pp (va_up pl a 0) (va_up pe a 0) qb qn qf ql td tl c1 o1 y1 n1 l1 c2 o2 y2 n2 l2 := ⟨k.hK.on (fun c h1 h2 => hf c (by omega) (by omega)) (fun c h1 h2 => hf c (by omega) (by omega)), k.hm.on (fun c h1 h2 => hf c (by omega) (by omega)), hd, k.ho.on (fun c h1 h2 => hf c (by omega) (by omega)), k.hr.on (fun c h1 h2 => hf c (by omega) (by omega)), hap1⟩
          have e1 : MOD h1 np nb ck ts lost ol f13 op mp sa sx Mfi Mlk Mow Mtk Mdl Mrt Mwd Mgo Mgm Mln Mcd Mst Mfm Mfs Mfl Mfb Mho Mwo Mda Men Mke Mva := e.mv (fun c hc => hf c (by omega) (by omega))
          exact ⟨⟨_, k1.hK.1⟩, ⟨_, e1.hMo⟩, k1, e1⟩
        · obtain ⟨hOp, hIm, hFi, hLi, hGm, hLn, hFs, hHo, hWo, hEn, hf2⟩ := hp2
          have hR : REL np nb mw mo mr mt mn md ts ck (fil dw (lkw bb f' c') (bb * 8) 8) (upd dn bb (nI a)) os ol fb f13 lost dr fl (updB op a true) (updB mp a false) (va_up fi a f') (va_up lk a c') pp (va_up pl a 0) (va_up pe a 0) qb qn qf ql td tl c1 o1 y1 n1 l1 c2 o2 y2 n2 l2 sa sx (upd Mfi a (nI f')) (upd Mlk a (nI c')) Mow Mtk Mdl Mrt Mwd Mgo (va_up Mgm a 0) (va_up Mln a 0) Mcd Mst Mfm (va_up Mfs a 0) Mfl Mfb (upd Mho bb (nI a)) (fil Mwo (lkw bb f' c') (bb * 8) 8) Mda (va_up Men a 0) Mke Mva (n + 1) := by
            have ob : ∀ b a', a' < 6 → dn b = nI a' → b ≠ bb := fun b a' h1 h2 h3 => by rw [h3, hbf] at h2; exact nI_nem1 (by omega) h2.symm
            refine ⟨(by have := r.tsn; omega), (by have := r.ckn; omega), (r.rm.opn), (r.rd.opn ha hcl hbb hbf (by omega)), (r.ro.opn), (r.rf), (fun i hi => ?_)⟩
            by_cases e9 : i = a
            · subst e9
              have q := q9
              simp only [va_eq, updB_eq]
              exact ⟨(fun _ h9 => ⟨upd_eq _ _ _, upd_eq _ _ _⟩), (va_eq), (fun k hk => absurd hk (Nat.not_lt_zero _)), (fun h9 => absurd h9 (by decide)), (fun _ => by rw [va_eq, h0q]), (fun _ k hk => absurd hk (by omega)), (fun _ k hk => absurd hk (by omega)), (fun _ => ht0), (fun _ _ => by rw [va_eq, ht0]), (fun _ _ j hj => absurd hj (by omega)), (fun _ _ i j hi => absurd hi (by omega)), (fun _ _ j hj => absurd hj (by omega)), (fun _ => by rw [va_eq, hl0]), (fun h9 => absurd h9 (by decide)), (fun _ => by rw [hl0]; exact PRL.zero), q.yf, q.pf, q.sf⟩
            · simp only [va_ne e9, updB_ne e9]
              exact (r.ra i hi).cg (k.ap i hi) (upd_ne e9) (upd_ne e9) (fun _ _ => rfl) (va_ne e9) (va_ne e9) (fun _ _ => rfl) (fun _ _ => rfl) (va_ne e9) (fun _ _ => rfl) (fun _ _ _ _ => rfl) (fun _ _ => rfl) (va_ne e9) (fun _ _ => rfl) (fun _ _ => rfl) (fun h1 h2 b0 hb0 hd0 => by have n9 := ob b0 i hi hd0; exact ⟨by rw [upd_ne n9]; exact hd0, fun w hw => fil_o (by omega)⟩)
          exact ST.mk (k1.mv (hf2.lo (by decide))) ⟨MOB.mv e1.hMo (hf2 166 (by decide)), hOp, hIm, hFi, hLi, (hf2 171 (by decide)).trans e1.hOw, (hf2 172 (by decide)).trans e1.hTk, (hf2 173 (by decide)).trans e1.hDl, (hf2 174 (by decide)).trans e1.hRt, (hf2 175 (by decide)).trans e1.hWd, (hf2 176 (by decide)).trans e1.hGo, hGm, hLn, (hf2 179 (by decide)).trans e1.hCd, (hf2 180 (by decide)).trans e1.hSt, (hf2 181 (by decide)).trans e1.hFm, hFs, (hf2 183 (by decide)).trans e1.hFl, (hf2 184 (by decide)).trans e1.hFb, hHo, hWo, (hf2 187 (by decide)).trans e1.hDa, hEn, (hf2 189 (by decide)).trans e1.hKe, (hf2 190 (by decide)).trans e1.hVa⟩ hR
    · cases m with
      | true => exact OPS.nn k e r (c_K_open_full_map k.hK k.hap k.hd ha f c hcl hbb) (c_Mo_open_full_map e.hMo k.np32 k.nb32 e.hOp e.hIm e.hFi e.hLi e.hGm e.hLn e.hFs e.hHo e.hWo e.hEn ha hcl f c (by rw [hfb]; exact hbb))
      | false =>
        obtain ⟨f', c', hf8, hfc, rfl, rfl, hlay⟩ := hm9.resolve_left (by decide)
        exact OPS.nn k e r (c_K_open_full_raw k.hK k.hap k.hd ha f' c' hlay hfc hcl hbb) (c_Mo_open_full_raw e.hMo k.np32 k.nb32 e.hOp e.hIm e.hFi e.hLi e.hGm e.hLn e.hFs e.hHo e.hWo e.hEn ha hcl hf8 hfc (by rw [hfb]; exact hbb))
set_option maxHeartbeats 4000000 in
set_option maxRecDepth 20000 in
theorem op_close {l : Launch} {L : Nat} {xs : Nat → Int32} {h : pz_H} {z n : Nat} (x : Int32) (hn : n < 4000) (s : ST h n) : OPS l L xs M_K_close M_Mo_close 3 2 [.int x] h z n := by
  obtain ⟨np, nb, mw, mo, mr, mt, mn, md, ts, ck, dw, dn, os, ol, fb, f13, lost, dr, fl, op, mp, fi, lk, pp, pl, pe, qb, qn, qf, ql, td, tl, c1, o1, y1, n1, l1, c2, o2, y2, n2, l2, sa, sx, Mfi, Mlk, Mow, Mtk, Mdl, Mrt, Mwd, Mgo, Mgm, Mln, Mcd, Mst, Mfm, Mfs, Mfl, Mfb, Mho, Mwo, Mda, Men, Mke, Mva, k, e, r⟩ := s
  cases ho : opn op x with
  | false => exact OPS.nn k e r (c_K_close_no k.hK k.hap x ho) (c_Mo_close_no e.hMo k.np32 k.nb32 e.hOp e.hOw e.hDl e.hRt e.hSt e.hHo x ho)
  | true =>
    obtain ⟨a, ha, hop, rfl⟩ := opn_N ho
    have hol := k.ho.2.2
    obtain ⟨m1, m2, m3, m4, m5, m6, m7⟩ := k.ap a ha
    obtain ⟨hw1, hw2⟩ := r.ro.wst (nI a)
    have hM : ∀ (h1 : pz_H), MOD h1 np nb ck ts lost ol f13 op mp sa sx Mfi Mlk Mow Mtk Mdl Mrt Mwd Mgo Mgm Mln Mcd Mst Mfm Mfs Mfl Mfb Mho Mwo Mda Men Mke Mva → pz_K l L xs M_Mo_close 2 0 0 [.ref 166, .int (nI a)] h1 z (fun v' h' z' => v' = some (.int (nI 0)) ∧ z = z' ∧ MOB h' np nb ck ts lost (drl os ol (nI a)) f13 sa sx ∧ AB h' 167 6 (updB op a false) ∧ AI h' 171 32 (fgO Mow (nI a) np) ∧ AI h' 173 32 (fgD Mow Mdl (nI a) np) ∧ AI h' 174 192 (fgR Mow Mrt (nI a) a np) ∧ AI h' 180 6 (wst Mst (nI a) ol).1 ∧ AI h' 185 32 (frA Mho (nI a) nb) ∧ frx [166, 167, 171, 173, 174, 180, 185] h1 h') := fun h1 e1 => by
      have h9 := c_Mo_close_ok e1.hMo k.np32 k.nb32 e1.hOp e1.hOw e1.hDl e1.hRt e1.hSt e1.hHo (l := l) (L := L) (xs := xs) (z := z) ha hop hol
      rw [hw1] at h9
      exact h9
    refine OPS.ch2 (c_K_close_k k.hK k.hap k.hm k.hd k.ho ha ho m7 m5 m6 m3 m4) (fun h1 hp => ?_) (fun h1 (k1 : KER h1 np nb mw (fgO mo (nI a) np) (fgR mo mr (nI a) a np) mt (fgN mo mn (nI a) np) md ts ck dw (frA dn (nI a) nb) (dro os ol (nI a)) (drl os ol (nI a)) fb f13 lost dr fl (updB op a false) mp fi lk pp pl pe qb qn qf (va_up ql a 0) td (va_up tl a 0) c1 o1 y1 n1 (va_up l1 a 0) c2 o2 y2 n2 (va_up l2 a 0)) (e1 : MOD h1 np nb ck ts lost ol f13 op mp sa sx Mfi Mlk Mow Mtk Mdl Mrt Mwd Mgo Mgm Mln Mcd Mst Mfm Mfs Mfl Mfb Mho Mwo Mda Men Mke Mva) => hM h1 e1) (fun h1 h2 k1 e1 hp2 => ?_)
    · obtain ⟨hm9, hd9, ho9, hA, hp1, hp2, hq9, ht9, hk9, hf⟩ := hp
      have hap1 : ∀ i, i < 6 → APP i h1 (dr i) (fl i) ((updB op a false) i) (mp i) (fi i) (lk i) (pp i) (pl i) (pe i) (qb i) (qn i) (qf i) ((va_up ql a 0) i) (td i) ((va_up tl a 0) i) (c1 i) (o1 i) (y1 i) (n1 i) ((va_up l1 a 0) i) (c2 i) (o2 i) (y2 i) (n2 i) ((va_up l2 a 0) i) := by
        intro i hi
        by_cases e9 : i = a
        · subst e9; simp only [va_eq, updB_eq]; obtain ⟨m1, m2, m3, m4, m5, m6, m7⟩ := k.ap i hi; exact ⟨hA, m2.on (fun c h1 h2 => hk9 c (by omega) (by omega)), hq9, ht9, hp1, hp2, m7⟩
        · simp only [va_ne e9, updB_ne e9]; exact (k.ap i hi).on (fun c h1 h2 => hf c (by omega) (by omega))
      have k1 : KER h1 np nb mw (fgO mo (nI a) np) (fgR mo mr (nI a) a np) mt (fgN mo mn (nI a) np) md ts ck dw (frA dn (nI a) nb) (dro os ol (nI a)) (drl os ol (nI a)) fb f13 lost dr fl (updB op a false) mp fi lk pp pl pe qb qn qf (va_up ql a 0) td (va_up tl a 0) c1 o1 y1 n1 (va_up l1 a 0) c2 o2 y2 n2 (va_up l2 a 0) := ⟨k.hK.on (fun c h1 h2 => hf c (by omega) (by omega)) (fun c h1 h2 => hf c (by omega) (by omega)), hm9, hd9, ho9, k.hr.on (fun c h1 h2 => hf c (by omega) (by omega)), hap1⟩
      have e1 : MOD h1 np nb ck ts lost ol f13 op mp sa sx Mfi Mlk Mow Mtk Mdl Mrt Mwd Mgo Mgm Mln Mcd Mst Mfm Mfs Mfl Mfb Mho Mwo Mda Men Mke Mva := e.mv (fun c hc => hf c (by omega) (by omega))
      exact ⟨⟨_, k1.hK.1⟩, ⟨_, e1.hMo⟩, k1, e1⟩
    · obtain ⟨hMo, hOp, hOw, hDl, hRt, hSt, hHo, hf2⟩ := hp2
      have hR : REL np nb mw (fgO mo (nI a) np) (fgR mo mr (nI a) a np) mt (fgN mo mn (nI a) np) md ts ck dw (frA dn (nI a) nb) (dro os ol (nI a)) (drl os ol (nI a)) fb f13 lost dr fl (updB op a false) mp fi lk pp pl pe qb qn qf (va_up ql a 0) td (va_up tl a 0) c1 o1 y1 n1 (va_up l1 a 0) c2 o2 y2 n2 (va_up l2 a 0) sa sx Mfi Mlk (fgO Mow (nI a) np) Mtk (fgD Mow Mdl (nI a) np) (fgR Mow Mrt (nI a) a np) Mwd Mgo Mgm Mln Mcd (wst Mst (nI a) ol).1 Mfm Mfs Mfl Mfb (frA Mho (nI a) nb) Mwo Mda Men Mke Mva (n + 1) := by
        refine ⟨(by have := r.tsn; omega), (by have := r.ckn; omega), (r.rm.cls ha), (r.rd.cls ha), ((r.ro.drop (a := a) (op' := updB op a false) (l2' := va_up l2 a 0) (Mst' := (wst Mst (nI a) ol).1) hw2 (fun i hi => ⟨updB_ne hi, va_ne hi⟩)).1), (r.rf), (fun i hi => ?_)⟩
        by_cases e9 : i = a
        · subst e9
          have q := r.ra i hi
          simp only [va_eq, updB_eq]
          exact ⟨(fun h9 => absurd h9 (by decide)), q.gm, q.go, (fun _ => rfl), (fun h9 => absurd h9 (by decide)), (fun h9 => absurd h9 (by decide)), (fun h9 => absurd h9 (by decide)), (fun _ => rfl), (fun h9 => absurd h9 (by decide)), (fun h9 => absurd h9 (by decide)), (fun h9 => absurd h9 (by decide)), (fun h9 => absurd h9 (by decide)), (fun h9 => absurd h9 (by decide)), (fun _ => rfl), (fun h9 => absurd h9 (by decide)), (fun j hj => absurd hj (Nat.not_lt_zero _)), (fun h9 => absurd h9 (Nat.lt_irrefl _)), (fun h9 => absurd h9 (Nat.lt_irrefl _))⟩
        · simp only [va_ne e9, updB_ne e9]
          exact (r.ra i hi).cg (k.ap i hi) rfl rfl (fun _ _ => rfl) rfl rfl (fun _ _ => rfl) (fun _ _ => rfl) rfl (fun _ _ => rfl) (fun _ _ _ _ => rfl) (fun _ _ => rfl) rfl (fun _ _ => rfl) (fun _ _ => rfl) (fun h1 h2 b0 hb0 hd0 => ⟨(if_neg (fun q => nI_ne hi ha e9 (hd0.symm.trans q.2))).trans hd0, fun _ _ => rfl⟩)
      exact ST.mk (k1.mv (hf2.lo (by decide))) ⟨hMo, hOp, (hf2 168 (by decide)).trans e1.hIm, (hf2 169 (by decide)).trans e1.hFi, (hf2 170 (by decide)).trans e1.hLi, hOw, (hf2 172 (by decide)).trans e1.hTk, hDl, hRt, (hf2 175 (by decide)).trans e1.hWd, (hf2 176 (by decide)).trans e1.hGo, (hf2 177 (by decide)).trans e1.hGm, (hf2 178 (by decide)).trans e1.hLn, (hf2 179 (by decide)).trans e1.hCd, hSt, (hf2 181 (by decide)).trans e1.hFm, (hf2 182 (by decide)).trans e1.hFs, (hf2 183 (by decide)).trans e1.hFl, (hf2 184 (by decide)).trans e1.hFb, hHo, (hf2 186 (by decide)).trans e1.hWo, (hf2 187 (by decide)).trans e1.hDa, (hf2 188 (by decide)).trans e1.hEn, (hf2 189 (by decide)).trans e1.hKe, (hf2 190 (by decide)).trans e1.hVa⟩ hR
