/-! calls on both: take, release, share, store, fetch -/
theorem upd_c {f g : Nat → Int32} {k p : Nat} {x : Int32} (h : f p = g p) : upd f k x p = upd g k x p := by
  unfold upd
  split
  · rfl
  · exact h
theorem fil_c {f g u : Nat → Int32} {lo k p : Nat} (h : f p = g p) : fil f u lo k p = fil g u lo k p := by
  unfold fil
  split
  · rfl
  · exact h
theorem fre {v : Int32} {P : Nat → Prop} (h : v = -1 ∨ ∃ a, a < 6 ∧ v = nI a ∧ P a) : (!decide (0 ≤ v)) = decide (v = -1) := by
  rcases h with rfl | ⟨a, ha, rfl, -⟩
  · decide
  · rw [decide_eq_true (nI_nn (by omega)), decide_eq_false (nI_nem1 (by omega))]; rfl
theorem own_c {op : Nat → Bool} {mo Mow : Nat → Int32} {np : Nat} {x y : Int32} (hn : np ≤ 32) (ho : ∀ q, q < np → Mow q = mo q) : own op Mow np x y = own op mo np x y := by
  unfold own
  cases h1 : inn y np with
  | false => simp
  | true =>
    obtain ⟨q, hq, rfl⟩ := inn_N (by omega) h1
    rw [nI_clamp (by omega), ho q hq]
theorem shg_c {op : Nat → Bool} {mo Mow : Nat → Int32} {np : Nat} {x y t r : Int32} (hn : np ≤ 32) (ho : ∀ q, q < np → Mow q = mo q) : shg op Mow np x y t r = shg op mo np x y t r := by
  unfold shg
  rw [own_c hn ho]
theorem may_c {op : Nat → Bool} {mo Mow mr Mrt : Nat → Int32} {np : Nat} {x y w r : Int32} (hn : np ≤ 32) (ho : ∀ q, q < np → Mow q = mo q) (hr : ∀ t, t < np * 6 → Mrt t = mr t) : may op Mow Mrt np x y w r = may op mo mr np x y w r := by
  unfold may
  cases h0 : opn op x with
  | false => simp
  | true =>
    obtain ⟨a, ha, -, rfl⟩ := opn_N h0
    cases h1 : inn y np with
    | false => simp
    | true =>
      obtain ⟨q, hq, rfl⟩ := inn_N (by omega) h1
      rw [nI_clamp (by omega), nI_clamp (by omega), ho q hq, hr (q * 6 + a) (by omega)]
theorem RM.free {np : Nat} {mw mo mr mt : Nat → Int32} {mn : Nat → Bool} {md : Nat → Int32} {ts ck : Nat} {op : Nat → Bool} {Mow Mtk Mdl Mrt Mwd : Nat → Int32} (r : RM np mw mo mr mt mn md ts ck op Mow Mtk Mdl Mrt Mwd) {q : Nat} (hq : q < np) : RM np mw (upd mo q (-1)) (fil mr (fun _ => 0) (q * 6) 6) mt (updB mn q false) md ts ck op (upd Mow q (-1)) Mtk (upd Mdl q (nI 0)) (fil Mrt (fun _ => 0) (q * 6) 6) Mwd := by
  refine ⟨fun p hp => upd_c (r.ow p hp), fun p hp => ?_, fun p hp hf => ?_, fun p hp hm => ?_, fun p hp hm => ?_, fun t ht => ⟨fil_c (r.rt t ht).1, ?_⟩, r.wd⟩
  · by_cases e : p = q
    · subst e; exact Or.inl (upd_eq _ _ _)
    · rw [upd_ne e]; exact r.own p hp
  · by_cases e : p = q
    · subst e; exact absurd (upd_eq _ _ _) hf
    · rw [upd_ne e] at hf; exact r.tk p hp hf
  · by_cases e : p = q
    · subst e; rw [updB_eq] at hm; cases hm
    · rw [updB_ne e] at hm; rw [upd_ne e, upd_ne e]; exact r.dy p hp hm
  · by_cases e : p = q
    · subst e; exact upd_eq _ _ _
    · rw [updB_ne e] at hm; rw [upd_ne e]; exact r.d0 p hp hm
  · unfold fil
    split
    · exact Or.inl rfl
    · exact (r.rt t ht).2
theorem RM.frees {np : Nat} {mw mo mr mt : Nat → Int32} {mn : Nat → Bool} {md : Nat → Int32} {ts ck : Nat} {op : Nat → Bool} {Mow Mtk Mdl Mrt Mwd : Nat → Int32} (r : RM np mw mo mr mt mn md ts ck op Mow Mtk Mdl Mrt Mwd) {q : Nat} (hq : q < np) : (fun j => !decide (0 ≤ Mow j)) q = (fun j => decide (mo j = -1)) q := by
  show (!decide (0 ≤ Mow q)) = decide (mo q = -1)
  rw [r.ow q hq]
  exact fre (P := fun a => op a = true) (r.own q hq)
set_option maxHeartbeats 4000000 in
set_option maxRecDepth 20000 in
theorem op_take {l : Launch} {L : Nat} {xs : Nat → Int32} {h : pz_H} {z n : Nat} (x : Int32) (hn : n < 4000) (s : ST h n) : OPS l L xs M_K_take M_Mo_take 3 2 [.int x] h z n := by
  obtain ⟨np, nb, mw, mo, mr, mt, mn, md, ts, ck, dw, dn, os, ol, fb, f13, lost, dr, fl, op, mp, fi, lk, pp, pl, pe, qb, qn, qf, ql, td, tl, c1, o1, y1, n1, l1, c2, o2, y2, n2, l2, sa, sx, Mfi, Mlk, Mow, Mtk, Mdl, Mrt, Mwd, Mgo, Mgm, Mln, Mcd, Mst, Mfm, Mfs, Mfl, Mfb, Mho, Mwo, Mda, Men, Mke, Mva, k, e, r⟩ := s
  cases ho : opn op x with
  | false => exact OPS.nn k e r (c_K_take_no k.hK k.hap k.hm x ho) (c_Mo_take_no e.hMo k.np32 k.nb32 e.hOp e.hOw e.hTk e.hWd x ho)
  | true =>
    obtain ⟨a, ha, hop, rfl⟩ := opn_N ho
    have hff : ff (fun j => !decide (0 ≤ Mow j)) np 0 = ff (fun j => decide (mo j = -1)) np 0 := ff_congr np 0 (fun j h1 h2 => r.rm.frees (by omega))
    by_cases hq : ff (fun j => decide (mo j = -1)) np 0 < np
    · obtain ⟨q, hqe⟩ : ∃ q, q = ff (fun j => decide (mo j = -1)) np 0 := ⟨_, rfl⟩
      rw [← hqe] at hq
      refine OPS.ch2 (c_K_take_ok k.hK k.hap k.hm (nI a) ho hqe hq) (fun h1 hp => ?_) (fun h1 (k1 : KER h1 np nb (fil mw (fun _ => 0) (q * 4) 4) (upd mo q (nI a)) mr (upd mt q (nI ts)) mn md (ts + 1) ck dw dn os ol fb f13 lost dr fl op mp fi lk pp pl pe qb qn qf ql td tl c1 o1 y1 n1 l1 c2 o2 y2 n2 l2) (e1 : MOD h1 np nb ck ts lost ol f13 op mp sa sx Mfi Mlk Mow Mtk Mdl Mrt Mwd Mgo Mgm Mln Mcd Mst Mfm Mfs Mfl Mfb Mho Mwo Mda Men Mke Mva) => c_Mo_take_ok e1.hMo k.np32 k.nb32 e1.hOp e1.hOw e1.hTk e1.hWd ha hop (hqe.trans hff.symm) hq) (fun h1 h2 k1 e1 hp2 => ?_)
      · obtain ⟨hm, hf⟩ := hp
        have k1 : KER h1 np nb (fil mw (fun _ => 0) (q * 4) 4) (upd mo q (nI a)) mr (upd mt q (nI ts)) mn md (ts + 1) ck dw dn os ol fb f13 lost dr fl op mp fi lk pp pl pe qb qn qf ql td tl c1 o1 y1 n1 l1 c2 o2 y2 n2 l2 := ⟨k.hK.on (fun c h1 h2 => hf c (by omega)) (fun c h1 h2 => hf c (by omega)), hm, k.hd.on (fun c h1 h2 => hf c (by omega)), k.ho.on (fun c h1 h2 => hf c (by omega)), k.hr.on (fun c h1 h2 => hf c (by omega)), fun i hi => (k.ap i hi).on (fun c h1 h2 => hf c (by omega))⟩
        have e1 : MOD h1 np nb ck ts lost ol f13 op mp sa sx Mfi Mlk Mow Mtk Mdl Mrt Mwd Mgo Mgm Mln Mcd Mst Mfm Mfs Mfl Mfb Mho Mwo Mda Men Mke Mva := e.mv (fun c hc => hf c (by omega))
        exact ⟨⟨_, k1.hK.1⟩, ⟨_, e1.hMo⟩, k1, e1⟩
      · obtain ⟨hMo, hOw, hTk, hWd, hf2⟩ := hp2
        have hR : REL np nb (fil mw (fun _ => 0) (q * 4) 4) (upd mo q (nI a)) mr (upd mt q (nI ts)) mn md (ts + 1) ck dw dn os ol fb f13 lost dr fl op mp fi lk pp pl pe qb qn qf ql td tl c1 o1 y1 n1 l1 c2 o2 y2 n2 l2 sa sx Mfi Mlk (upd Mow q (nI a)) (upd Mtk q (nI (ts + 1))) Mdl Mrt (fil Mwd (fun _ => 0) (q * 4) 4) Mgo Mgm Mln Mcd Mst Mfm Mfs Mfl Mfb Mho Mwo Mda Men Mke Mva (n + 1) := by
          refine ⟨by have := r.tsn; omega, by have := r.ckn; omega, ?_, r.rd, r.ro, r.rf, r.ra⟩
          have hqf : mo q = -1 := of_decide_eq_true (by rw [hqe]; exact ff_is (fun j => decide (mo j = -1)) np 0 (by omega))
          refine ⟨fun p hp => upd_c (r.rm.ow p hp), fun p hp => ?_, fun p hp hf9 => ?_, fun p hp hm => ?_, r.rm.d0, r.rm.rt, fun t ht => fil_c (r.rm.wd t ht)⟩
          · by_cases e9 : p = q
            · subst e9; exact Or.inr ⟨a, ha, upd_eq _ _ _, hop⟩
            · rw [upd_ne e9]; exact r.rm.own p hp
          · by_cases e9 : p = q
            · subst e9; exact ⟨ts, by omega, upd_eq _ _ _, upd_eq _ _ _⟩
            · rw [upd_ne e9] at hf9; obtain ⟨t, h1, h2, h3⟩ := r.rm.tk p hp hf9; exact ⟨t, by omega, by rw [upd_ne e9]; exact h2, by rw [upd_ne e9]; exact h3⟩
          · have h9 := r.rm.dy p hp hm
            by_cases e9 : p = q
            · subst e9; exact absurd hqf h9.1
            · rw [upd_ne e9]; exact h9
        exact ST.mk (k1.mv (hf2.lo (by decide))) ⟨hMo, (hf2 167 (by decide)).trans e1.hOp, (hf2 168 (by decide)).trans e1.hIm, (hf2 169 (by decide)).trans e1.hFi, (hf2 170 (by decide)).trans e1.hLi, hOw, hTk, (hf2 173 (by decide)).trans e1.hDl, (hf2 174 (by decide)).trans e1.hRt, hWd, (hf2 176 (by decide)).trans e1.hGo, (hf2 177 (by decide)).trans e1.hGm, (hf2 178 (by decide)).trans e1.hLn, (hf2 179 (by decide)).trans e1.hCd, (hf2 180 (by decide)).trans e1.hSt, (hf2 181 (by decide)).trans e1.hFm, (hf2 182 (by decide)).trans e1.hFs, (hf2 183 (by decide)).trans e1.hFl, (hf2 184 (by decide)).trans e1.hFb, (hf2 185 (by decide)).trans e1.hHo, (hf2 186 (by decide)).trans e1.hWo, (hf2 187 (by decide)).trans e1.hDa, (hf2 188 (by decide)).trans e1.hEn, (hf2 189 (by decide)).trans e1.hKe, (hf2 190 (by decide)).trans e1.hVa⟩ hR
    · exact OPS.nn k e r (c_K_take_full k.hK k.hap k.hm _ ho hq) (c_Mo_take_full e.hMo k.np32 k.nb32 e.hOp e.hOw e.hTk e.hWd ha hop (by rw [hff]; exact hq))
set_option maxHeartbeats 4000000 in
set_option maxRecDepth 20000 in
theorem op_release {l : Launch} {L : Nat} {xs : Nat → Int32} {h : pz_H} {z n : Nat} (x y : Int32) (hn : n < 4000) (s : ST h n) : OPS l L xs M_K_release M_Mo_release 4 2 [.int x, .int y] h z n := by
  obtain ⟨np, nb, mw, mo, mr, mt, mn, md, ts, ck, dw, dn, os, ol, fb, f13, lost, dr, fl, op, mp, fi, lk, pp, pl, pe, qb, qn, qf, ql, td, tl, c1, o1, y1, n1, l1, c2, o2, y2, n2, l2, sa, sx, Mfi, Mlk, Mow, Mtk, Mdl, Mrt, Mwd, Mgo, Mgm, Mln, Mcd, Mst, Mfm, Mfs, Mfl, Mfb, Mho, Mwo, Mda, Men, Mke, Mva, k, e, r⟩ := s
  cases ho : own op mo np x y with
  | false => exact OPS.nn k e r (c_K_release_no k.hK k.hap k.hm x y ho) (c_Mo_release_no e.hMo k.np32 k.nb32 e.hOp e.hOw e.hDl e.hRt x y (by rw [own_c k.np32 r.rm.ow]; exact ho))
  | true =>
    obtain ⟨a, q, ha, hop, rfl, hq, rfl, how⟩ := own_e k.np32 ho
    refine OPS.ch2 (c_K_release_ok k.hK k.hap k.hm (nI a) hq ho) (fun h1 hp => ?_) (fun h1 (k1 : KER h1 np nb mw (upd mo q (-1)) (fil mr (fun _ => 0) (q * 6) 6) mt (updB mn q false) md ts ck dw dn os ol fb f13 lost dr fl op mp fi lk pp pl pe qb qn qf ql td tl c1 o1 y1 n1 l1 c2 o2 y2 n2 l2) (e1 : MOD h1 np nb ck ts lost ol f13 op mp sa sx Mfi Mlk Mow Mtk Mdl Mrt Mwd Mgo Mgm Mln Mcd Mst Mfm Mfs Mfl Mfb Mho Mwo Mda Men Mke Mva) => c_Mo_release_ok e1.hMo k.np32 k.nb32 e1.hOp e1.hOw e1.hDl e1.hRt ha hop hq ((r.rm.ow q hq).trans how)) (fun h1 h2 k1 e1 hp2 => ?_)
    · obtain ⟨hm, hf⟩ := hp
      have k1 : KER h1 np nb mw (upd mo q (-1)) (fil mr (fun _ => 0) (q * 6) 6) mt (updB mn q false) md ts ck dw dn os ol fb f13 lost dr fl op mp fi lk pp pl pe qb qn qf ql td tl c1 o1 y1 n1 l1 c2 o2 y2 n2 l2 := ⟨k.hK.on (fun c h1 h2 => hf c (by omega)) (fun c h1 h2 => hf c (by omega)), hm, k.hd.on (fun c h1 h2 => hf c (by omega)), k.ho.on (fun c h1 h2 => hf c (by omega)), k.hr.on (fun c h1 h2 => hf c (by omega)), fun i hi => (k.ap i hi).on (fun c h1 h2 => hf c (by omega))⟩
      have e1 : MOD h1 np nb ck ts lost ol f13 op mp sa sx Mfi Mlk Mow Mtk Mdl Mrt Mwd Mgo Mgm Mln Mcd Mst Mfm Mfs Mfl Mfb Mho Mwo Mda Men Mke Mva := e.mv (fun c hc => hf c (by omega))
      exact ⟨⟨_, k1.hK.1⟩, ⟨_, e1.hMo⟩, k1, e1⟩
    · obtain ⟨hOw, hDl, hRt, hf2⟩ := hp2
      have hR : REL np nb mw (upd mo q (-1)) (fil mr (fun _ => 0) (q * 6) 6) mt (updB mn q false) md ts ck dw dn os ol fb f13 lost dr fl op mp fi lk pp pl pe qb qn qf ql td tl c1 o1 y1 n1 l1 c2 o2 y2 n2 l2 sa sx Mfi Mlk (upd Mow q (-1)) Mtk (upd Mdl q (nI 0)) (fil Mrt (fun _ => 0) (q * 6) 6) Mwd Mgo Mgm Mln Mcd Mst Mfm Mfs Mfl Mfb Mho Mwo Mda Men Mke Mva (n + 1) := by
        exact ⟨by have := r.tsn; omega, by have := r.ckn; omega, r.rm.free hq, r.rd, r.ro, r.rf, r.ra⟩
      exact ST.mk (k1.mv (hf2.lo (by decide))) ⟨MOB.mv e1.hMo (hf2 166 (by decide)), (hf2 167 (by decide)).trans e1.hOp, (hf2 168 (by decide)).trans e1.hIm, (hf2 169 (by decide)).trans e1.hFi, (hf2 170 (by decide)).trans e1.hLi, hOw, (hf2 172 (by decide)).trans e1.hTk, hDl, hRt, (hf2 175 (by decide)).trans e1.hWd, (hf2 176 (by decide)).trans e1.hGo, (hf2 177 (by decide)).trans e1.hGm, (hf2 178 (by decide)).trans e1.hLn, (hf2 179 (by decide)).trans e1.hCd, (hf2 180 (by decide)).trans e1.hSt, (hf2 181 (by decide)).trans e1.hFm, (hf2 182 (by decide)).trans e1.hFs, (hf2 183 (by decide)).trans e1.hFl, (hf2 184 (by decide)).trans e1.hFb, (hf2 185 (by decide)).trans e1.hHo, (hf2 186 (by decide)).trans e1.hWo, (hf2 187 (by decide)).trans e1.hDa, (hf2 188 (by decide)).trans e1.hEn, (hf2 189 (by decide)).trans e1.hKe, (hf2 190 (by decide)).trans e1.hVa⟩ hR
set_option maxHeartbeats 4000000 in
set_option maxRecDepth 20000 in
theorem op_share {l : Launch} {L : Nat} {xs : Nat → Int32} {h : pz_H} {z n : Nat} (x y t u : Int32) (hn : n < 4000) (s : ST h n) : OPS l L xs M_K_share M_Mo_share 4 2 [.int x, .int y, .int t, .int u] h z n := by
  obtain ⟨np, nb, mw, mo, mr, mt, mn, md, ts, ck, dw, dn, os, ol, fb, f13, lost, dr, fl, op, mp, fi, lk, pp, pl, pe, qb, qn, qf, ql, td, tl, c1, o1, y1, n1, l1, c2, o2, y2, n2, l2, sa, sx, Mfi, Mlk, Mow, Mtk, Mdl, Mrt, Mwd, Mgo, Mgm, Mln, Mcd, Mst, Mfm, Mfs, Mfl, Mfb, Mho, Mwo, Mda, Men, Mke, Mva, k, e, r⟩ := s
  cases ho : shg op mo np x y t u with
  | false => exact OPS.nn k e r (c_K_share_no k.hK k.hap k.hm x y t u ho) (c_Mo_share_no e.hMo k.np32 k.nb32 e.hOp e.hOw e.hRt x y t u (by rw [shg_c k.np32 r.rm.ow]; exact ho))
  | true =>
    obtain ⟨h3, h4, h5, h6⟩ := shg_e ho
    obtain ⟨a, q, ha, hop, rfl, hq, rfl, how⟩ := own_e k.np32 h4
    obtain ⟨b, hb, hob, rfl⟩ := opn_N h6
    refine OPS.ch2 (c_K_share_ok k.hK k.hap k.hm (nI a) u hq hb ho) (fun h1 hp => ?_) (fun h1 (k1 : KER h1 np nb mw mo (upd mr (q * 6 + b) u) mt mn md ts ck dw dn os ol fb f13 lost dr fl op mp fi lk pp pl pe qb qn qf ql td tl c1 o1 y1 n1 l1 c2 o2 y2 n2 l2) (e1 : MOD h1 np nb ck ts lost ol f13 op mp sa sx Mfi Mlk Mow Mtk Mdl Mrt Mwd Mgo Mgm Mln Mcd Mst Mfm Mfs Mfl Mfb Mho Mwo Mda Men Mke Mva) => c_Mo_share_ok e1.hMo k.np32 k.nb32 e1.hOp e1.hOw e1.hRt ha hop hq ((r.rm.ow q hq).trans how) hb h3 (fun e9 => h5 (by rw [e9])) hob) (fun h1 h2 k1 e1 hp2 => ?_)
    · obtain ⟨hm, hf⟩ := hp
      have k1 : KER h1 np nb mw mo (upd mr (q * 6 + b) u) mt mn md ts ck dw dn os ol fb f13 lost dr fl op mp fi lk pp pl pe qb qn qf ql td tl c1 o1 y1 n1 l1 c2 o2 y2 n2 l2 := ⟨k.hK.on (fun c h1 h2 => hf c (by omega)) (fun c h1 h2 => hf c (by omega)), hm, k.hd.on (fun c h1 h2 => hf c (by omega)), k.ho.on (fun c h1 h2 => hf c (by omega)), k.hr.on (fun c h1 h2 => hf c (by omega)), fun i hi => (k.ap i hi).on (fun c h1 h2 => hf c (by omega))⟩
      have e1 : MOD h1 np nb ck ts lost ol f13 op mp sa sx Mfi Mlk Mow Mtk Mdl Mrt Mwd Mgo Mgm Mln Mcd Mst Mfm Mfs Mfl Mfb Mho Mwo Mda Men Mke Mva := e.mv (fun c hc => hf c (by omega))
      exact ⟨⟨_, k1.hK.1⟩, ⟨_, e1.hMo⟩, k1, e1⟩
    · obtain ⟨hRt, hf2⟩ := hp2
      have hR : REL np nb mw mo (upd mr (q * 6 + b) u) mt mn md ts ck dw dn os ol fb f13 lost dr fl op mp fi lk pp pl pe qb qn qf ql td tl c1 o1 y1 n1 l1 c2 o2 y2 n2 l2 sa sx Mfi Mlk Mow Mtk Mdl (upd Mrt (q * 6 + b) u) Mwd Mgo Mgm Mln Mcd Mst Mfm Mfs Mfl Mfb Mho Mwo Mda Men Mke Mva (n + 1) := by
        refine ⟨by have := r.tsn; omega, by have := r.ckn; omega, ?_, r.rd, r.ro, r.rf, r.ra⟩
        refine ⟨r.rm.ow, r.rm.own, r.rm.tk, r.rm.dy, r.rm.d0, fun p hp => ⟨upd_c (r.rm.rt p hp).1, ?_⟩, r.rm.wd⟩
        unfold upd
        split
        · obtain ⟨u, hu, rfl⟩ := inn_N (n := 3) (by omega) h3
          rcases (show u = 0 ∨ u = 1 ∨ u = 2 by omega) with rfl | rfl | rfl
          · exact Or.inl rfl
          · exact Or.inr (Or.inl rfl)
          · exact Or.inr (Or.inr rfl)
        · exact (r.rm.rt p hp).2
      exact ST.mk (k1.mv (hf2.lo (by decide))) ⟨MOB.mv e1.hMo (hf2 166 (by decide)), (hf2 167 (by decide)).trans e1.hOp, (hf2 168 (by decide)).trans e1.hIm, (hf2 169 (by decide)).trans e1.hFi, (hf2 170 (by decide)).trans e1.hLi, (hf2 171 (by decide)).trans e1.hOw, (hf2 172 (by decide)).trans e1.hTk, (hf2 173 (by decide)).trans e1.hDl, hRt, (hf2 175 (by decide)).trans e1.hWd, (hf2 176 (by decide)).trans e1.hGo, (hf2 177 (by decide)).trans e1.hGm, (hf2 178 (by decide)).trans e1.hLn, (hf2 179 (by decide)).trans e1.hCd, (hf2 180 (by decide)).trans e1.hSt, (hf2 181 (by decide)).trans e1.hFm, (hf2 182 (by decide)).trans e1.hFs, (hf2 183 (by decide)).trans e1.hFl, (hf2 184 (by decide)).trans e1.hFb, (hf2 185 (by decide)).trans e1.hHo, (hf2 186 (by decide)).trans e1.hWo, (hf2 187 (by decide)).trans e1.hDa, (hf2 188 (by decide)).trans e1.hEn, (hf2 189 (by decide)).trans e1.hKe, (hf2 190 (by decide)).trans e1.hVa⟩ hR
set_option maxHeartbeats 4000000 in
set_option maxRecDepth 20000 in
theorem op_store {l : Launch} {L : Nat} {xs : Nat → Int32} {h : pz_H} {z n : Nat} (x y w u : Int32) (hn : n < 4000) (s : ST h n) : OPS l L xs M_K_store M_Mo_store 4 2 [.int x, .int y, .int w, .int u] h z n := by
  obtain ⟨np, nb, mw, mo, mr, mt, mn, md, ts, ck, dw, dn, os, ol, fb, f13, lost, dr, fl, op, mp, fi, lk, pp, pl, pe, qb, qn, qf, ql, td, tl, c1, o1, y1, n1, l1, c2, o2, y2, n2, l2, sa, sx, Mfi, Mlk, Mow, Mtk, Mdl, Mrt, Mwd, Mgo, Mgm, Mln, Mcd, Mst, Mfm, Mfs, Mfl, Mfb, Mho, Mwo, Mda, Men, Mke, Mva, k, e, r⟩ := s
  have hmc : ∀ ww rr, may op Mow Mrt np x y ww rr = may op mo mr np x y ww rr := fun ww rr => may_c k.np32 r.rm.ow (fun t ht => (r.rm.rt t ht).1)
  have hr3 : ∀ t, t < np * 6 → Mrt t = nI 0 ∨ Mrt t = nI 1 ∨ Mrt t = nI 2 := fun t ht => by rw [(r.rm.rt t ht).1]; exact (r.rm.rt t ht).2
  cases ho : may op mo mr np x y w (nI 2) with
  | false => exact OPS.nn k e r (c_K_store_no k.hK k.hap k.hm x y w u ho) (c_Mo_store_no e.hMo k.np32 k.nb32 e.hOp e.hOw e.hRt e.hWd x y w u hr3 (by rw [hmc]; exact ho))
  | true =>
    obtain ⟨a, q, b, ha, hop, rfl, hq, rfl, hb, rfl, hmy⟩ := may_e k.np32 ho
    rw [← r.rm.ow q hq, ← (r.rm.rt (q * 6 + a) (by omega)).1] at hmy
    refine OPS.ch2 (c_K_store_ok k.hK k.hap k.hm (nI a) u hq hb ho) (fun h1 hp => ?_) (fun h1 (k1 : KER h1 np nb (upd mw (q * 4 + b) u) mo mr mt mn md ts ck dw dn os ol fb f13 lost dr fl op mp fi lk pp pl pe qb qn qf ql td tl c1 o1 y1 n1 l1 c2 o2 y2 n2 l2) (e1 : MOD h1 np nb ck ts lost ol f13 op mp sa sx Mfi Mlk Mow Mtk Mdl Mrt Mwd Mgo Mgm Mln Mcd Mst Mfm Mfs Mfl Mfb Mho Mwo Mda Men Mke Mva) => c_Mo_store_ok e1.hMo k.np32 k.nb32 e1.hOp e1.hOw e1.hRt e1.hWd ha hop hq hb hr3 hmy u) (fun h1 h2 k1 e1 hp2 => ?_)
    · obtain ⟨hm, hf⟩ := hp
      have k1 : KER h1 np nb (upd mw (q * 4 + b) u) mo mr mt mn md ts ck dw dn os ol fb f13 lost dr fl op mp fi lk pp pl pe qb qn qf ql td tl c1 o1 y1 n1 l1 c2 o2 y2 n2 l2 := ⟨k.hK.on (fun c h1 h2 => hf c (by omega)) (fun c h1 h2 => hf c (by omega)), hm, k.hd.on (fun c h1 h2 => hf c (by omega)), k.ho.on (fun c h1 h2 => hf c (by omega)), k.hr.on (fun c h1 h2 => hf c (by omega)), fun i hi => (k.ap i hi).on (fun c h1 h2 => hf c (by omega))⟩
      have e1 : MOD h1 np nb ck ts lost ol f13 op mp sa sx Mfi Mlk Mow Mtk Mdl Mrt Mwd Mgo Mgm Mln Mcd Mst Mfm Mfs Mfl Mfb Mho Mwo Mda Men Mke Mva := e.mv (fun c hc => hf c (by omega))
      exact ⟨⟨_, k1.hK.1⟩, ⟨_, e1.hMo⟩, k1, e1⟩
    · obtain ⟨hWd, hf2⟩ := hp2
      have hR : REL np nb (upd mw (q * 4 + b) u) mo mr mt mn md ts ck dw dn os ol fb f13 lost dr fl op mp fi lk pp pl pe qb qn qf ql td tl c1 o1 y1 n1 l1 c2 o2 y2 n2 l2 sa sx Mfi Mlk Mow Mtk Mdl Mrt (upd Mwd (q * 4 + b) u) Mgo Mgm Mln Mcd Mst Mfm Mfs Mfl Mfb Mho Mwo Mda Men Mke Mva (n + 1) := by
        exact ⟨by have := r.tsn; omega, by have := r.ckn; omega, ⟨r.rm.ow, r.rm.own, r.rm.tk, r.rm.dy, r.rm.d0, r.rm.rt, fun t ht => upd_c (r.rm.wd t ht)⟩, r.rd, r.ro, r.rf, r.ra⟩
      exact ST.mk (k1.mv (hf2.lo (by decide))) ⟨MOB.mv e1.hMo (hf2 166 (by decide)), (hf2 167 (by decide)).trans e1.hOp, (hf2 168 (by decide)).trans e1.hIm, (hf2 169 (by decide)).trans e1.hFi, (hf2 170 (by decide)).trans e1.hLi, (hf2 171 (by decide)).trans e1.hOw, (hf2 172 (by decide)).trans e1.hTk, (hf2 173 (by decide)).trans e1.hDl, (hf2 174 (by decide)).trans e1.hRt, hWd, (hf2 176 (by decide)).trans e1.hGo, (hf2 177 (by decide)).trans e1.hGm, (hf2 178 (by decide)).trans e1.hLn, (hf2 179 (by decide)).trans e1.hCd, (hf2 180 (by decide)).trans e1.hSt, (hf2 181 (by decide)).trans e1.hFm, (hf2 182 (by decide)).trans e1.hFs, (hf2 183 (by decide)).trans e1.hFl, (hf2 184 (by decide)).trans e1.hFb, (hf2 185 (by decide)).trans e1.hHo, (hf2 186 (by decide)).trans e1.hWo, (hf2 187 (by decide)).trans e1.hDa, (hf2 188 (by decide)).trans e1.hEn, (hf2 189 (by decide)).trans e1.hKe, (hf2 190 (by decide)).trans e1.hVa⟩ hR
set_option maxHeartbeats 4000000 in
set_option maxRecDepth 20000 in
theorem op_fetch {l : Launch} {L : Nat} {xs : Nat → Int32} {h : pz_H} {z n : Nat} (x y w : Int32) (hn : n < 4000) (s : ST h n) : OPS l L xs M_K_fetch M_Mo_fetch 4 2 [.int x, .int y, .int w] h z n := by
  obtain ⟨np, nb, mw, mo, mr, mt, mn, md, ts, ck, dw, dn, os, ol, fb, f13, lost, dr, fl, op, mp, fi, lk, pp, pl, pe, qb, qn, qf, ql, td, tl, c1, o1, y1, n1, l1, c2, o2, y2, n2, l2, sa, sx, Mfi, Mlk, Mow, Mtk, Mdl, Mrt, Mwd, Mgo, Mgm, Mln, Mcd, Mst, Mfm, Mfs, Mfl, Mfb, Mho, Mwo, Mda, Men, Mke, Mva, k, e, r⟩ := s
  have hmc : ∀ ww rr, may op Mow Mrt np x y ww rr = may op mo mr np x y ww rr := fun ww rr => may_c k.np32 r.rm.ow (fun t ht => (r.rm.rt t ht).1)
  have hr3 : ∀ t, t < np * 6 → Mrt t = nI 0 ∨ Mrt t = nI 1 ∨ Mrt t = nI 2 := fun t ht => by rw [(r.rm.rt t ht).1]; exact (r.rm.rt t ht).2
  cases ho : may op mo mr np x y w (nI 1) with
  | false => exact OPS.nn k e r (c_K_fetch_no k.hK k.hap k.hm x y w ho) (c_Mo_fetch_no e.hMo k.np32 k.nb32 e.hOp e.hOw e.hRt e.hWd x y w hr3 (by rw [hmc]; exact ho))
  | true =>
    obtain ⟨a, q, b, ha, hop, rfl, hq, rfl, hb, rfl, hmy⟩ := may_e k.np32 ho
    rw [← r.rm.ow q hq, ← (r.rm.rt (q * 6 + a) (by omega)).1] at hmy
    have h9 := c_Mo_fetch_ok e.hMo k.np32 k.nb32 e.hOp e.hOw e.hRt e.hWd (l := l) (L := L) (xs := xs) (z := z) ha hop hq hb hr3 hmy
    rw [r.rm.wd (q * 4 + b) (by omega)] at h9
    exact OPS.nn k e r (c_K_fetch_ok k.hK k.hap k.hm (nI a) hq hb ho) h9
