/-! calls on both: get, write -/
theorem xor8 {k : Int32} (hk : k < 0) : ¬ 0 ≤ k ^^^ nI 8 := by
  intro h
  obtain ⟨j, hj, e⟩ := nI_of (Int32.not_lt.mpr h)
  have e2 : k = nI j ^^^ nI 8 := by rw [← e, Int32.xor_assoc, Int32.xor_self, Int32.xor_zero]
  have e3 : nI j ^^^ nI 8 = nI (j ^^^ 8) := by
    apply Int32.toBitVec_inj.mp
    show (BitVec.ofNat 32 j) ^^^ (BitVec.ofNat 32 8) = BitVec.ofNat 32 (j ^^^ 8)
    rw [BitVec.ofNat_xor]
  have h31 : j ^^^ 8 < 2147483648 := Nat.xor_lt_two_pow (n := 31) hj (by decide)
  rw [e2, e3] at hk
  exact nI_pos h31 hk
theorem div8 {k : Int32} (hk : k < 0) : (k / nI 8).toInt ≤ 0 ∧ -268435456 ≤ (k / nI 8).toInt := by
  have h0 : k.toInt < 0 := Int32.lt_iff_toInt_lt.mp hk
  have h1 : -2147483648 ≤ k.toInt := by have := Int32.le_toInt k; simpa using this
  obtain ⟨m, hm⟩ : ∃ m : Nat, k.toInt = -(m : Int) := ⟨(-k.toInt).toNat, by omega⟩
  have h8 : (nI 8).toInt = 8 := by decide
  have e : Int.tdiv (-(m : Int)) 8 = -((m / 8 : Nat) : Int) := by rw [Int.neg_tdiv, show (8 : Int) = ((8 : Nat) : Int) from rfl, Int.ofNat_tdiv]
  rw [Int32.toInt_div, h8, hm, e]
  have h3 : m / 8 ≤ 268435456 := by omega
  generalize m / 8 = t at h3
  rw [Int.bmod_def]
  split <;> omega
theorem fdv_neg {k : Int32} (hk : k < 0) : fdv k (nI 8) < 0 := by
  obtain ⟨h1, h2⟩ := div8 hk
  unfold fdv
  split
  · apply Int32.lt_iff_toInt_lt.mpr
    rw [Int32.toInt_sub, show (nI 1).toInt = 1 from by decide, show (0 : Int32).toInt = 0 from by decide, Int.bmod_def]
    split <;> omega
  · next c =>
    rcases Int32.lt_or_le (k / nI 8) 0 with q | q
    · exact q
    · exfalso
      have q2 := Int32.le_iff_toInt_le.mp q
      rw [show (0 : Int32).toInt = 0 from by decide] at q2
      have e : k / nI 8 = 0 := Int32.toInt_inj.mp (by rw [show (0 : Int32).toInt = 0 from by decide]; omega)
      apply c
      refine ⟨xor8 hk, fun q3 => ?_⟩
      rw [e, Int32.zero_mul] at q3
      rw [← q3] at hk
      exact absurd hk (by decide)
theorem inn_fdv {k : Int32} {nb : Nat} (hnb : nb ≤ 32) : inn (fdv k (nI 8)) nb = inn k (8 * nb) := by
  by_cases hk : k < 0
  · have h1 := fdv_neg hk
    unfold inn
    rw [decide_eq_false (fun q => q.1 h1), decide_eq_false (fun q => q.1 hk)]
  · obtain ⟨j, hj, rfl⟩ := nI_of hk
    rw [fdv_N hj]
    by_cases c : j < 8 * nb
    · rw [inn_y (by omega) c, inn_y (by omega) (by omega)]
    · cases h2 : inn (nI (j / 8)) nb with
      | true =>
        obtain ⟨t, ht, e⟩ := inn_N (by omega) h2
        have := nI_inj (by omega) (by omega) e
        omega
      | false =>
        cases h3 : inn (nI j) (8 * nb) with
        | false => rfl
        | true =>
          obtain ⟨t, ht, e⟩ := inn_N (by omega) h3
          have := nI_inj (by omega) (by omega) e
          omega
set_option maxHeartbeats 4000000 in
set_option maxRecDepth 20000 in
theorem op_get {l : Launch} {L : Nat} {xs : Nat → Int32} {h : pz_H} {z n : Nat} (x y : Int32) (hn : n < 4000) (s : ST h n) : OPS l L xs M_K_get M_Mo_get 4 2 [.int x, .int y] h z n := by
  obtain ⟨np, nb, mw, mo, mr, mt, mn, md, ts, ck, dw, dn, os, ol, fb, f13, lost, dr, fl, op, mp, fi, lk, pp, pl, pe, qb, qn, qf, ql, td, tl, c1, o1, y1, n1, l1, c2, o2, y2, n2, l2, sa, sx, Mfi, Mlk, Mow, Mtk, Mdl, Mrt, Mwd, Mgo, Mgm, Mln, Mcd, Mst, Mfm, Mfs, Mfl, Mfb, Mho, Mwo, Mda, Men, Mke, Mva, k, e, r⟩ := s
  cases ho : opn op x with
  | false => exact OPS.nn k e r (c_K_get_no k.hK k.hap x y ho) (c_Mo_get_no e.hMo k.np32 k.nb32 e.hOp e.hIm e.hHo e.hWo e.hEn e.hKe e.hVa x y ho)
  | true =>
    obtain ⟨a, ha, hop, rfl⟩ := opn_N ho
    have q9 := r.ra a ha
    cases hmp : mp a with
    | true =>
      have hen := q9.en hop hmp
      have hT := (k.ap a ha).2.2.2.1
      have htl := hT.2.2
      have hff : ff (fun j => decide (Mke (a * 28 + j) = y)) (Men a) 0 = ff (fun q => decide (dw (eka (fun j => cn (td a j)) q) = y)) (tl a) 0 := by
        rw [hen]
        exact ff_congr (tl a) 0 (fun j _ hj => by show decide (Mke (a * 28 + j) = y) = decide (dw (eka (fun j => cn (td a j)) j) = y); rw [(q9.ke hop hmp j (by omega)).1])
      by_cases hq : ff (fun q => decide (dw (eka (fun j => cn (td a j)) q) = y)) (tl a) 0 < tl a
      · have hM := c_Mo_get_fd e.hMo k.np32 k.nb32 e.hOp e.hIm e.hHo e.hWo e.hEn e.hKe e.hVa (l := l) (L := L) (xs := xs) (z := z) ha hop y hmp (by omega) (q := ff (fun q => decide (dw (eka (fun j => cn (td a j)) q) = y)) (tl a) 0) hff.symm (by omega)
        rw [← (q9.ke hop hmp _ hq).2] at hM
        exact OPS.nn k e r (c_K_get_fd k.hK k.hap k.hd ha y ho hmp hT (tb := (fun j => cn (td a j))) (fun j hj => ⟨(q9.td hop hmp j hj).1, (q9.td hop hmp j hj).2.1⟩) rfl hq) hM
      · exact OPS.nn k e r (c_K_get_nf k.hK k.hap k.hd ha y ho hmp hT (tb := (fun j => cn (td a j))) (fun j hj => ⟨(q9.td hop hmp j hj).1, (q9.td hop hmp j hj).2.1⟩) hq) (c_Mo_get_nf e.hMo k.np32 k.nb32 e.hOp e.hIm e.hHo e.hWo e.hEn e.hKe e.hVa ha hop y hmp (by omega) (by rw [hff, hen]; exact hq))
    | false =>
      have hnb := k.nb32
      cases hi : inn y (8 * nb) with
      | false => exact OPS.nn k e r (c_K_get_out k.hK k.hap k.hd ha y ho hmp (by rw [inn_fdv hnb]; exact hi)) (c_Mo_get_out e.hMo k.np32 k.nb32 e.hOp e.hIm e.hHo e.hWo e.hEn e.hKe e.hVa ha hop y hmp hi)
      | true =>
        obtain ⟨j, hj, rfl⟩ := inn_N (by omega) hi
        have hj8 : j < nb * 8 := by omega
        have hb : j / 8 < nb := by omega
        by_cases how : dn (j / 8) = nI a
        · have hM := c_Mo_get_raw e.hMo k.np32 k.nb32 e.hOp e.hIm e.hHo e.hWo e.hEn e.hKe e.hVa (l := l) (L := L) (xs := xs) (z := z) ha hop hj8 hmp ((r.rd.ho _ hb).trans how)
          have hw := r.rd.wo a (j / 8) ha hb how hmp (j % 8) (Nat.mod_lt _ (by omega))
          rw [show Mwo j = dw (j / 8 * 8 + j % 8) from by rw [← hw]; congr 1; omega] at hM
          exact OPS.nn k e r (c_K_get_raw k.hK k.hap k.hd ha hj8 ho hmp how) hM
        · exact OPS.nn k e r (c_K_get_other k.hK k.hap k.hd ha hj8 ho hmp how) (c_Mo_get_other e.hMo k.np32 k.nb32 e.hOp e.hIm e.hHo e.hWo e.hEn e.hKe e.hVa ha hop hj8 hmp (by rw [r.rd.ho _ hb]; exact how))
theorem ff_ex {P : Nat → Bool} {k i : Nat} : ff P k i < i + k ↔ ∃ j, i ≤ j ∧ j < i + k ∧ P j = true := by
  constructor
  · intro h
    exact ⟨_, (ff_le P k i).1, h, ff_is P k i h⟩
  · intro ⟨j, h1, h2, h3⟩
    rcases Nat.lt_or_ge (ff P k i) (i + k) with q | q
    · exact q
    · have := ff_none (P := P) k i (by omega) j h1 h2
      rw [this] at h3
      cases h3
theorem RD.bsy {nb : Nat} {dw dn : Nat → Int32} {op mp : Nat → Bool} {fi lk : Nat → Nat} {Mho Mwo : Nat → Int32} (r : RD nb dw dn op mp fi lk Mho Mwo) {a g : Nat} (ha : a < 6) (hg : g < nb) (hd : dn g = nI a) (hm : mp a = false) : (ff (fun w => decide (fi a ≤ w ∧ w < fi a + lk a) && !decide (Mwo (g * 8 + w) = -1)) 8 0 < 8) ↔ (ff (fun j => !decide (dw (g * 8 + j) = -1)) (fi a + lk a - fi a) (fi a) < fi a + lk a) := by
  have h8 := r.fl a ha
  have e1 := ff_ex (P := fun w => decide (fi a ≤ w ∧ w < fi a + lk a) && !decide (Mwo (g * 8 + w) = -1)) (k := 8) (i := 0)
  have e2 := ff_ex (P := fun j => !decide (dw (g * 8 + j) = -1)) (k := fi a + lk a - fi a) (i := fi a)
  rw [Nat.zero_add] at e1
  rw [show fi a + (fi a + lk a - fi a) = fi a + lk a by omega] at e2
  rw [e1, e2]
  constructor
  · intro ⟨j, h1, h2, h3⟩
    simp only [Bool.and_eq_true, decide_eq_true_eq] at h3
    refine ⟨j, h3.1.1, h3.1.2, ?_⟩
    rw [← r.wo a g ha hg hd hm j h2]
    exact h3.2
  · intro ⟨j, h1, h2, h3⟩
    refine ⟨j, by omega, by omega, ?_⟩
    rw [Bool.and_eq_true]
    refine ⟨decide_eq_true ⟨h1, h2⟩, ?_⟩
    rw [r.wo a g ha hg hd hm j (by omega)]
    exact h3
theorem nI_ne {a b : Nat} (ha : a < 6) (hb : b < 6) (h : a ≠ b) : nI a ≠ nI b := fun e => h (nI_inj (by omega) (by omega) e)
/-- a plain word of a block -/
theorem RD.pl {nb : Nat} {dw dn : Nat → Int32} {op mp : Nat → Bool} {fi lk : Nat → Nat} {Mho Mwo : Nat → Int32} (r : RD nb dw dn op mp fi lk Mho Mwo) {a b q : Nat} {u : Int32} (ha : a < 6) (hb : b < nb) (hq : q < 8) (how : dn b = nI a) (hl : ¬ (fi a ≤ q ∧ q < fi a + lk a)) : RD nb (upd dw (b * 8 + q) u) dn op mp fi lk Mho (upd Mwo (b * 8 + q) u) := by
  have key : ∀ a' b' w', LNK dn mp fi lk nb a' b' w' → b' * 8 + w' ≠ b * 8 + q := fun a' b' w' ⟨h1, h2, h3, h4, h5, h6⟩ e => by
    have h8 := r.fl a' h1
    have e1 : b' = b := by omega
    have e2 : w' = q := by omega
    subst e1 e2
    rw [nI_inj (by omega) (by omega) (h3.symm.trans how)] at h5 h6
    exact hl ⟨h5, h6⟩
  refine ⟨r.ho, r.own, fun a' b' h1 h2 h3 h4 w hw => upd_c (r.wo a' b' h1 h2 h3 h4 w hw), r.fl, fun a' b' w' h => ?_, fun a' b1 w1 b2 w2 g1 g2 g3 g4 => ?_⟩
  · rw [upd_ne (key _ _ _ h)]; exact r.lnk a' b' w' h
  · rw [upd_ne (key _ _ _ g1)] at g3 g4
    rw [upd_ne (key _ _ _ g2)] at g4
    exact r.ij a' b1 w1 b2 w2 g1 g2 g3 g4
/-- a link leaves its block, which becomes free -/
theorem RD.sn {nb : Nat} {dw dn : Nat → Int32} {op mp : Nat → Bool} {fi lk : Nat → Nat} {Mho Mwo : Nat → Int32} (r : RD nb dw dn op mp fi lk Mho Mwo) {a b q g : Nat} (L : LNK dn mp fi lk nb a b q) (hg : g < nb) (hw : dw (b * 8 + q) = nI g) (hf : ¬ ff (fun j => !decide (dw (g * 8 + j) = -1)) (fi a + lk a - fi a) (fi a) < fi a + lk a) (hnb : nb ≤ 32) : RD nb (upd dw (b * 8 + q) (-1)) (upd dn g (-1)) op mp fi lk (upd Mho g (-1)) (upd Mwo (b * 8 + q) (-1)) ∧ dn g = nI a ∧ g ≠ b := by
  obtain ⟨ha, hb, how, hmp, hl1, hl2⟩ := id L
  have h8 := r.fl a ha
  have hga : dn g = nI a := by
    rcases r.lnk a b q L with e | ⟨g', h1, h2, h3⟩
    · rw [hw] at e; exact absurd e (nI_nem1 (by omega))
    · rw [nI_inj (by omega) (by omega) (hw.symm.trans h2)]; exact h3
  have hz : ∀ w, fi a ≤ w → w < fi a + lk a → dw (g * 8 + w) = -1 := fun w h1 h2 => by
    have := ff_none (P := fun j => !decide (dw (g * 8 + j) = -1)) (fi a + lk a - fi a) (fi a) (by omega) w h1 (by omega)
    exact of_decide_eq_true (by simpa using this)
  have hgb : g ≠ b := fun e => by
    subst e
    have := hz q hl1 hl2
    rw [hw] at this
    exact nI_nem1 (by omega) this
  have key : ∀ a' b' w', LNK (upd dn g (-1)) mp fi lk nb a' b' w' → b' ≠ g ∧ LNK dn mp fi lk nb a' b' w' := fun a' b' w' ⟨h1, h2, h3, h4⟩ => by
    have hne : b' ≠ g := fun e => by rw [e, upd_eq] at h3; exact nI_nem1 (by omega) h3.symm
    rw [upd_ne hne] at h3
    exact ⟨hne, h1, h2, h3, h4⟩
  refine ⟨⟨fun p hp => upd_c (r.ho p hp), fun p hp => ?_, fun a' b' h1 h2 h3 h4 w hw9 => upd_c ?_, r.fl, fun a' b' w' h => ?_, fun a' b1 w1 b2 w2 g1 g2 g3 g4 => ?_⟩, hga, hgb⟩
  · by_cases e : p = g
    · subst e; exact Or.inl (upd_eq _ _ _)
    · rw [upd_ne e]; exact r.own p hp
  · have hne : b' ≠ g := fun e => by rw [e, upd_eq] at h3; exact nI_nem1 (by omega) h3.symm
    rw [upd_ne hne] at h3
    exact r.wo a' b' h1 h2 h3 h4 w hw9
  · obtain ⟨hne, L9⟩ := key a' b' w' h
    by_cases e : b' * 8 + w' = b * 8 + q
    · rw [e, upd_eq]; exact Or.inl rfl
    · rw [upd_ne e]
      rcases r.lnk a' b' w' L9 with e2 | ⟨g2, h1, h2, h3⟩
      · exact Or.inl e2
      · refine Or.inr ⟨g2, h1, h2, ?_⟩
        rw [upd_ne ?_]
        · exact h3
        · intro e3
          subst e3
          have ea : a' = a := nI_inj (by have := L9.1; omega) (by omega) (h3.symm.trans hga)
          subst ea
          obtain ⟨e4, e5⟩ := r.ij a' b' w' b q L9 L (by rw [h2]; exact nI_nem1 (by omega)) (h2.trans hw.symm)
          exact e (by rw [e4, e5])
  · obtain ⟨n1, L1⟩ := key a' b1 w1 g1
    obtain ⟨n2, L2⟩ := key a' b2 w2 g2
    by_cases e : b1 * 8 + w1 = b * 8 + q
    · rw [e, upd_eq] at g3; exact absurd rfl g3
    · rw [upd_ne e] at g3 g4
      by_cases e2 : b2 * 8 + w2 = b * 8 + q
      · rw [e2, upd_eq] at g4; exact absurd g4 g3
      · rw [upd_ne e2] at g4; exact r.ij a' b1 w1 b2 w2 L1 L2 g3 g4
/-- a link goes to a free block, which becomes the application's -/
theorem RD.ns {nb : Nat} {dw dn : Nat → Int32} {op mp : Nat → Bool} {fi lk : Nat → Nat} {Mho Mwo : Nat → Int32} (r : RD nb dw dn op mp fi lk Mho Mwo) {a b q v : Nat} (L : LNK dn mp fi lk nb a b q) (hop : op a = true) (hv : v < nb) (ht : dn v = -1) (hnb : nb ≤ 32) : RD nb (upd (fil dw (lkw v (fi a) (lk a)) (v * 8) 8) (b * 8 + q) (nI v)) (upd dn v (nI a)) op mp fi lk (upd Mho v (nI a)) (upd (fil Mwo (lkw v (fi a) (lk a)) (v * 8) 8) (b * 8 + q) (nI v)) := by
  obtain ⟨ha, hb, how, hmp, hl1, hl2⟩ := id L
  have h8 := r.fl a ha
  have hvb : v ≠ b := fun e => by rw [e, how] at ht; exact nI_nem1 (by omega) ht
  have key : ∀ a' b' w', LNK (upd dn v (nI a)) mp fi lk nb a' b' w' → w' < 8 ∧ ((b' = v ∧ a' = a ∧ upd (fil dw (lkw v (fi a) (lk a)) (v * 8) 8) (b * 8 + q) (nI v) (b' * 8 + w') = -1) ∨ (b' ≠ v ∧ LNK dn mp fi lk nb a' b' w' ∧ upd (fil dw (lkw v (fi a) (lk a)) (v * 8) 8) (b * 8 + q) (nI v) (b' * 8 + w') = upd dw (b * 8 + q) (nI v) (b' * 8 + w'))) := fun a' b' w' ⟨h1, h2, h3, h4, h5, h6⟩ => by
    have h8' := r.fl a' h1
    refine ⟨by omega, ?_⟩
    by_cases e : b' = v
    · rw [e, upd_eq] at h3
      have ea := nI_inj (by omega) (by omega) h3
      subst ea
      refine Or.inl ⟨e, rfl, ?_⟩
      rw [e, upd_ne (by omega), fil_i (by omega)]
      unfold lkw
      rw [if_pos (by omega)]
    · rw [upd_ne e] at h3
      refine Or.inr ⟨e, ⟨h1, h2, h3, h4, h5, h6⟩, ?_⟩
      unfold upd
      split
      · rfl
      · rw [fil_o (by omega)]
  refine ⟨fun p hp => upd_c (r.ho p hp), fun p hp => ?_, fun a' b' h1 h2 h3 h4 w hw => upd_c ?_, r.fl, fun a' b' w' h => ?_, fun a' b1 w1 b2 w2 g1 g2 g3 g4 => ?_⟩
  · by_cases e : p = v
    · subst e; exact Or.inr ⟨a, ha, upd_eq _ _ _, hop⟩
    · rw [upd_ne e]; exact r.own p hp
  · by_cases e : b' = v
    · rw [fil_i (by omega), fil_i (by omega)]
    · rw [upd_ne e] at h3
      rw [fil_o (by omega), fil_o (by omega)]
      exact r.wo a' b' h1 h2 h3 h4 w hw
  · obtain ⟨hw8, h9⟩ := key a' b' w' h
    rcases h9 with ⟨-, -, e⟩ | ⟨hne, L9, e⟩
    · exact Or.inl e
    · rw [e]
      by_cases e2 : b' * 8 + w' = b * 8 + q
      · rw [e2, upd_eq]
        have e3 : b' = b := by omega
        subst e3
        rw [nI_inj (by omega) (by have := L9.1; omega) (how.symm.trans L9.2.2.1)]
        exact Or.inr ⟨v, hv, rfl, upd_eq _ _ _⟩
      · rw [upd_ne e2]
        rcases r.lnk a' b' w' L9 with e3 | ⟨g2, h1, h2, h3⟩
        · exact Or.inl e3
        · refine Or.inr ⟨g2, h1, h2, ?_⟩
          rw [upd_ne (fun e4 => by rw [e4, ht] at h3; exact nI_nem1 (by have := L9.1; omega) h3.symm)]
          exact h3
  · obtain ⟨w81, h91⟩ := key a' b1 w1 g1
    obtain ⟨w82, h92⟩ := key a' b2 w2 g2
    rcases h91 with ⟨-, -, e1⟩ | ⟨n1, L1, e1⟩
    · exact absurd e1 g3
    · rcases h92 with ⟨-, -, e2⟩ | ⟨n2, L2, e2⟩
      · rw [e2] at g4; exact absurd g4 g3
      · have no9 : ∀ b' w', LNK dn mp fi lk nb a' b' w' → ¬ dw (b' * 8 + w') = nI v := fun b' w' L9 e9 => by
          rcases r.lnk a' b' w' L9 with e3 | ⟨g2, h1, h2, h3⟩
          · rw [e9] at e3; exact nI_nem1 (by omega) e3
          · rw [nI_inj (by omega) (by omega) (h2.symm.trans e9), ht] at h3
            exact nI_nem1 (by have := L9.1; omega) h3.symm
        rw [e1] at g3 g4
        rw [e2] at g4
        by_cases p1 : b1 * 8 + w1 = b * 8 + q
        · by_cases p2 : b2 * 8 + w2 = b * 8 + q
          · omega
          · rw [p1, upd_eq, upd_ne p2] at g4; exact absurd g4.symm (no9 b2 w2 L2)
        · rw [upd_ne p1] at g3 g4
          by_cases p2 : b2 * 8 + w2 = b * 8 + q
          · rw [p2, upd_eq] at g4; exact absurd g4 (no9 b1 w1 L1)
          · rw [upd_ne p2] at g4; exact r.ij a' b1 w1 b2 w2 L1 L2 g3 g4
theorem upd_fil (f g : Nat → Int32) (lo k t : Nat) (x y : Int32) : upd (fil (upd f t x) g lo k) t y = upd (fil f g lo k) t y := by
  funext j
  unfold upd
  split
  · rfl
  · next e =>
    unfold fil
    split
    · rfl
    · exact if_neg e
set_option maxHeartbeats 4000000 in
set_option maxRecDepth 20000 in
theorem op_write {l : Launch} {L : Nat} {xs : Nat → Int32} {h : pz_H} {z n : Nat} (x y w u : Int32) (hn : n < 4000) (s : ST h n) : OPS l L xs M_K_write M_Mo_write 3 2 [.int x, .int y, .int w, .int u] h z n := by
  obtain ⟨np, nb, mw, mo, mr, mt, mn, md, ts, ck, dw, dn, os, ol, fb, f13, lost, dr, fl, op, mp, fi, lk, pp, pl, pe, qb, qn, qf, ql, td, tl, c1, o1, y1, n1, l1, c2, o2, y2, n2, l2, sa, sx, Mfi, Mlk, Mow, Mtk, Mdl, Mrt, Mwd, Mgo, Mgm, Mln, Mcd, Mst, Mfm, Mfs, Mfl, Mfb, Mho, Mwo, Mda, Men, Mke, Mva, k, e, r⟩ := s
  have hnb := k.nb32
  have hwc : wrg op mp nb Mho x y w = wrg op mp nb dn x y w := by
    unfold wrg
    cases h1 : inn y nb with
    | false => simp
    | true =>
      obtain ⟨b, hb, rfl⟩ := inn_N (by omega) h1
      rw [nI_clamp (by omega), r.rd.ho b hb]
  cases ho : wrg op mp nb dn x y w with
  | false => exact OPS.nn k e r (c_K_write_no k.hK k.hap k.hd x y w u ho) (c_Mo_write_no e.hMo k.np32 k.nb32 e.hOp e.hIm e.hFi e.hLi e.hHo e.hWo x y w u (by rw [hwc]; exact ho))
  | true =>
    obtain ⟨a, b, q, ha, hop, rfl, hb, rfl, hq8, rfl, hmp, how⟩ := wrg_e hnb ho
    have ho : opn op (nI a) = true := by rw [opn_a ha]; exact hop
    have hfk := (r.ra a ha).fk hop hmp
    have hwb := r.rd.wo a b ha hb how hmp q hq8
    by_cases hlink : fi a ≤ q ∧ q < fi a + lk a
    · have L9 : LNK dn mp fi lk nb a b q := ⟨ha, hb, how, hmp, hlink⟩
      by_cases hu : u = -1 ∨ inn u nb = true
      · by_cases hs : dw (b * 8 + q) = u
        · exact OPS.nn k e r (c_K_write_link k.hK k.hap k.hd ha hb hq8 (r.rd.fl a ha) _ ho hmp how hlink (Q0 := fun _ _ _ => True) (c_K_relink_same k.hK k.hap k.hd ha hb hq8 (r.rd.fl a ha) u hu hs) (fun v h' z' q => ⟨nI 0, q.1, rfl, q.2⟩)) (c_Mo_write_same e.hMo k.np32 k.nb32 e.hOp e.hIm e.hFi e.hLi e.hHo e.hWo ha hop (f := fi a) (c := lk a) hmp hfk.1 hfk.2 (r.rd.fl a ha) hb hq8 ((r.rd.ho b hb).trans how) hlink u hu (hwb.trans hs))
        · rcases r.rd.lnk a b q L9 with hg | ⟨g, hg1, hg, hga⟩
          · obtain ⟨v, hv, rfl⟩ := inn_N (by omega) (hu.resolve_left (fun e9 => hs (hg.trans e9.symm)))
            by_cases ht : dn v = -1
            · refine OPS.ch2 (c_K_write_link k.hK k.hap k.hd ha hb hq8 (r.rd.fl a ha) _ ho hmp how hlink (Q0 := fun _ _ _ => True) (c_K_relink_ns k.hK k.hap k.hd ha hb hq8 (r.rd.fl a ha) hv hg (by rw [← hg]; exact hs) ht) (fun v h' z' q => ⟨nI 0, q.1, rfl, q.2⟩)) (fun h1 hp => ?_) (fun h1 (k1 : KER h1 np nb mw mo mr mt mn md ts ck (upd (fil dw (lkw v (fi a) (lk a)) (v * 8) 8) (b * 8 + q) (nI v)) (upd dn v (nI a)) os ol fb f13 lost dr fl op mp fi lk pp pl pe qb qn qf ql td tl c1 o1 y1 n1 l1 c2 o2 y2 n2 l2) (e1 : MOD h1 np nb ck ts lost ol f13 op mp sa sx Mfi Mlk Mow Mtk Mdl Mrt Mwd Mgo Mgm Mln Mcd Mst Mfm Mfs Mfl Mfb Mho Mwo Mda Men Mke Mva) => c_Mo_write_ns e1.hMo k.np32 k.nb32 e1.hOp e1.hIm e1.hFi e1.hLi e1.hHo e1.hWo ha hop (f := fi a) (c := lk a) hmp hfk.1 hfk.2 (r.rd.fl a ha) hb hq8 ((r.rd.ho b hb).trans how) hlink hv (hwb.trans hg) (by rw [r.rd.ho v hv, ht]; decide)) (fun h1 h2 k1 e1 hp2 => ?_)
              · obtain ⟨hd, hf⟩ := hp
                have k1 : KER h1 np nb mw mo mr mt mn md ts ck (upd (fil dw (lkw v (fi a) (lk a)) (v * 8) 8) (b * 8 + q) (nI v)) (upd dn v (nI a)) os ol fb f13 lost dr fl op mp fi lk pp pl pe qb qn qf ql td tl c1 o1 y1 n1 l1 c2 o2 y2 n2 l2 := ⟨k.hK.on (fun c h1 h2 => hf c (by omega)) (fun c h1 h2 => hf c (by omega)), k.hm.on (fun c h1 h2 => hf c (by omega)), hd, k.ho.on (fun c h1 h2 => hf c (by omega)), k.hr.on (fun c h1 h2 => hf c (by omega)), fun i hi => (k.ap i hi).on (fun c h1 h2 => hf c (by omega))⟩
                have e1 : MOD h1 np nb ck ts lost ol f13 op mp sa sx Mfi Mlk Mow Mtk Mdl Mrt Mwd Mgo Mgm Mln Mcd Mst Mfm Mfs Mfl Mfb Mho Mwo Mda Men Mke Mva := e.mv (fun c hc => hf c (by omega))
                exact ⟨⟨_, k1.hK.1⟩, ⟨_, e1.hMo⟩, k1, e1⟩
              · obtain ⟨hHo, hWo, hf2⟩ := hp2
                have hR : REL np nb mw mo mr mt mn md ts ck (upd (fil dw (lkw v (fi a) (lk a)) (v * 8) 8) (b * 8 + q) (nI v)) (upd dn v (nI a)) os ol fb f13 lost dr fl op mp fi lk pp pl pe qb qn qf ql td tl c1 o1 y1 n1 l1 c2 o2 y2 n2 l2 sa sx Mfi Mlk Mow Mtk Mdl Mrt Mwd Mgo Mgm Mln Mcd Mst Mfm Mfs Mfl Mfb (upd Mho v (nI a)) (upd (fil Mwo (lkw v (fi a) (lk a)) (v * 8) 8) (b * 8 + q) (nI v)) Mda Men Mke Mva (n + 1) := by
                  exact ⟨(by have := r.tsn; omega), (by have := r.ckn; omega), (r.rm), (r.rd.ns L9 hop hv ht hnb), (r.ro), (r.rf), (fun i hi => (r.ra i hi).cg (k.ap i hi) rfl rfl (fun _ _ => rfl) rfl rfl (fun _ _ => rfl) (fun _ _ => rfl) rfl (fun _ _ => rfl) (fun _ _ _ _ => rfl) (fun _ _ => rfl) rfl (fun _ _ => rfl) (fun _ _ => rfl) (fun h1 h2 b0 hb0 hd0 => by have nb9 : b0 ≠ b := fun e9 => nI_ne hi ha (fun e8 => by rw [e8, hmp] at h2; cases h2) (hd0.symm.trans (by rw [e9]; exact how)); have nv9 : b0 ≠ v := fun e9 => (by rw [e9, ht] at hd0; exact nI_nem1 (by omega) hd0.symm); exact ⟨by rw [upd_ne nv9]; exact hd0, fun w hw => by rw [upd_ne (by omega), fil_o (by omega)]⟩))⟩
                exact ST.mk (k1.mv (hf2.lo (by decide))) ⟨MOB.mv e1.hMo (hf2 166 (by decide)), (hf2 167 (by decide)).trans e1.hOp, (hf2 168 (by decide)).trans e1.hIm, (hf2 169 (by decide)).trans e1.hFi, (hf2 170 (by decide)).trans e1.hLi, (hf2 171 (by decide)).trans e1.hOw, (hf2 172 (by decide)).trans e1.hTk, (hf2 173 (by decide)).trans e1.hDl, (hf2 174 (by decide)).trans e1.hRt, (hf2 175 (by decide)).trans e1.hWd, (hf2 176 (by decide)).trans e1.hGo, (hf2 177 (by decide)).trans e1.hGm, (hf2 178 (by decide)).trans e1.hLn, (hf2 179 (by decide)).trans e1.hCd, (hf2 180 (by decide)).trans e1.hSt, (hf2 181 (by decide)).trans e1.hFm, (hf2 182 (by decide)).trans e1.hFs, (hf2 183 (by decide)).trans e1.hFl, (hf2 184 (by decide)).trans e1.hFb, hHo, hWo, (hf2 187 (by decide)).trans e1.hDa, (hf2 188 (by decide)).trans e1.hEn, (hf2 189 (by decide)).trans e1.hKe, (hf2 190 (by decide)).trans e1.hVa⟩ hR
            · have hM9 : 0 ≤ Mho v := by
                rw [r.rd.ho v hv]
                obtain ⟨a', h1, h2, -⟩ := (r.rd.own v hv).resolve_left ht
                rw [h2]; exact nI_nn (by omega)
              exact OPS.nn k e r (c_K_write_link k.hK k.hap k.hd ha hb hq8 (r.rd.fl a ha) _ ho hmp how hlink (Q0 := fun _ _ _ => True) (c_K_relink_taken_n k.hK k.hap k.hd ha hb hq8 (r.rd.fl a ha) hv hg (by rw [← hg]; exact hs) ht) (fun v h' z' q => ⟨-4, q.1, rfl, q.2⟩)) (c_Mo_write_taken_n e.hMo k.np32 k.nb32 e.hOp e.hIm e.hFi e.hLi e.hHo e.hWo ha hop (f := fi a) (c := lk a) hmp hfk.1 hfk.2 (r.rd.fl a ha) hb hq8 ((r.rd.ho b hb).trans how) hlink hv (hwb.trans hg) hM9)
          · by_cases hbz : ff (fun j => !decide (dw (g * 8 + j) = -1)) (fi a + lk a - fi a) (fi a) < fi a + lk a
            · exact OPS.nn k e r (c_K_write_link k.hK k.hap k.hd ha hb hq8 (r.rd.fl a ha) _ ho hmp how hlink (Q0 := fun _ _ _ => True) (c_K_relink_busy k.hK k.hap k.hd ha hb hq8 (r.rd.fl a ha) u hu hg hg1 (by rw [← hg]; exact hs) hbz) (fun v h' z' q => ⟨-3, q.1, rfl, q.2⟩)) (c_Mo_write_busy e.hMo k.np32 k.nb32 e.hOp e.hIm e.hFi e.hLi e.hHo e.hWo ha hop (f := fi a) (c := lk a) hmp hfk.1 hfk.2 (r.rd.fl a ha) hb hq8 ((r.rd.ho b hb).trans how) hlink (hwb.trans hg) hg1 u hu (by rw [← hg]; exact hs) ((r.rd.bsy ha hg1 hga hmp).mpr hbz))
            · have hbm : ¬ ff (fun w => decide (fi a ≤ w ∧ w < fi a + lk a) && !decide (Mwo (g * 8 + w) = -1)) 8 0 < 8 := fun q9 => hbz ((r.rd.bsy ha hg1 hga hmp).mp q9)
              obtain ⟨rdS, -, hgb⟩ := r.rd.sn L9 hg1 hg hbz hnb
              rcases hu with rfl | hu
              · refine OPS.ch2 (c_K_write_link k.hK k.hap k.hd ha hb hq8 (r.rd.fl a ha) _ ho hmp how hlink (Q0 := fun _ _ _ => True) (c_K_relink_sn k.hK k.hap k.hd ha hb hq8 (r.rd.fl a ha) hg hg1 hbz (by rw [← hg]; exact hs)) (fun v h' z' q => ⟨nI 0, q.1, rfl, q.2⟩)) (fun h1 hp => ?_) (fun h1 (k1 : KER h1 np nb mw mo mr mt mn md ts ck (upd dw (b * 8 + q) (-1)) (upd dn g (-1)) os ol fb f13 lost dr fl op mp fi lk pp pl pe qb qn qf ql td tl c1 o1 y1 n1 l1 c2 o2 y2 n2 l2) (e1 : MOD h1 np nb ck ts lost ol f13 op mp sa sx Mfi Mlk Mow Mtk Mdl Mrt Mwd Mgo Mgm Mln Mcd Mst Mfm Mfs Mfl Mfb Mho Mwo Mda Men Mke Mva) => c_Mo_write_sn e1.hMo k.np32 k.nb32 e1.hOp e1.hIm e1.hFi e1.hLi e1.hHo e1.hWo ha hop (f := fi a) (c := lk a) hmp hfk.1 hfk.2 (r.rd.fl a ha) hb hq8 ((r.rd.ho b hb).trans how) hlink (hwb.trans hg) hg1 hbm) (fun h1 h2 k1 e1 hp2 => ?_)
                · obtain ⟨hd, hf⟩ := hp
                  have k1 : KER h1 np nb mw mo mr mt mn md ts ck (upd dw (b * 8 + q) (-1)) (upd dn g (-1)) os ol fb f13 lost dr fl op mp fi lk pp pl pe qb qn qf ql td tl c1 o1 y1 n1 l1 c2 o2 y2 n2 l2 := ⟨k.hK.on (fun c h1 h2 => hf c (by omega)) (fun c h1 h2 => hf c (by omega)), k.hm.on (fun c h1 h2 => hf c (by omega)), hd, k.ho.on (fun c h1 h2 => hf c (by omega)), k.hr.on (fun c h1 h2 => hf c (by omega)), fun i hi => (k.ap i hi).on (fun c h1 h2 => hf c (by omega))⟩
                  have e1 : MOD h1 np nb ck ts lost ol f13 op mp sa sx Mfi Mlk Mow Mtk Mdl Mrt Mwd Mgo Mgm Mln Mcd Mst Mfm Mfs Mfl Mfb Mho Mwo Mda Men Mke Mva := e.mv (fun c hc => hf c (by omega))
                  exact ⟨⟨_, k1.hK.1⟩, ⟨_, e1.hMo⟩, k1, e1⟩
                · obtain ⟨hHo, hWo, hf2⟩ := hp2
                  have hR : REL np nb mw mo mr mt mn md ts ck (upd dw (b * 8 + q) (-1)) (upd dn g (-1)) os ol fb f13 lost dr fl op mp fi lk pp pl pe qb qn qf ql td tl c1 o1 y1 n1 l1 c2 o2 y2 n2 l2 sa sx Mfi Mlk Mow Mtk Mdl Mrt Mwd Mgo Mgm Mln Mcd Mst Mfm Mfs Mfl Mfb (upd Mho g (-1)) (upd Mwo (b * 8 + q) (-1)) Mda Men Mke Mva (n + 1) := by
                    exact ⟨(by have := r.tsn; omega), (by have := r.ckn; omega), (r.rm), (rdS), (r.ro), (r.rf), (fun i hi => (r.ra i hi).cg (k.ap i hi) rfl rfl (fun _ _ => rfl) rfl rfl (fun _ _ => rfl) (fun _ _ => rfl) rfl (fun _ _ => rfl) (fun _ _ _ _ => rfl) (fun _ _ => rfl) rfl (fun _ _ => rfl) (fun _ _ => rfl) (fun h1 h2 b0 hb0 hd0 => by have nb9 : b0 ≠ b := fun e9 => nI_ne hi ha (fun e8 => by rw [e8, hmp] at h2; cases h2) (hd0.symm.trans (by rw [e9]; exact how)); have ng9 : b0 ≠ g := fun e9 => nI_ne hi ha (fun e8 => by rw [e8, hmp] at h2; cases h2) (hd0.symm.trans (by rw [e9]; exact hga)); exact ⟨by rw [upd_ne ng9]; exact hd0, fun w hw => upd_ne (by omega)⟩))⟩
                  exact ST.mk (k1.mv (hf2.lo (by decide))) ⟨MOB.mv e1.hMo (hf2 166 (by decide)), (hf2 167 (by decide)).trans e1.hOp, (hf2 168 (by decide)).trans e1.hIm, (hf2 169 (by decide)).trans e1.hFi, (hf2 170 (by decide)).trans e1.hLi, (hf2 171 (by decide)).trans e1.hOw, (hf2 172 (by decide)).trans e1.hTk, (hf2 173 (by decide)).trans e1.hDl, (hf2 174 (by decide)).trans e1.hRt, (hf2 175 (by decide)).trans e1.hWd, (hf2 176 (by decide)).trans e1.hGo, (hf2 177 (by decide)).trans e1.hGm, (hf2 178 (by decide)).trans e1.hLn, (hf2 179 (by decide)).trans e1.hCd, (hf2 180 (by decide)).trans e1.hSt, (hf2 181 (by decide)).trans e1.hFm, (hf2 182 (by decide)).trans e1.hFs, (hf2 183 (by decide)).trans e1.hFl, (hf2 184 (by decide)).trans e1.hFb, hHo, hWo, (hf2 187 (by decide)).trans e1.hDa, (hf2 188 (by decide)).trans e1.hEn, (hf2 189 (by decide)).trans e1.hKe, (hf2 190 (by decide)).trans e1.hVa⟩ hR
              · obtain ⟨v, hv, rfl⟩ := inn_N (by omega) hu
                have hgv : ¬ g = v := fun e9 => hs (by rw [hg, e9])
                by_cases ht : dn v = -1
                · have hvb : v ≠ b := fun e9 => by rw [e9, how] at ht; exact nI_nem1 (by omega) ht
                  have rdN := rdS.ns (a := a) (b := b) (q := q) (v := v) ⟨ha, hb, by rw [upd_ne (Ne.symm hgb)]; exact how, hmp, hlink⟩ hop hv (by rw [upd_ne (Ne.symm hgv)]; exact ht) hnb
                  rw [upd_fil, upd_fil] at rdN
                  refine OPS.ch2 (c_K_write_link k.hK k.hap k.hd ha hb hq8 (r.rd.fl a ha) _ ho hmp how hlink (Q0 := fun _ _ _ => True) (c_K_relink_ss k.hK k.hap k.hd ha hb hq8 (r.rd.fl a ha) hv hg hg1 hbz hgv ht) (fun v h' z' q => ⟨nI 0, q.1, rfl, q.2⟩)) (fun h1 hp => ?_) (fun h1 (k1 : KER h1 np nb mw mo mr mt mn md ts ck (upd (fil dw (lkw v (fi a) (lk a)) (v * 8) 8) (b * 8 + q) (nI v)) (upd (upd dn g (-1)) v (nI a)) os ol fb f13 lost dr fl op mp fi lk pp pl pe qb qn qf ql td tl c1 o1 y1 n1 l1 c2 o2 y2 n2 l2) (e1 : MOD h1 np nb ck ts lost ol f13 op mp sa sx Mfi Mlk Mow Mtk Mdl Mrt Mwd Mgo Mgm Mln Mcd Mst Mfm Mfs Mfl Mfb Mho Mwo Mda Men Mke Mva) => c_Mo_write_ss e1.hMo k.np32 k.nb32 e1.hOp e1.hIm e1.hFi e1.hLi e1.hHo e1.hWo ha hop (f := fi a) (c := lk a) hmp hfk.1 hfk.2 (r.rd.fl a ha) hb hq8 ((r.rd.ho b hb).trans how) hlink hv (hwb.trans hg) hg1 hbm hgv (by rw [r.rd.ho v hv, ht]; decide)) (fun h1 h2 k1 e1 hp2 => ?_)
                  · obtain ⟨hd, hf⟩ := hp
                    have k1 : KER h1 np nb mw mo mr mt mn md ts ck (upd (fil dw (lkw v (fi a) (lk a)) (v * 8) 8) (b * 8 + q) (nI v)) (upd (upd dn g (-1)) v (nI a)) os ol fb f13 lost dr fl op mp fi lk pp pl pe qb qn qf ql td tl c1 o1 y1 n1 l1 c2 o2 y2 n2 l2 := ⟨k.hK.on (fun c h1 h2 => hf c (by omega)) (fun c h1 h2 => hf c (by omega)), k.hm.on (fun c h1 h2 => hf c (by omega)), hd, k.ho.on (fun c h1 h2 => hf c (by omega)), k.hr.on (fun c h1 h2 => hf c (by omega)), fun i hi => (k.ap i hi).on (fun c h1 h2 => hf c (by omega))⟩
                    have e1 : MOD h1 np nb ck ts lost ol f13 op mp sa sx Mfi Mlk Mow Mtk Mdl Mrt Mwd Mgo Mgm Mln Mcd Mst Mfm Mfs Mfl Mfb Mho Mwo Mda Men Mke Mva := e.mv (fun c hc => hf c (by omega))
                    exact ⟨⟨_, k1.hK.1⟩, ⟨_, e1.hMo⟩, k1, e1⟩
                  · obtain ⟨hHo, hWo, hf2⟩ := hp2
                    have hR : REL np nb mw mo mr mt mn md ts ck (upd (fil dw (lkw v (fi a) (lk a)) (v * 8) 8) (b * 8 + q) (nI v)) (upd (upd dn g (-1)) v (nI a)) os ol fb f13 lost dr fl op mp fi lk pp pl pe qb qn qf ql td tl c1 o1 y1 n1 l1 c2 o2 y2 n2 l2 sa sx Mfi Mlk Mow Mtk Mdl Mrt Mwd Mgo Mgm Mln Mcd Mst Mfm Mfs Mfl Mfb (upd (upd Mho g (-1)) v (nI a)) (upd (fil Mwo (lkw v (fi a) (lk a)) (v * 8) 8) (b * 8 + q) (nI v)) Mda Men Mke Mva (n + 1) := by
                      exact ⟨(by have := r.tsn; omega), (by have := r.ckn; omega), (r.rm), (rdN), (r.ro), (r.rf), (fun i hi => (r.ra i hi).cg (k.ap i hi) rfl rfl (fun _ _ => rfl) rfl rfl (fun _ _ => rfl) (fun _ _ => rfl) rfl (fun _ _ => rfl) (fun _ _ _ _ => rfl) (fun _ _ => rfl) rfl (fun _ _ => rfl) (fun _ _ => rfl) (fun h1 h2 b0 hb0 hd0 => by have nb9 : b0 ≠ b := fun e9 => nI_ne hi ha (fun e8 => by rw [e8, hmp] at h2; cases h2) (hd0.symm.trans (by rw [e9]; exact how)); have nv9 : b0 ≠ v := fun e9 => (by rw [e9, ht] at hd0; exact nI_nem1 (by omega) hd0.symm); have ng9 : b0 ≠ g := fun e9 => nI_ne hi ha (fun e8 => by rw [e8, hmp] at h2; cases h2) (hd0.symm.trans (by rw [e9]; exact hga)); exact ⟨by rw [upd_ne nv9, upd_ne ng9]; exact hd0, fun w hw => by rw [upd_ne (by omega), fil_o (by omega)]⟩))⟩
                    exact ST.mk (k1.mv (hf2.lo (by decide))) ⟨MOB.mv e1.hMo (hf2 166 (by decide)), (hf2 167 (by decide)).trans e1.hOp, (hf2 168 (by decide)).trans e1.hIm, (hf2 169 (by decide)).trans e1.hFi, (hf2 170 (by decide)).trans e1.hLi, (hf2 171 (by decide)).trans e1.hOw, (hf2 172 (by decide)).trans e1.hTk, (hf2 173 (by decide)).trans e1.hDl, (hf2 174 (by decide)).trans e1.hRt, (hf2 175 (by decide)).trans e1.hWd, (hf2 176 (by decide)).trans e1.hGo, (hf2 177 (by decide)).trans e1.hGm, (hf2 178 (by decide)).trans e1.hLn, (hf2 179 (by decide)).trans e1.hCd, (hf2 180 (by decide)).trans e1.hSt, (hf2 181 (by decide)).trans e1.hFm, (hf2 182 (by decide)).trans e1.hFs, (hf2 183 (by decide)).trans e1.hFl, (hf2 184 (by decide)).trans e1.hFb, hHo, hWo, (hf2 187 (by decide)).trans e1.hDa, (hf2 188 (by decide)).trans e1.hEn, (hf2 189 (by decide)).trans e1.hKe, (hf2 190 (by decide)).trans e1.hVa⟩ hR
                · have hM9 : 0 ≤ Mho v := by
                    rw [r.rd.ho v hv]
                    obtain ⟨a', h1, h2, -⟩ := (r.rd.own v hv).resolve_left ht
                    rw [h2]; exact nI_nn (by omega)
                  exact OPS.nn k e r (c_K_write_link k.hK k.hap k.hd ha hb hq8 (r.rd.fl a ha) _ ho hmp how hlink (Q0 := fun _ _ _ => True) (c_K_relink_taken_s k.hK k.hap k.hd ha hb hq8 (r.rd.fl a ha) hv hg hg1 hbz hgv ht) (fun v h' z' q => ⟨-4, q.1, rfl, q.2⟩)) (c_Mo_write_taken_s e.hMo k.np32 k.nb32 e.hOp e.hIm e.hFi e.hLi e.hHo e.hWo ha hop (f := fi a) (c := lk a) hmp hfk.1 hfk.2 (r.rd.fl a ha) hb hq8 ((r.rd.ho b hb).trans how) hlink hv (hwb.trans hg) hg1 hbm hgv hM9)
      · have hu1 : ¬ u = -1 := fun e9 => hu (Or.inl e9)
        have hu2 : inn u nb = false := by
          cases h9 : inn u nb with
          | false => rfl
          | true => exact absurd (Or.inr h9) hu
        exact OPS.nn k e r (c_K_write_link k.hK k.hap k.hd ha hb hq8 (r.rd.fl a ha) _ ho hmp how hlink (Q0 := fun _ _ _ => True) (c_K_relink_bad k.hK k.hap k.hd ha hb hq8 (r.rd.fl a ha) u hu1 hu2) (fun v h' z' q => ⟨-1, q.1, rfl, q.2⟩)) (c_Mo_write_bad e.hMo k.np32 k.nb32 e.hOp e.hIm e.hFi e.hLi e.hHo e.hWo ha hop (f := fi a) (c := lk a) hmp hfk.1 hfk.2 (r.rd.fl a ha) hb hq8 ((r.rd.ho b hb).trans how) hlink u hu1 hu2)
    · refine OPS.ch2 (c_K_write_plain k.hK k.hap k.hd ha hb hq8 (r.rd.fl a ha) u ho hmp how hlink) (fun h1 hp => ?_) (fun h1 (k1 : KER h1 np nb mw mo mr mt mn md ts ck (upd dw (b * 8 + q) u) dn os ol fb f13 lost dr fl op mp fi lk pp pl pe qb qn qf ql td tl c1 o1 y1 n1 l1 c2 o2 y2 n2 l2) (e1 : MOD h1 np nb ck ts lost ol f13 op mp sa sx Mfi Mlk Mow Mtk Mdl Mrt Mwd Mgo Mgm Mln Mcd Mst Mfm Mfs Mfl Mfb Mho Mwo Mda Men Mke Mva) => c_Mo_write_plain e1.hMo k.np32 k.nb32 e1.hOp e1.hIm e1.hFi e1.hLi e1.hHo e1.hWo ha hop (f := fi a) (c := lk a) hmp hfk.1 hfk.2 (r.rd.fl a ha) hb hq8 ((r.rd.ho b hb).trans how) u hlink) (fun h1 h2 k1 e1 hp2 => ?_)
      · obtain ⟨hd, hf⟩ := hp
        have k1 : KER h1 np nb mw mo mr mt mn md ts ck (upd dw (b * 8 + q) u) dn os ol fb f13 lost dr fl op mp fi lk pp pl pe qb qn qf ql td tl c1 o1 y1 n1 l1 c2 o2 y2 n2 l2 := ⟨k.hK.on (fun c h1 h2 => hf c (by omega)) (fun c h1 h2 => hf c (by omega)), k.hm.on (fun c h1 h2 => hf c (by omega)), hd, k.ho.on (fun c h1 h2 => hf c (by omega)), k.hr.on (fun c h1 h2 => hf c (by omega)), fun i hi => (k.ap i hi).on (fun c h1 h2 => hf c (by omega))⟩
        have e1 : MOD h1 np nb ck ts lost ol f13 op mp sa sx Mfi Mlk Mow Mtk Mdl Mrt Mwd Mgo Mgm Mln Mcd Mst Mfm Mfs Mfl Mfb Mho Mwo Mda Men Mke Mva := e.mv (fun c hc => hf c (by omega))
        exact ⟨⟨_, k1.hK.1⟩, ⟨_, e1.hMo⟩, k1, e1⟩
      · obtain ⟨hWo, hf2⟩ := hp2
        have hR : REL np nb mw mo mr mt mn md ts ck (upd dw (b * 8 + q) u) dn os ol fb f13 lost dr fl op mp fi lk pp pl pe qb qn qf ql td tl c1 o1 y1 n1 l1 c2 o2 y2 n2 l2 sa sx Mfi Mlk Mow Mtk Mdl Mrt Mwd Mgo Mgm Mln Mcd Mst Mfm Mfs Mfl Mfb Mho (upd Mwo (b * 8 + q) u) Mda Men Mke Mva (n + 1) := by
          exact ⟨(by have := r.tsn; omega), (by have := r.ckn; omega), (r.rm), (r.rd.pl ha hb hq8 how hlink), (r.ro), (r.rf), (fun i hi => (r.ra i hi).cg (k.ap i hi) rfl rfl (fun _ _ => rfl) rfl rfl (fun _ _ => rfl) (fun _ _ => rfl) rfl (fun _ _ => rfl) (fun _ _ _ _ => rfl) (fun _ _ => rfl) rfl (fun _ _ => rfl) (fun _ _ => rfl) (fun h1 h2 b0 hb0 hd0 => by have nb9 : b0 ≠ b := fun e9 => nI_ne hi ha (fun e8 => by rw [e8, hmp] at h2; cases h2) (hd0.symm.trans (by rw [e9]; exact how)); exact ⟨hd0, fun w hw => upd_ne (by omega)⟩))⟩
        exact ST.mk (k1.mv (hf2.lo (by decide))) ⟨MOB.mv e1.hMo (hf2 166 (by decide)), (hf2 167 (by decide)).trans e1.hOp, (hf2 168 (by decide)).trans e1.hIm, (hf2 169 (by decide)).trans e1.hFi, (hf2 170 (by decide)).trans e1.hLi, (hf2 171 (by decide)).trans e1.hOw, (hf2 172 (by decide)).trans e1.hTk, (hf2 173 (by decide)).trans e1.hDl, (hf2 174 (by decide)).trans e1.hRt, (hf2 175 (by decide)).trans e1.hWd, (hf2 176 (by decide)).trans e1.hGo, (hf2 177 (by decide)).trans e1.hGm, (hf2 178 (by decide)).trans e1.hLn, (hf2 179 (by decide)).trans e1.hCd, (hf2 180 (by decide)).trans e1.hSt, (hf2 181 (by decide)).trans e1.hFm, (hf2 182 (by decide)).trans e1.hFs, (hf2 183 (by decide)).trans e1.hFl, (hf2 184 (by decide)).trans e1.hFb, (hf2 185 (by decide)).trans e1.hHo, hWo, (hf2 187 (by decide)).trans e1.hDa, (hf2 188 (by decide)).trans e1.hEn, (hf2 189 (by decide)).trans e1.hKe, (hf2 190 (by decide)).trans e1.hVa⟩ hR
