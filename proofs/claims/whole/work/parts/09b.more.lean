/-! a contract of a method of another package; a copy of a stretch of ints -/
theorem pz_K.ofF {l : Launch} {L : Nat} {xs : Nat → Int32} {M : pz_M} {d mc ms : Nat} {as : List Value} {h : pz_H} {z : Nat} {Q : pz_Q} (hy : plainFor M.1 = true) (hn : (as.map Value.category).sum ≤ M.2.2.1) (kk : pz_E l L xs M d mc ms 0 (pz_in M.2.2.1 as) [] h z Q) : pz_K l L xs M d mc ms as h z Q := by
  intro D g b cA
  refine MetFree.of_bodySF (code := M.2.1) (maxLocals := M.2.2.1) (ret := M.2.2.2) hy ?_ ?_
  · intro args s m h hn
    obtain ⟨meth, c, h1, h2, h3, h4, h5, h6, -, -⟩ := Cond.code_spec hn (atoms_spec (ws := pz_ws M) h _ List.mem_cons_self)
    exact ⟨meth, c, h1, h2, h3, h4, h5, h6⟩
  intro p e s m args below meth c s₁ B hml hv _
  have hh0 : s₁.heap = s.heap := by rw [B.state]; rfl
  have K9 : W p l e (headSpec (pz_ws M) (pz_rm d mc ms)).room s m args below meth c s.heap [] 0 0 (MQ below (pz_Qc D g b cA Q) args s mc ms (fun q => g ≤ q)) (entryFrame m args M.2.2.1) := by
    obtain ⟨rfl, hG, hP⟩ := hv
    have hx := B.exec
    have hb := B.bytes
    have hr := B.returns
    have hts := atoms_spec (ws := pz_ws M) B.pre
    have hown : s.vm.findClass M.1.cls = some m.cls := findClass_of_methodNamed B.named
    have hlocks := B.notSynchronized
    have hin : meth.name = M.1.name := (name_of_methodNamed B.named B.method).1
    have hl := pz_entry g b as M.2.2.1 (by rw [pz_sl]; exact hn)
    rw [lg_entry_eq]
    refine kk p e s m _ below meth c (pz_rm d mc ms) s.heap [] 0 0 D g b cA mc ms _ _ ⟨⟨hx, hb, hml, hown, fun w hw => hts w (List.mem_cons_of_mem _ hw)⟩, hin, ⟨Nat.le_refl _, Nat.le_refl _, Nat.le_refl _, Nat.le_refl _⟩, hG, hP, va_S.rf, hl, ⟨by omega, by omega⟩, ?_⟩
    intro v h' z' H' locs' cells' slots' pc' A' hret hq hP' hS' hc1 hc2
    refine W.widen hc1 hc2 ?_
    have hQ : ∀ t : State, t.heap = H' → pz_Qc D g b cA Q (as.map (pz_v g b)).toArray s (.returned (v.map (pz_v g b))) t := fun t ht => ⟨v, h', z', rfl, hq, by rw [ht]; exact hP', hS'.F ht⟩
    match v, hret, hQ with
    | none, hret, hQ => exact W.vret hx hb (hr.trans hret.2) (fun t ht _ => hQ t ht) hS'.2.2 hret.1
    | some (.int x), hret, hQ =>
      obtain ⟨h1, ty, h2, h3⟩ := hret
      exact W.zret hx hb (hr.trans h2) h3 (fun t ht _ => hQ t ht) hS'.2.2 h1
    | some (.long x), hret, hQ => exact W.lret hx hb (hr.trans hret.2) (fun t ht _ => hQ t ht) hS'.2.2 hret.1
    | some (.ref x), hret, hQ =>
      obtain ⟨h1, C, h2⟩ := hret
      exact W.aret hx hb (hr.trans h2) (Or.inl ⟨C, rfl⟩) (Or.inr ⟨_, rfl⟩) (fun t ht _ => hQ t ht) hS'.2.2 h1
  obtain ⟨t, a1, o, b1, b2, b3⟩ := K9 s₁ hh0 (Stand.of_body B)
  exact ⟨t, o, a1, b1, b2, ⟨b3.1, b3.2⟩⟩

set_option maxHeartbeats 4000000 in
theorem pe_copy {l : Launch} {L : Nat} {xs : Nat → Int32} {M : pz_M} {d fc fs pc : Nat} {ls : List (Option Value)} {st : List Value} {h : pz_H} {z : Nat} {Q : pz_Q} {idx a0 a n0 n1 n : Nat} {f f1 : Nat → Int32} (hd : decode M.2.1 pc = .ok (.invokestatic idx, 3)) (hw1 : Cond.methodLink M.1.cls idx arraycopyName ∈ px_tbl) (hw2 : Cond.native arraycopyName ∈ px_tbl) (hw3 : Cond.static arraycopyName ∈ px_tbl) (hw4 : Cond.initialized "java/lang/System" ∈ px_tbl) (hh0 : h a0 = some (.inl (0, n0, .inl f))) (hh1 : h a = some (.inl (0, n1, .inl f1))) (h4 : n ≤ n0) (h5 : n ≤ n1) (hnn : n < 2147483648) (hst : (st.map Value.category).sum ≤ 8) (hdd : 1 ≤ d)
    (kk : pz_E l L xs M d fc fs (pc + 3) ls st (pu h a (.inl (0, n1, .inl (va_cpy f f1 0 0 n)))) z Q) : pz_E l L xs M d fc fs pc ls (.int (nI n) :: .int (nI 0) :: .ref a :: .int (nI 0) :: .ref a0 :: st) h z Q := by
  intro p e s m args below meth c R H locs cells slots D g b cA mc ms Qm A X
  obtain ⟨⟨hx, hb, hml, hown, hts⟩, hnm, ⟨hR1, hR2, hR3, hR4⟩, ⟨hK, hN, hbg, hgs, hX⟩, ⟨hP, hsz, hd1, hd2⟩, hS, hlv, ⟨hc1, hc2⟩, hret⟩ := id X
  have hat0 := pz_w_at (g := g) (b := b) (cA := cA) (h := h) (hd1 a0 _ hh0)
  rw [hh0] at hat0
  have hat1 := pz_w_at (g := g) (b := b) (cA := cA) (h := h) (hd1 a _ hh1)
  rw [hh1] at hat1
  have hrm : ((st.map (pz_v g b)).map fun v => v.category).sum ≤ 8 := by
    rw [List.map_map, show ((fun v => v.category) ∘ pz_v g b) = Value.category from funext (fun v => pz_cat g b v)]
    exact hst
  have hlo : 32 ≤ R.locals := by
    have h8 : px_lc * 1 ≤ px_lc * d := Nat.mul_le_mul_left _ hdd
    have h7 : px_lc = 32 := rfl
    omega
  intro T hT Y
  have hcs : H[g + a0]? = some (vp_cell (cA 0) (n0, .inl f)) := hP a0 _ hat0
  have hcd : H[g + a]? = some (vp_cell (cA 0) (n1, .inl f1)) := hP a _ hat1
  obtain ⟨-, k0, hk0, cm0, hkk0⟩ := (hK.2 0 _ (pz_tys_at (t := 0) rfl)).1 n0 (fun j => .int (f j))
  obtain ⟨-, k1, hk1, cm1, hkk1⟩ := (hK.2 0 _ (pz_tys_at (t := 0) rfl)).1 n1 (fun j => .int (f1 j))
  have z0 : (nI 0).toInt = 0 := by decide
  have c0 : (nI 0).toNatClampNeg = 0 := by decide
  have cn : (nI n).toNatClampNeg = n := nI_clamp hnn
  have zn : (nI n).toInt = (n : Int) := nI_toInt hnn
  obtain ⟨vm', X', step⟩ := Y.arraycopy hx hown (hts _ hw1) (hts _ hw2) (hts _ hw3) (hts _ hw4) (src := g + a0) (dst := g + a) (cs := vp_cell (cA 0) (n0, .inl f)) (cd := vp_cell (cA 0) (n1, .inl f1)) (srcPos := nI 0) (destPos := nI 0) (n := nI n) (by rw [hT]; exact hcs) (by rw [hT]; exact hcd)
    (fun _ h => by cases h) (fun _ h => by cases h) (fun h => by cases h) (fun h => by cases h) hk0 hk1 hkk0 hkk1 rfl (by decide) (by decide) (nI_pos hnn)
    (by rw [z0, zn]; show ¬ _ > ((arrV (cA 0) n0 (fun j => .int (f j))).slots.size : Int); rw [arrV_size]; omega)
    (by rw [z0, zn]; show ¬ _ > ((arrV (cA 0) n1 (fun j => .int (f1 j))).slots.size : Int); rw [arrV_size]; omega)
    (fun vm₁ _ i hi => by
      rw [cn] at hi
      have e : (vp_cell (cA 0) (n0, .inl f)).slots.getD ((nI 0).toNatClampNeg + i) .null = .int (f i) := by
        show (arrV (cA 0) n0 (fun j => .int (f j))).slots.getD _ _ = _
        rw [c0, Nat.zero_add, Array.getD_eq_getD_getElem?, arrV_read _ _ (by omega)]
        rfl
      refine ⟨?_, ?_⟩
      · rw [e]
        rfl
      · rw [e]
        exact trivial)
    (g := F0 m pc A (.int (nI n) :: .int (nI 0) :: .ref (g + a) :: .int (nI 0) :: .ref (g + a0) :: st.map (pz_v g b))) rfl (by rw [hml]; exact hlv.1) (rest := st.map (pz_v g b)) rfl (by rw [hb]; exact hd) (by omega) (by show 2 * 0 + _ + (nativeFrameWords "java/lang/System" "arraycopy" 5 + 11) ≤ _; have h9 : nativeFrameWords "java/lang/System" "arraycopy" 5 = 7 := (by decide); omega)
  have e1 : copied (vp_cell (cA 0) (n0, .inl f)) (vp_cell (cA 0) (n1, .inl f1)) (nI 0) (nI 0) (nI n) = vp_cell (cA 0) (n1, .inl (va_cpy f f1 0 0 n)) := by
    have h9 := va_copied (fun z => Value.int z) (cA 0) (cA 0) (n0 := n0) (n1 := n1) (sp := 0) (dp := 0) (n := n) f f1 (by omega)
    rw [← cn, ← c0] at h9
    rw [cn, c0] at h9
    unfold copied
    rw [cn, c0]
    exact h9
  rw [e1] at X' step
  have hl : g + a < H.size := (Array.getElem?_eq_some_iff.mp hcd).1
  have oq : ∀ q : Nat, q ≠ g + a → (H.setIfInBounds (g + a) (vp_cell (cA 0) (n1, .inl (va_cpy f f1 0 0 n))))[q]? = H[q]? := fun q hq => by simp [Array.getElem?_setIfInBounds, Ne.symm hq]
  have hz9 : (H.setIfInBounds (g + a) (vp_cell (cA 0) (n1, .inl (va_cpy f f1 0 0 n)))).size = H.size := by simp
  have hheap : ((T.setVm vm').setCell (g + a) (vp_cell (cA 0) (n1, .inl (va_cpy f f1 0 0 n)))).heap = H.setIfInBounds (g + a) (vp_cell (cA 0) (n1, .inl (va_cpy f f1 0 0 n))) := by rw [← hT]; rfl
  obtain ⟨t, a1, b1⟩ := kk p e s m args below meth c R (H.setIfInBounds (g + a) (vp_cell (cA 0) (n1, .inl (va_cpy f f1 0 0 n)))) _ cells slots D g b cA mc ms Qm A ⟨X.1, X.2.1, X.2.2.1, X.2.2.2.1, X.2.2.2.2.1.upd hh1 (show (H.setIfInBounds (g + a) _)[g + a]? = some (vp_cell (cA 0) (n1, .inl (va_cpy f f1 0 0 n))) by simp [Array.getElem?_setIfInBounds, hl]) hz9 oq, ⟨by rw [hz9]; exact hS.1, fun q g1 g2 => by
      rw [oq q (fun e => g2 (by rw [e]; exact Nat.le_add_right g a))]
      exact hS.2.1 q g1 g2, fun q hq => by
      rcases List.mem_append.mp hq with h | h
      · exact hS.2.2 q h
      · obtain ⟨z, -, hz⟩ := List.mem_map.mp h
        rw [← hz]
        exact Nat.le_add_right g a⟩, X.2.2.2.2.2.2⟩ _ hheap X'
  exact ⟨t, step t a1, b1⟩
theorem FRA.st {a k : Nat} {h h2 : pz_H} {fb : Nat → Int32} {fl : Nat} (m : FRA a h fb fl) (o : ∀ j, j ≠ k → h2 j = h j) (h1 : k ≠ a) (h1' : k ≠ a + 1) : FRA a h2 fb fl := by
  unfold FRA
  rw [o a (Ne.symm h1), o (a + 1) (Ne.symm h1')]
  exact m
theorem ay_Frame_17 : Cond.methodLink "BindingKernel$Frame" 17 arraycopyName ∈ px_tbl := px_in 522 (by decide +kernel) rfl
theorem ay_n : Cond.native arraycopyName ∈ px_tbl := px_in 524 (by decide +kernel) rfl
theorem ay_s : Cond.static arraycopyName ∈ px_tbl := px_in 523 (by decide +kernel) rfl
theorem ay_i : Cond.initialized "java/lang/System" ∈ px_tbl := px_in 13 (by decide +kernel) rfl
