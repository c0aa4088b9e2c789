/-! the reference: contracts of BindingKernelModel, first part -/
theorem upn (f : Nat → Nat) (k x : Nat) : upd (fun j => nI (f j)) k (nI x) = fun j => nI (va_up f k x j) := by
  funext j
  by_cases e : j = k <;> simp [upd, va_up, e]
/-- an array of ints, of numbers, of Booleans -/
abbrev AI (h : pz_H) (a n : Nat) (f : Nat → Int32) : Prop := h a = some (.inl (0, n, .inl f))
abbrev AN (h : pz_H) (a n : Nat) (f : Nat → Nat) : Prop := h a = some (.inl (0, n, .inl (fun j => nI (f j))))
abbrev AB (h : pz_H) (a n : Nat) (f : Nat → Bool) : Prop := h a = some (.inl (1, n, .inl (fun j => pb (f j))))
/-- the reference's own cell -/
def MOB (h : pz_H) (np nb now tkg lst flt byt : Nat) (sa sx : Int32) : Prop := h 166 = some (.inr (10, [.int (nI np), .int (nI nb), .ref 167, .ref 168, .ref 169, .ref 170, .int (nI now), .int (nI tkg), .int (nI lst), .ref 171, .ref 172, .ref 173, .ref 174, .ref 175, .ref 176, .ref 177, .ref 178, .ref 179, .ref 180, .int (nI flt), .int (nI byt), .ref 181, .ref 182, .ref 183, .ref 184, .int sa, .int sx, .ref 185, .ref 186, .ref 187, .ref 188, .ref 189, .ref 190]))
theorem MOB.mv {h h' : pz_H} {np nb now tkg lst flt byt : Nat} {sa sx : Int32} (m : MOB h np nb now tkg lst flt byt sa sx) (e : h' 166 = h 166) : MOB h' np nb now tkg lst flt byt sa sx := e.trans m
/-- only these cells have changed -/
def frx (S : List Nat) (h h' : pz_H) : Prop := ∀ c, c ∉ S → h' c = h c
theorem frx.rf {S : List Nat} {h : pz_H} : frx S h h := fun _ _ => rfl
theorem frx.tr {S : List Nat} {h h1 h2 : pz_H} (a : frx S h h1) (b : frx S h1 h2) : frx S h h2 := fun q hq => (b q hq).trans (a q hq)
theorem frx.wd {S S' : List Nat} {h h' : pz_H} (a : frx S h h') (hs : ∀ c ∈ S, c ∈ S') : frx S' h h' := fun q hq => a q (fun e => hq (hs q e))
theorem frx.st {S : List Nat} {k : Nat} {h h1 h2 : pz_H} (a : frx S h h1) (o : ∀ j, j ≠ k → h2 j = h1 j) (hk : k ∈ S) : frx S h h2 := fun q hq => (o q (fun e => hq (e ▸ hk))).trans (a q hq)
/-- out of 0 .. y - 1 -/
def ot (x y : Int32) : Bool := decide (x < 0 ∨ ¬ x < y)
theorem ot_inn (x : Int32) (n : Nat) : ot x (nI n) = !inn x n := by
  unfold ot inn
  by_cases h1 : x < 0
  · simp [h1]
  · by_cases h2 : x < nI n
    · have h3 : ¬ nI n ≤ x := Int32.not_le.mpr h2
      simp [h1, h2, h3]
    · have h3 : nI n ≤ x := Int32.not_lt.mp h2
      simp [h1, h2, h3]
theorem inn_rng (x : Int32) {n : Nat} (hn : n < 2147483647) : inn x (n + 1) = rng x (nI 0) (nI n) := by
  cases h : inn x (n + 1) with
  | true =>
    obtain ⟨q, hq, rfl⟩ := inn_N (by omega) h
    exact (rng_y (by omega) (Nat.zero_le _) (by omega)).symm
  | false =>
    cases h2 : rng x (nI 0) (nI n) with
    | false => rfl
    | true =>
      obtain ⟨q, -, hq, rfl⟩ := rng_N (by omega) (Nat.zero_le _) h2
      rw [inn_y (by omega) (by omega)] at h
      cases h
set_option maxHeartbeats 4000000 in
set_option maxRecDepth 20000 in
theorem c_Mo_out {l : Launch} {L : Nat} {xs : Nat → Int32} {h : pz_H} {z : Nat} {np nb now tkg lst flt byt : Nat} {sa sx : Int32} (hMo : MOB h np nb now tkg lst flt byt sa sx) (hnp : np ≤ 32) (hnb : nb ≤ 32) (x y : Int32) : pz_K l L xs M_Mo_out 0 0 0 [.ref 166, .int x, .int y] h z (fun v h' z' => v = some (.int (pb (ot x y))) ∧ h = h' ∧ z = z') := by
  refine pz_K.of rfl (Nat.le_of_ble_eq_true rfl) ?_
  change pz_E l L xs M_Mo_out 0 0 0 0 [some (.ref 166), some (.int x), some (.int y)] [] h z _
  refine pe_iload_n d_Mo_out_0 rfl ?_
  refine pe_if_lt (tgt := 9) d_Mo_out_1 (by decide) (fun c_1 => ?_) (fun c_1 => ?_)
  · refine pe_iconst (v := nI 1) d_Mo_out_9 (by decide) ?_
    refine pe_goto (tgt := 14) d_Mo_out_10 (by decide) ?_
    refine pe_zret d_Mo_out_14 rfl (by decide) ?_
    exact ⟨pb_yes (by first | exact Or.inl c_1 | exact Or.inr c_6), rfl, rfl⟩
  · refine pe_iload_n d_Mo_out_4 rfl ?_
    refine pe_iload_n d_Mo_out_5 rfl ?_
    refine pe_icmp_lt (tgt := 13) d_Mo_out_6 (by decide) (fun c_6 => ?_) (fun c_6 => ?_)
    · refine pe_iconst (v := nI 0) d_Mo_out_13 (by decide) ?_
      refine pe_zret d_Mo_out_14 rfl (by decide) ?_
      exact ⟨pb_no (fun q => q.elim c_1 (fun e => e c_6)), rfl, rfl⟩
    · refine pe_iconst (v := nI 1) d_Mo_out_9 (by decide) ?_
      refine pe_goto (tgt := 14) d_Mo_out_10 (by decide) ?_
      refine pe_zret d_Mo_out_14 rfl (by decide) ?_
      exact ⟨pb_yes (by first | exact Or.inl c_1 | exact Or.inr c_6), rfl, rfl⟩
set_option maxHeartbeats 4000000 in
set_option maxRecDepth 20000 in
theorem c_Mo_shut {l : Launch} {L : Nat} {xs : Nat → Int32} {h : pz_H} {z : Nat} {np nb now tkg lst flt byt : Nat} {sa sx : Int32} (hMo : MOB h np nb now tkg lst flt byt sa sx) (hnp : np ≤ 32) (hnb : nb ≤ 32) {Mop : Nat → Bool} (hOp : AB h 167 6 Mop) (x : Int32) : pz_K l L xs M_Mo_shut 1 0 0 [.ref 166, .int x] h z (fun v h' z' => v = some (.int (pb (!opn Mop x))) ∧ h = h' ∧ z = z') := by
  refine pz_K.of rfl (Nat.le_of_ble_eq_true rfl) ?_
  change pz_E l L xs M_Mo_shut 1 0 0 0 [some (.ref 166), some (.int x)] [] h z _
  refine pe_aload_n d_Mo_shut_0 rfl ?_
  refine pe_iload_n d_Mo_shut_1 rfl ?_
  refine pe_bipush (v := nI 6) d_Mo_shut_2 (by decide) ?_
  -- 4: Mo_out
  refine pe_callV d_Mo_shut_4 m_Mo_111 j_Mo_out v_Mo_out (c_Mo_out hMo hnp hnb _ _) rfl rfl (by simp [Value.category]) (by decide) hMo rfl rfl ?_
  intro v1 h1 z1 hq1
  obtain ⟨rfl, rfl, rfl⟩ := hq1
  change pz_E _ _ _ _ _ _ _ _ _ (_ :: _) _ _ _
  refine pe_if_ne (tgt := 19) d_Mo_shut_7 (by decide) (fun c_7 => ?_) (fun c_7 => ?_)
  · have c_7 := pb_n0.mp c_7
    refine pe_iconst (v := nI 1) d_Mo_shut_19 (by decide) ?_
    refine pe_goto (tgt := 24) d_Mo_shut_20 (by decide) ?_
    refine pe_zret d_Mo_shut_24 rfl (by decide) ?_
    exact ⟨by unfold opn; rw [← inn_rng _ (by decide), show inn x (5 + 1) = false from by rw [ot_inn] at c_7; simpa using c_7]; rfl, rfl, rfl⟩
  · have c_7 := pb_0.mp c_7
    obtain ⟨a, ha, rfl⟩ := inn_N (n := 6) (by decide) (by rw [ot_inn] at c_7; simpa using c_7)
    refine pe_aload_n d_Mo_shut_10 rfl ?_
    refine pe_getf d_Mo_shut_11 f_Mo_7 hMo rfl ?_
    refine pe_iload_n d_Mo_shut_14 rfl ?_
    refine pe_zaldN d_Mo_shut_15 hOp (by omega) (by omega) ?_
    refine pe_if_ne (tgt := 23) d_Mo_shut_16 (by decide) (fun c_16 => ?_) (fun c_16 => ?_)
    · have c_16 := pb_n0.mp c_16
      refine pe_iconst (v := nI 0) d_Mo_shut_23 (by decide) ?_
      refine pe_zret d_Mo_shut_24 rfl (by decide) ?_
      exact ⟨by rw [opn_a ha, c_16]; rfl, rfl, rfl⟩
    · have c_16 := pb_0.mp c_16
      refine pe_iconst (v := nI 1) d_Mo_shut_19 (by decide) ?_
      refine pe_goto (tgt := 24) d_Mo_shut_20 (by decide) ?_
      refine pe_zret d_Mo_shut_24 rfl (by decide) ?_
      exact ⟨by rw [opn_a ha, c_16]; rfl, rfl, rfl⟩
set_option maxHeartbeats 4000000 in
set_option maxRecDepth 20000 in
theorem c_Mo_freeBlock {l : Launch} {L : Nat} {xs : Nat → Int32} {h : pz_H} {z : Nat} {np nb now tkg lst flt byt : Nat} {sa sx : Int32} (hMo : MOB h np nb now tkg lst flt byt sa sx) (hnp : np ≤ 32) (hnb : nb ≤ 32) {Mho : Nat → Int32} (hHo : AI h 185 32 Mho) : pz_K l L xs M_Mo_freeBlock 0 0 0 [.ref 166] h z (fun v h' z' => v = some (.int (orm nb (ff (fun j => !decide (0 ≤ Mho j)) (nb - 0) 0))) ∧ h = h' ∧ z = z') := by
  refine pz_K.of rfl (Nat.le_of_ble_eq_true rfl) ?_
  have loop : ∀ (n : Nat) (i : Nat), i ≤ nb → nb + 1 ≤ i + n → pz_E l L xs M_Mo_freeBlock 0 0 0 2 [some (.ref 166), some (.int (nI i))] [] h z (fun v h' z' => v = some (.int (orm nb (ff (fun j => !decide (0 ≤ Mho j)) (nb - i) i))) ∧ h = h' ∧ z = z') := by
    intro n
    induction n with
    | zero => intros; omega
    | succ n ih =>
      intro i hi hin
      refine pe_iload_n d_Mo_freeBlock_2 rfl ?_
      refine pe_aload_n d_Mo_freeBlock_3 rfl ?_
      refine pe_getf d_Mo_freeBlock_4 f_Mo_108 hMo rfl ?_
      refine pe_icmpN_ge (tgt := 27) d_Mo_freeBlock_7 (by decide) (by omega) (by omega) (fun c_7 => ?_) (fun c_7 => ?_)
      · refine pe_iconst (v := -1) d_Mo_freeBlock_27 (by decide) ?_
        refine pe_iret d_Mo_freeBlock_28 rfl ?_
        exact ⟨by rw [ff_end (by omega), orm_ge (by omega)], rfl, rfl⟩
      · have c_7 : i < nb := by omega
        refine pe_aload_n d_Mo_freeBlock_10 rfl ?_
        refine pe_getf d_Mo_freeBlock_11 f_Mo_87 hMo rfl ?_
        refine pe_iload_n d_Mo_freeBlock_14 rfl ?_
        refine pe_ialdN d_Mo_freeBlock_15 hHo (by omega) (by omega) ?_
        refine pe_if_ge (tgt := 21) d_Mo_freeBlock_16 (by decide) (fun c_16 => ?_) (fun c_16 => ?_)
        · refine pe_iincN d_Mo_freeBlock_21 rfl (by decide) rfl ?_
          dsimp only [List.set]
          refine pe_goto (tgt := 2) d_Mo_freeBlock_24 (by decide) ?_
          have e := ih (i + 1) (by omega) (by omega)
          rw [← ff_no c_7 (by simp [c_16])] at e
          exact e
        · refine pe_iload_n d_Mo_freeBlock_19 rfl ?_
          refine pe_iret d_Mo_freeBlock_20 rfl ?_
          exact ⟨by rw [ff_yes c_7 (by simp [c_16]), orm_lt c_7], rfl, rfl⟩
  change pz_E l L xs M_Mo_freeBlock 0 0 0 0 [some (.ref 166), none] [] h z _
  refine pe_iconst (v := nI 0) d_Mo_freeBlock_0 (by decide) ?_
  refine pe_istore_n d_Mo_freeBlock_1 (by decide) rfl ?_
  dsimp only [List.set]
  exact loop (nb + 1) 0 (by omega) (by omega)
set_option maxHeartbeats 4000000 in
set_option maxRecDepth 20000 in
theorem c_Mo_isLink_map {l : Launch} {L : Nat} {xs : Nat → Int32} {h : pz_H} {z : Nat} {np nb now tkg lst flt byt : Nat} {sa sx : Int32} (hMo : MOB h np nb now tkg lst flt byt sa sx) (hnp : np ≤ 32) (hnb : nb ≤ 32) {Mmp : Nat → Bool} (hIm : AB h 168 6 Mmp) {Mfi : Nat → Int32} (hFi : AI h 169 6 Mfi) {Mlk : Nat → Int32} (hLi : AI h 170 6 Mlk) {a q : Nat} (ha : a < 6) (hq : q < 8) (hmp : Mmp a = true) : pz_K l L xs M_Mo_isLink 0 0 0 [.ref 166, .int (nI a), .int (nI q)] h z (fun v h' z' => v = some (.int (pb false)) ∧ h = h' ∧ z = z') := by
  refine pz_K.of rfl (Nat.le_of_ble_eq_true rfl) ?_
  change pz_E l L xs M_Mo_isLink 0 0 0 0 [some (.ref 166), some (.int (nI a)), some (.int (nI q))] [] h z _
  refine pe_aload_n d_Mo_isLink_0 rfl ?_
  refine pe_getf d_Mo_isLink_1 f_Mo_13 hMo rfl ?_
  refine pe_iload_n d_Mo_isLink_4 rfl ?_
  refine pe_zaldN d_Mo_isLink_5 hIm (by omega) (by omega) ?_
  refine pe_if_ne (tgt := 40) d_Mo_isLink_6 (by decide) (fun c_6 => ?_) (fun c_6 => ?_)
  · have c_6 := pb_n0.mp c_6
    refine pe_iconst (v := nI 0) d_Mo_isLink_40 (by decide) ?_
    refine pe_zret d_Mo_isLink_41 rfl (by decide) ?_
    exact ⟨rfl, rfl, rfl⟩
  · have c_6 := pb_0.mp c_6
    exact absurd (c_6.symm.trans hmp) (by decide)
set_option maxHeartbeats 4000000 in
set_option maxRecDepth 20000 in
theorem c_Mo_isLink_raw {l : Launch} {L : Nat} {xs : Nat → Int32} {h : pz_H} {z : Nat} {np nb now tkg lst flt byt : Nat} {sa sx : Int32} (hMo : MOB h np nb now tkg lst flt byt sa sx) (hnp : np ≤ 32) (hnb : nb ≤ 32) {Mmp : Nat → Bool} (hIm : AB h 168 6 Mmp) {Mfi : Nat → Int32} (hFi : AI h 169 6 Mfi) {Mlk : Nat → Int32} (hLi : AI h 170 6 Mlk) {a q : Nat} (ha : a < 6) (hq : q < 8) {f c : Nat} (hmp : Mmp a = false) (hf0 : Mfi a = nI f) (hc0 : Mlk a = nI c) (hfc : f + c ≤ 8) : pz_K l L xs M_Mo_isLink 0 0 0 [.ref 166, .int (nI a), .int (nI q)] h z (fun v h' z' => v = some (.int (pb (decide (f ≤ q ∧ q < f + c)))) ∧ h = h' ∧ z = z') := by
  refine pz_K.of rfl (Nat.le_of_ble_eq_true rfl) ?_
  change pz_E l L xs M_Mo_isLink 0 0 0 0 [some (.ref 166), some (.int (nI a)), some (.int (nI q))] [] h z _
  refine pe_aload_n d_Mo_isLink_0 rfl ?_
  refine pe_getf d_Mo_isLink_1 f_Mo_13 hMo rfl ?_
  refine pe_iload_n d_Mo_isLink_4 rfl ?_
  refine pe_zaldN d_Mo_isLink_5 hIm (by omega) (by omega) ?_
  refine pe_if_ne (tgt := 40) d_Mo_isLink_6 (by decide) (fun c_6 => ?_) (fun c_6 => ?_)
  · have c_6 := pb_n0.mp c_6
    exact absurd (c_6.symm.trans hmp) (by decide)
  · have c_6 := pb_0.mp c_6
    refine pe_iload_n d_Mo_isLink_9 rfl ?_
    refine pe_aload_n d_Mo_isLink_10 rfl ?_
    refine pe_getf d_Mo_isLink_11 f_Mo_16 hMo rfl ?_
    refine pe_iload_n d_Mo_isLink_14 rfl ?_
    refine pe_ialdN d_Mo_isLink_15 hFi (by omega) (by omega) ?_
    rw [hf0]
    refine pe_icmpN_lt (tgt := 40) d_Mo_isLink_16 (by decide) (by omega) (by omega) (fun c_16 => ?_) (fun c_16 => ?_)
    · refine pe_iconst (v := nI 0) d_Mo_isLink_40 (by decide) ?_
      refine pe_zret d_Mo_isLink_41 rfl (by decide) ?_
      exact ⟨pb_no (fun q9 => by first | exact absurd q9.1 (by omega) | exact absurd q9.2 (by omega)), rfl, rfl⟩
    · refine pe_iload_n d_Mo_isLink_19 rfl ?_
      refine pe_aload_n d_Mo_isLink_20 rfl ?_
      refine pe_getf d_Mo_isLink_21 f_Mo_16 hMo rfl ?_
      refine pe_iload_n d_Mo_isLink_24 rfl ?_
      refine pe_ialdN d_Mo_isLink_25 hFi (by omega) (by omega) ?_
      rw [hf0]
      refine pe_aload_n d_Mo_isLink_26 rfl ?_
      refine pe_getf d_Mo_isLink_27 f_Mo_20 hMo rfl ?_
      refine pe_iload_n d_Mo_isLink_30 rfl ?_
      refine pe_ialdN d_Mo_isLink_31 hLi (by omega) (by omega) ?_
      rw [hc0]
      refine pe_iaddN d_Mo_isLink_32 ?_
      refine pe_icmpN_ge (tgt := 40) d_Mo_isLink_33 (by decide) (by omega) (by omega) (fun c_33 => ?_) (fun c_33 => ?_)
      · refine pe_iconst (v := nI 0) d_Mo_isLink_40 (by decide) ?_
        refine pe_zret d_Mo_isLink_41 rfl (by decide) ?_
        exact ⟨pb_no (fun q9 => by first | exact absurd q9.1 (by omega) | exact absurd q9.2 (by omega)), rfl, rfl⟩
      · refine pe_iconst (v := nI 1) d_Mo_isLink_36 (by decide) ?_
        refine pe_goto (tgt := 41) d_Mo_isLink_37 (by decide) ?_
        refine pe_zret d_Mo_isLink_41 rfl (by decide) ?_
        exact ⟨pb_yes ⟨by omega, by omega⟩, rfl, rfl⟩
set_option maxHeartbeats 4000000 in
set_option maxRecDepth 20000 in
theorem c_Mo_renew_map {l : Launch} {L : Nat} {xs : Nat → Int32} {h : pz_H} {z : Nat} {np nb now tkg lst flt byt : Nat} {sa sx : Int32} (hMo : MOB h np nb now tkg lst flt byt sa sx) (hnp : np ≤ 32) (hnb : nb ≤ 32) {Mmp : Nat → Bool} (hIm : AB h 168 6 Mmp) {Mfi : Nat → Int32} (hFi : AI h 169 6 Mfi) {Mlk : Nat → Int32} (hLi : AI h 170 6 Mlk) {Mho : Nat → Int32} (hHo : AI h 185 32 Mho) {Mwo : Nat → Int32} (hWo : AI h 186 256 Mwo) {a b : Nat} (ha : a < 6) (hb : b < 32) (hmp : Mmp a = true) : pz_K l L xs M_Mo_renew 1 0 0 [.ref 166, .int (nI a), .int (nI b)] h z (fun v h' z' => v = none ∧ z = z' ∧ AI h' 185 32 (upd Mho b (nI a)) ∧ AI h' 186 256 (fil Mwo (lkw b 0 0) (b * 8) 8) ∧ frx [185, 186] h h') := by
  refine pz_K.of rfl (Nat.le_of_ble_eq_true rfl) ?_
  have hf : frx [185, 186] h h := frx.rf
  have loop : ∀ (n : Nat) (i : Nat) (k : pz_H), i ≤ 8 → 9 ≤ i + n → MOB k np nb now tkg lst flt byt sa sx → AB k 168 6 Mmp → AI k 169 6 Mfi → AI k 170 6 Mlk → AI k 185 32 (upd Mho b (nI a)) → AI k 186 256 (fil Mwo (lkw b 0 0) (b * 8) i) → frx [185, 186] h k → pz_E l L xs M_Mo_renew 1 0 0 9 [some (.ref 166), some (.int (nI a)), some (.int (nI b)), some (.int (nI i))] [] k z (fun v h' z' => v = none ∧ z = z' ∧ AI h' 185 32 (upd Mho b (nI a)) ∧ AI h' 186 256 (fil Mwo (lkw b 0 0) (b * 8) 8) ∧ frx [185, 186] h h') := by
    intro n
    induction n with
    | zero => intros; omega
    | succ n ih =>
      intro i k hi hin hMo hIm hFi hLi hHo hWo hf
      refine pe_iload_n d_Mo_renew_9 rfl ?_
      refine pe_bipush (v := nI 8) d_Mo_renew_10 (by decide) ?_
      refine pe_icmpN_ge (tgt := 46) d_Mo_renew_12 (by decide) (by omega) (by omega) (fun c_12 => ?_) (fun c_12 => ?_)
      · refine pe_vret d_Mo_renew_46 rfl ?_
        have e : i = 8 := by omega
        subst e
        exact ⟨rfl, rfl, hHo, hWo, hf⟩
      · refine pe_aload_n d_Mo_renew_15 rfl ?_
        refine pe_getf d_Mo_renew_16 f_Mo_90 hMo rfl ?_
        refine pe_iload_n d_Mo_renew_19 rfl ?_
        refine pe_bipush (v := nI 8) d_Mo_renew_20 (by decide) ?_
        refine pe_imulN d_Mo_renew_22 ?_
        refine pe_iload_n d_Mo_renew_23 rfl ?_
        refine pe_iaddN d_Mo_renew_24 ?_
        refine pe_aload_n d_Mo_renew_25 rfl ?_
        refine pe_iload_n d_Mo_renew_26 rfl ?_
        refine pe_iload_n d_Mo_renew_27 rfl ?_
        -- 28: Mo_isLink
        refine pe_callV d_Mo_renew_28 m_Mo_115 j_Mo_isLink v_Mo_isLink (c_Mo_isLink_map hMo hnp hnb hIm hFi hLi (a := a) (q := i) ha (by omega) hmp) rfl rfl (by simp [Value.category]) (by decide) hMo rfl rfl ?_
        intro v1 h1 z1 hq1
        obtain ⟨rfl, rfl, rfl⟩ := hq1
        change pz_E _ _ _ _ _ _ _ _ _ (_ :: _) _ _ _
        refine pe_if_eq (tgt := 38) d_Mo_renew_31 (by decide) (fun c_31 => ?_) (fun c_31 => ?_)
        · have c_31 := pb_0.mp c_31
          refine pe_iconst (v := nI 0) d_Mo_renew_38 (by decide) ?_
          refine pe_iastN d_Mo_renew_39 hWo (by omega) (by omega) ?_
          refine pe_pu (fun h2 e2 o2 => ?_)
          have hMo := (o2 (166) (by omega)).trans hMo
          have hIm := (o2 (168) (by omega)).trans hIm
          have hFi := (o2 (169) (by omega)).trans hFi
          have hLi := (o2 (170) (by omega)).trans hLi
          have hHo := (o2 (185) (by omega)).trans hHo
          have hWo := e2
          have hf := hf.st o2 (by decide)
          refine pe_iincN d_Mo_renew_40 rfl (by decide) rfl ?_
          dsimp only [List.set]
          refine pe_goto (tgt := 9) d_Mo_renew_43 (by decide) ?_
          rw [show (nI 0) = lkw b 0 0 (b * 8 + i) from by unfold lkw; rw [show b * 8 + i - b * 8 = i by omega]; first | (rw [if_pos (of_decide_eq_true c_31)]; done) | (rw [if_neg (of_decide_eq_false c_31)]; rfl) | (rw [if_neg (by omega)]; rfl), fil_s] at hWo
          exact ih (i + 1) _ (by omega) (by omega) hMo hIm hFi hLi hHo hWo hf
        · have c_31 := pb_n0.mp c_31
          exact absurd c_31 (by decide)
  change pz_E l L xs M_Mo_renew 1 0 0 0 [some (.ref 166), some (.int (nI a)), some (.int (nI b)), none] [] h z _
  refine pe_aload_n d_Mo_renew_0 rfl ?_
  refine pe_getf d_Mo_renew_1 f_Mo_87 hMo rfl ?_
  refine pe_iload_n d_Mo_renew_4 rfl ?_
  refine pe_iload_n d_Mo_renew_5 rfl ?_
  refine pe_iastN d_Mo_renew_6 hHo (by omega) (by omega) ?_
  refine pe_pu (fun h2 e2 o2 => ?_)
  have hMo := (o2 (166) (by omega)).trans hMo
  have hIm := (o2 (168) (by omega)).trans hIm
  have hFi := (o2 (169) (by omega)).trans hFi
  have hLi := (o2 (170) (by omega)).trans hLi
  have hHo := e2
  have hWo := (o2 (186) (by omega)).trans hWo
  have hf := hf.st o2 (by decide)
  refine pe_iconst (v := nI 0) d_Mo_renew_7 (by decide) ?_
  refine pe_istore_n d_Mo_renew_8 (by decide) rfl ?_
  dsimp only [List.set]
  have hWo : AI h2 186 256 (fil Mwo (lkw b 0 0) (b * 8) 0) := by rw [fil_0]; exact hWo
  exact loop 9 0 _ (by omega) (by omega) hMo hIm hFi hLi hHo hWo hf
set_option maxHeartbeats 4000000 in
set_option maxRecDepth 20000 in
theorem c_Mo_renew_raw {l : Launch} {L : Nat} {xs : Nat → Int32} {h : pz_H} {z : Nat} {np nb now tkg lst flt byt : Nat} {sa sx : Int32} (hMo : MOB h np nb now tkg lst flt byt sa sx) (hnp : np ≤ 32) (hnb : nb ≤ 32) {Mmp : Nat → Bool} (hIm : AB h 168 6 Mmp) {Mfi : Nat → Int32} (hFi : AI h 169 6 Mfi) {Mlk : Nat → Int32} (hLi : AI h 170 6 Mlk) {Mho : Nat → Int32} (hHo : AI h 185 32 Mho) {Mwo : Nat → Int32} (hWo : AI h 186 256 Mwo) {a b : Nat} (ha : a < 6) (hb : b < 32) {f c : Nat} (hmp : Mmp a = false) (hf0 : Mfi a = nI f) (hc0 : Mlk a = nI c) (hfc : f + c ≤ 8) : pz_K l L xs M_Mo_renew 1 0 0 [.ref 166, .int (nI a), .int (nI b)] h z (fun v h' z' => v = none ∧ z = z' ∧ AI h' 185 32 (upd Mho b (nI a)) ∧ AI h' 186 256 (fil Mwo (lkw b f c) (b * 8) 8) ∧ frx [185, 186] h h') := by
  refine pz_K.of rfl (Nat.le_of_ble_eq_true rfl) ?_
  have hf : frx [185, 186] h h := frx.rf
  have loop : ∀ (n : Nat) (i : Nat) (k : pz_H), i ≤ 8 → 9 ≤ i + n → MOB k np nb now tkg lst flt byt sa sx → AB k 168 6 Mmp → AI k 169 6 Mfi → AI k 170 6 Mlk → AI k 185 32 (upd Mho b (nI a)) → AI k 186 256 (fil Mwo (lkw b f c) (b * 8) i) → frx [185, 186] h k → pz_E l L xs M_Mo_renew 1 0 0 9 [some (.ref 166), some (.int (nI a)), some (.int (nI b)), some (.int (nI i))] [] k z (fun v h' z' => v = none ∧ z = z' ∧ AI h' 185 32 (upd Mho b (nI a)) ∧ AI h' 186 256 (fil Mwo (lkw b f c) (b * 8) 8) ∧ frx [185, 186] h h') := by
    intro n
    induction n with
    | zero => intros; omega
    | succ n ih =>
      intro i k hi hin hMo hIm hFi hLi hHo hWo hf
      refine pe_iload_n d_Mo_renew_9 rfl ?_
      refine pe_bipush (v := nI 8) d_Mo_renew_10 (by decide) ?_
      refine pe_icmpN_ge (tgt := 46) d_Mo_renew_12 (by decide) (by omega) (by omega) (fun c_12 => ?_) (fun c_12 => ?_)
      · refine pe_vret d_Mo_renew_46 rfl ?_
        have e : i = 8 := by omega
        subst e
        exact ⟨rfl, rfl, hHo, hWo, hf⟩
      · refine pe_aload_n d_Mo_renew_15 rfl ?_
        refine pe_getf d_Mo_renew_16 f_Mo_90 hMo rfl ?_
        refine pe_iload_n d_Mo_renew_19 rfl ?_
        refine pe_bipush (v := nI 8) d_Mo_renew_20 (by decide) ?_
        refine pe_imulN d_Mo_renew_22 ?_
        refine pe_iload_n d_Mo_renew_23 rfl ?_
        refine pe_iaddN d_Mo_renew_24 ?_
        refine pe_aload_n d_Mo_renew_25 rfl ?_
        refine pe_iload_n d_Mo_renew_26 rfl ?_
        refine pe_iload_n d_Mo_renew_27 rfl ?_
        -- 28: Mo_isLink
        refine pe_callV d_Mo_renew_28 m_Mo_115 j_Mo_isLink v_Mo_isLink (c_Mo_isLink_raw hMo hnp hnb hIm hFi hLi (a := a) (q := i) ha (by omega) hmp hf0 hc0 hfc) rfl rfl (by simp [Value.category]) (by decide) hMo rfl rfl ?_
        intro v1 h1 z1 hq1
        obtain ⟨rfl, rfl, rfl⟩ := hq1
        change pz_E _ _ _ _ _ _ _ _ _ (_ :: _) _ _ _
        refine pe_if_eq (tgt := 38) d_Mo_renew_31 (by decide) (fun c_31 => ?_) (fun c_31 => ?_)
        · have c_31 := pb_0.mp c_31
          refine pe_iconst (v := nI 0) d_Mo_renew_38 (by decide) ?_
          refine pe_iastN d_Mo_renew_39 hWo (by omega) (by omega) ?_
          refine pe_pu (fun h2 e2 o2 => ?_)
          have hMo := (o2 (166) (by omega)).trans hMo
          have hIm := (o2 (168) (by omega)).trans hIm
          have hFi := (o2 (169) (by omega)).trans hFi
          have hLi := (o2 (170) (by omega)).trans hLi
          have hHo := (o2 (185) (by omega)).trans hHo
          have hWo := e2
          have hf := hf.st o2 (by decide)
          refine pe_iincN d_Mo_renew_40 rfl (by decide) rfl ?_
          dsimp only [List.set]
          refine pe_goto (tgt := 9) d_Mo_renew_43 (by decide) ?_
          rw [show (nI 0) = lkw b f c (b * 8 + i) from by unfold lkw; rw [show b * 8 + i - b * 8 = i by omega]; first | (rw [if_pos (of_decide_eq_true c_31)]; done) | (rw [if_neg (of_decide_eq_false c_31)]; rfl) | (rw [if_neg (by omega)]; rfl), fil_s] at hWo
          exact ih (i + 1) _ (by omega) (by omega) hMo hIm hFi hLi hHo hWo hf
        · have c_31 := pb_n0.mp c_31
          refine pe_iconst (v := -1) d_Mo_renew_34 (by decide) ?_
          refine pe_goto (tgt := 39) d_Mo_renew_35 (by decide) ?_
          refine pe_iastN d_Mo_renew_39 hWo (by omega) (by omega) ?_
          refine pe_pu (fun h2 e2 o2 => ?_)
          have hMo := (o2 (166) (by omega)).trans hMo
          have hIm := (o2 (168) (by omega)).trans hIm
          have hFi := (o2 (169) (by omega)).trans hFi
          have hLi := (o2 (170) (by omega)).trans hLi
          have hHo := (o2 (185) (by omega)).trans hHo
          have hWo := e2
          have hf := hf.st o2 (by decide)
          refine pe_iincN d_Mo_renew_40 rfl (by decide) rfl ?_
          dsimp only [List.set]
          refine pe_goto (tgt := 9) d_Mo_renew_43 (by decide) ?_
          rw [show (-1) = lkw b f c (b * 8 + i) from by unfold lkw; rw [show b * 8 + i - b * 8 = i by omega]; first | (rw [if_pos (of_decide_eq_true c_31)]; done) | (rw [if_neg (of_decide_eq_false c_31)]; rfl) | (rw [if_neg (by omega)]; rfl), fil_s] at hWo
          exact ih (i + 1) _ (by omega) (by omega) hMo hIm hFi hLi hHo hWo hf
  change pz_E l L xs M_Mo_renew 1 0 0 0 [some (.ref 166), some (.int (nI a)), some (.int (nI b)), none] [] h z _
  refine pe_aload_n d_Mo_renew_0 rfl ?_
  refine pe_getf d_Mo_renew_1 f_Mo_87 hMo rfl ?_
  refine pe_iload_n d_Mo_renew_4 rfl ?_
  refine pe_iload_n d_Mo_renew_5 rfl ?_
  refine pe_iastN d_Mo_renew_6 hHo (by omega) (by omega) ?_
  refine pe_pu (fun h2 e2 o2 => ?_)
  have hMo := (o2 (166) (by omega)).trans hMo
  have hIm := (o2 (168) (by omega)).trans hIm
  have hFi := (o2 (169) (by omega)).trans hFi
  have hLi := (o2 (170) (by omega)).trans hLi
  have hHo := e2
  have hWo := (o2 (186) (by omega)).trans hWo
  have hf := hf.st o2 (by decide)
  refine pe_iconst (v := nI 0) d_Mo_renew_7 (by decide) ?_
  refine pe_istore_n d_Mo_renew_8 (by decide) rfl ?_
  dsimp only [List.set]
  have hWo : AI h2 186 256 (fil Mwo (lkw b f c) (b * 8) 0) := by rw [fil_0]; exact hWo
  exact loop 9 0 _ (by omega) (by omega) hMo hIm hFi hLi hHo hWo hf
set_option maxHeartbeats 4000000 in
set_option maxRecDepth 20000 in
theorem c_Mo_hasLinks {l : Launch} {L : Nat} {xs : Nat → Int32} {h : pz_H} {z : Nat} {np nb now tkg lst flt byt : Nat} {sa sx : Int32} (hMo : MOB h np nb now tkg lst flt byt sa sx) (hnp : np ≤ 32) (hnb : nb ≤ 32) {Mmp : Nat → Bool} (hIm : AB h 168 6 Mmp) {Mfi : Nat → Int32} (hFi : AI h 169 6 Mfi) {Mlk : Nat → Int32} (hLi : AI h 170 6 Mlk) {Mwo : Nat → Int32} (hWo : AI h 186 256 Mwo) {a b : Nat} (ha : a < 6) (hb : b < 32) {f c : Nat} (hmp : Mmp a = false) (hf0 : Mfi a = nI f) (hc0 : Mlk a = nI c) (hfc : f + c ≤ 8) : pz_K l L xs M_Mo_hasLinks 1 0 0 [.ref 166, .int (nI a), .int (nI b)] h z (fun v h' z' => v = some (.int (pb (decide (ff (fun w => decide (f ≤ w ∧ w < f + c) && !decide (Mwo (b * 8 + w) = -1)) (8 - 0) 0 < 8)))) ∧ h = h' ∧ z = z') := by
  refine pz_K.of rfl (Nat.le_of_ble_eq_true rfl) ?_
  have loop : ∀ (n : Nat) (i : Nat), i ≤ 8 → 9 ≤ i + n → pz_E l L xs M_Mo_hasLinks 1 0 0 2 [some (.ref 166), some (.int (nI a)), some (.int (nI b)), some (.int (nI i))] [] h z (fun v h' z' => v = some (.int (pb (decide (ff (fun w => decide (f ≤ w ∧ w < f + c) && !decide (Mwo (b * 8 + w) = -1)) (8 - i) i < 8)))) ∧ h = h' ∧ z = z') := by
    intro n
    induction n with
    | zero => intros; omega
    | succ n ih =>
      intro i hi hin
      refine pe_iload_n d_Mo_hasLinks_2 rfl ?_
      refine pe_bipush (v := nI 8) d_Mo_hasLinks_3 (by decide) ?_
      refine pe_icmpN_ge (tgt := 40) d_Mo_hasLinks_5 (by decide) (by omega) (by omega) (fun c_5 => ?_) (fun c_5 => ?_)
      · refine pe_iconst (v := nI 0) d_Mo_hasLinks_40 (by decide) ?_
        refine pe_zret d_Mo_hasLinks_41 rfl (by decide) ?_
        exact ⟨pb_no (by rw [ff_end (P := (fun w => decide (f ≤ w ∧ w < f + c) && !decide (Mwo (b * 8 + w) = -1))) (by omega)]; omega), rfl, rfl⟩
      · have c_5 : i < 8 := by omega
        refine pe_aload_n d_Mo_hasLinks_8 rfl ?_
        refine pe_iload_n d_Mo_hasLinks_9 rfl ?_
        refine pe_iload_n d_Mo_hasLinks_10 rfl ?_
        -- 11: Mo_isLink
        refine pe_callV d_Mo_hasLinks_11 m_Mo_115 j_Mo_isLink v_Mo_isLink (c_Mo_isLink_raw hMo hnp hnb hIm hFi hLi (a := a) (q := i) ha (by omega) hmp hf0 hc0 hfc) rfl rfl (by simp [Value.category]) (by decide) hMo rfl rfl ?_
        intro v1 h1 z1 hq1
        obtain ⟨rfl, rfl, rfl⟩ := hq1
        change pz_E _ _ _ _ _ _ _ _ _ (_ :: _) _ _ _
        refine pe_if_eq (tgt := 34) d_Mo_hasLinks_14 (by decide) (fun c_14 => ?_) (fun c_14 => ?_)
        · have c_14 := pb_0.mp c_14
          refine pe_iincN d_Mo_hasLinks_34 rfl (by decide) rfl ?_
          dsimp only [List.set]
          refine pe_goto (tgt := 2) d_Mo_hasLinks_37 (by decide) ?_
          have e := ih (i + 1) (by omega) (by omega)
          rw [← ff_no (P := (fun w => decide (f ≤ w ∧ w < f + c) && !decide (Mwo (b * 8 + w) = -1))) c_5 (by rw [c_14]; exact Bool.false_ne_true)] at e
          exact e
        · have c_14 := pb_n0.mp c_14
          refine pe_aload_n d_Mo_hasLinks_17 rfl ?_
          refine pe_getf d_Mo_hasLinks_18 f_Mo_90 hMo rfl ?_
          refine pe_iload_n d_Mo_hasLinks_21 rfl ?_
          refine pe_bipush (v := nI 8) d_Mo_hasLinks_22 (by decide) ?_
          refine pe_imulN d_Mo_hasLinks_24 ?_
          refine pe_iload_n d_Mo_hasLinks_25 rfl ?_
          refine pe_iaddN d_Mo_hasLinks_26 ?_
          refine pe_ialdN d_Mo_hasLinks_27 hWo (by omega) (by omega) ?_
          refine pe_iconst (v := -1) d_Mo_hasLinks_28 (by decide) ?_
          refine pe_icmp_eq (tgt := 34) d_Mo_hasLinks_29 (by decide) (fun c_29 => ?_) (fun c_29 => ?_)
          · refine pe_iincN d_Mo_hasLinks_34 rfl (by decide) rfl ?_
            dsimp only [List.set]
            refine pe_goto (tgt := 2) d_Mo_hasLinks_37 (by decide) ?_
            have e := ih (i + 1) (by omega) (by omega)
            rw [← ff_no (P := (fun w => decide (f ≤ w ∧ w < f + c) && !decide (Mwo (b * 8 + w) = -1))) c_5 (by rw [decide_eq_true c_29, Bool.not_true, Bool.and_false]; exact Bool.false_ne_true)] at e
            exact e
          · refine pe_iconst (v := nI 1) d_Mo_hasLinks_32 (by decide) ?_
            refine pe_zret d_Mo_hasLinks_33 rfl (by decide) ?_
            exact ⟨pb_yes (by rw [ff_yes (P := (fun w => decide (f ≤ w ∧ w < f + c) && !decide (Mwo (b * 8 + w) = -1))) c_5 (by simp_all)]; exact c_5), rfl, rfl⟩
  change pz_E l L xs M_Mo_hasLinks 1 0 0 0 [some (.ref 166), some (.int (nI a)), some (.int (nI b)), none] [] h z _
  refine pe_iconst (v := nI 0) d_Mo_hasLinks_0 (by decide) ?_
  refine pe_istore_n d_Mo_hasLinks_1 (by decide) rfl ?_
  dsimp only [List.set]
  exact loop 9 0 (by omega) (by omega)
set_option maxHeartbeats 4000000 in
set_option maxRecDepth 20000 in
theorem c_Mo_free {l : Launch} {L : Nat} {xs : Nat → Int32} {h : pz_H} {z : Nat} {np nb now tkg lst flt byt : Nat} {sa sx : Int32} (hMo : MOB h np nb now tkg lst flt byt sa sx) (hnp : np ≤ 32) (hnb : nb ≤ 32) {Mow : Nat → Int32} (hOw : AI h 171 32 Mow) {Mdl : Nat → Int32} (hDl : AI h 173 32 Mdl) {Mrt : Nat → Int32} (hRt : AI h 174 192 Mrt) {p : Nat} (hp : p < 32) : pz_K l L xs M_Mo_free 0 0 0 [.ref 166, .int (nI p)] h z (fun v h' z' => v = none ∧ z = z' ∧ AI h' 171 32 (upd Mow p (-1)) ∧ AI h' 173 32 (upd Mdl p (nI 0)) ∧ AI h' 174 192 (fil Mrt (fun _ => 0) (p * 6) 6) ∧ frx [171, 173, 174] h h') := by
  refine pz_K.of rfl (Nat.le_of_ble_eq_true rfl) ?_
  have hf : frx [171, 173, 174] h h := frx.rf
  have loop : ∀ (n : Nat) (i : Nat) (k : pz_H), i ≤ 6 → 7 ≤ i + n → MOB k np nb now tkg lst flt byt sa sx → AI k 171 32 (upd Mow p (-1)) → AI k 173 32 (upd Mdl p (nI 0)) → AI k 174 192 (fil Mrt (fun _ => 0) (p * 6) i) → frx [171, 173, 174] h k → pz_E l L xs M_Mo_free 0 0 0 16 [some (.ref 166), some (.int (nI p)), some (.int (nI i))] [] k z (fun v h' z' => v = none ∧ z = z' ∧ AI h' 171 32 (upd Mow p (-1)) ∧ AI h' 173 32 (upd Mdl p (nI 0)) ∧ AI h' 174 192 (fil Mrt (fun _ => 0) (p * 6) 6) ∧ frx [171, 173, 174] h h') := by
    intro n
    induction n with
    | zero => intros; omega
    | succ n ih =>
      intro i k hi hin hMo hOw hDl hRt hf
      refine pe_iload_n d_Mo_free_16 rfl ?_
      refine pe_bipush (v := nI 6) d_Mo_free_17 (by decide) ?_
      refine pe_icmpN_ge (tgt := 40) d_Mo_free_19 (by decide) (by omega) (by omega) (fun c_19 => ?_) (fun c_19 => ?_)
      · refine pe_vret d_Mo_free_40 rfl ?_
        have e : i = 6 := by omega
        subst e
        exact ⟨rfl, rfl, hOw, hDl, hRt, hf⟩
      · refine pe_aload_n d_Mo_free_22 rfl ?_
        refine pe_getf d_Mo_free_23 f_Mo_42 hMo rfl ?_
        refine pe_iload_n d_Mo_free_26 rfl ?_
        refine pe_bipush (v := nI 6) d_Mo_free_27 (by decide) ?_
        refine pe_imulN d_Mo_free_29 ?_
        refine pe_iload_n d_Mo_free_30 rfl ?_
        refine pe_iaddN d_Mo_free_31 ?_
        refine pe_iconst (v := nI 0) d_Mo_free_32 (by decide) ?_
        refine pe_iastN d_Mo_free_33 hRt (by omega) (by omega) ?_
        refine pe_pu (fun h2 e2 o2 => ?_)
        have hMo := (o2 (166) (by omega)).trans hMo
        have hOw := (o2 (171) (by omega)).trans hOw
        have hDl := (o2 (173) (by omega)).trans hDl
        have hRt := e2
        have hf := hf.st o2 (by decide)
        refine pe_iincN d_Mo_free_34 rfl (by decide) rfl ?_
        dsimp only [List.set]
        refine pe_goto (tgt := 16) d_Mo_free_37 (by decide) ?_
        rw [show nI 0 = (fun _ => (0 : Int32)) (p * 6 + i) from rfl, fil_s] at hRt
        exact ih (i + 1) _ (by omega) (by omega) hMo hOw hDl hRt hf
  change pz_E l L xs M_Mo_free 0 0 0 0 [some (.ref 166), some (.int (nI p)), none] [] h z _
  refine pe_aload_n d_Mo_free_0 rfl ?_
  refine pe_getf d_Mo_free_1 f_Mo_33 hMo rfl ?_
  refine pe_iload_n d_Mo_free_4 rfl ?_
  refine pe_iconst (v := -1) d_Mo_free_5 (by decide) ?_
  refine pe_iastN d_Mo_free_6 hOw (by omega) (by omega) ?_
  refine pe_pu (fun h2 e2 o2 => ?_)
  have hMo := (o2 (166) (by omega)).trans hMo
  have hOw := e2
  have hDl := (o2 (173) (by omega)).trans hDl
  have hRt := (o2 (174) (by omega)).trans hRt
  have hf := hf.st o2 (by decide)
  refine pe_aload_n d_Mo_free_7 rfl ?_
  refine pe_getf d_Mo_free_8 f_Mo_39 hMo rfl ?_
  refine pe_iload_n d_Mo_free_11 rfl ?_
  refine pe_iconst (v := nI 0) d_Mo_free_12 (by decide) ?_
  refine pe_iastN d_Mo_free_13 hDl (by omega) (by omega) ?_
  refine pe_pu (fun h2 e2 o2 => ?_)
  have hMo := (o2 (166) (by omega)).trans hMo
  have hOw := (o2 (171) (by omega)).trans hOw
  have hDl := e2
  have hRt := (o2 (174) (by omega)).trans hRt
  have hf := hf.st o2 (by decide)
  refine pe_iconst (v := nI 0) d_Mo_free_14 (by decide) ?_
  refine pe_istore_n d_Mo_free_15 (by decide) rfl ?_
  dsimp only [List.set]
  exact loop 7 0 _ (by omega) (by omega) hMo hOw hDl (by rw [fil_0]; exact hRt) hf
set_option maxHeartbeats 4000000 in
set_option maxRecDepth 20000 in
theorem c_Mo_entryOf {l : Launch} {L : Nat} {xs : Nat → Int32} {h : pz_H} {z : Nat} {np nb now tkg lst flt byt : Nat} {sa sx : Int32} (hMo : MOB h np nb now tkg lst flt byt sa sx) (hnp : np ≤ 32) (hnb : nb ≤ 32) {Men : Nat → Nat} (hEn : AN h 188 6 Men) {Mke : Nat → Int32} (hKe : AI h 189 168 Mke) {a : Nat} (ha : a < 6) (hen : Men a ≤ 28) (x : Int32) : pz_K l L xs M_Mo_entryOf 0 0 0 [.ref 166, .int (nI a), .int x] h z (fun v h' z' => v = some (.int (omi (if ff (fun j => decide (Mke (a * 28 + j) = x)) (Men a - 0) 0 < Men a then some (a * 28 + ff (fun j => decide (Mke (a * 28 + j) = x)) (Men a - 0) 0) else none))) ∧ h = h' ∧ z = z') := by
  refine pz_K.of rfl (Nat.le_of_ble_eq_true rfl) ?_
  have loop : ∀ (n : Nat) (i : Nat), i ≤ Men a → Men a + 1 ≤ i + n → pz_E l L xs M_Mo_entryOf 0 0 0 5 [some (.ref 166), some (.int (nI a)), some (.int x), some (.int (nI (a * 28 + i)))] [] h z (fun v h' z' => v = some (.int (omi (if ff (fun j => decide (Mke (a * 28 + j) = x)) (Men a - i) i < Men a then some (a * 28 + ff (fun j => decide (Mke (a * 28 + j) = x)) (Men a - i) i) else none))) ∧ h = h' ∧ z = z') := by
    intro n
    induction n with
    | zero => intros; omega
    | succ n ih =>
      intro i hi hin
      refine pe_iload_n d_Mo_entryOf_5 rfl ?_
      refine pe_iload_n d_Mo_entryOf_6 rfl ?_
      refine pe_bipush (v := nI 28) d_Mo_entryOf_7 (by decide) ?_
      refine pe_imulN d_Mo_entryOf_9 ?_
      refine pe_aload_n d_Mo_entryOf_10 rfl ?_
      refine pe_getf d_Mo_entryOf_11 f_Mo_96 hMo rfl ?_
      refine pe_iload_n d_Mo_entryOf_14 rfl ?_
      refine pe_ialdN d_Mo_entryOf_15 hEn (by omega) (by omega) ?_
      refine pe_iaddN d_Mo_entryOf_16 ?_
      refine pe_icmpN_ge (tgt := 38) d_Mo_entryOf_17 (by decide) (by omega) (by omega) (fun c_17 => ?_) (fun c_17 => ?_)
      · refine pe_iconst (v := -1) d_Mo_entryOf_38 (by decide) ?_
        refine pe_iret d_Mo_entryOf_39 rfl ?_
        exact ⟨by rw [ff_end (P := (fun j => decide (Mke (a * 28 + j) = x))) (by omega), if_neg (by omega)]; rfl, rfl, rfl⟩
      · have c_17 : i < Men a := by omega
        refine pe_aload_n d_Mo_entryOf_20 rfl ?_
        refine pe_getf d_Mo_entryOf_21 f_Mo_99 hMo rfl ?_
        refine pe_iload_n d_Mo_entryOf_24 rfl ?_
        refine pe_ialdN d_Mo_entryOf_25 hKe (by omega) (by omega) ?_
        refine pe_iload_n d_Mo_entryOf_26 rfl ?_
        refine pe_icmp_ne (tgt := 32) d_Mo_entryOf_27 (by decide) (fun c_27 => ?_) (fun c_27 => ?_)
        · refine pe_iincN d_Mo_entryOf_32 rfl (by decide) rfl ?_
          dsimp only [List.set]
          refine pe_goto (tgt := 5) d_Mo_entryOf_35 (by decide) ?_
          have e := ih (i + 1) (by omega) (by omega)
          rw [← ff_no (P := (fun j => decide (Mke (a * 28 + j) = x))) c_17 (fun q9 => c_27 (of_decide_eq_true q9))] at e
          exact e
        · refine pe_iload_n d_Mo_entryOf_30 rfl ?_
          refine pe_iret d_Mo_entryOf_31 rfl ?_
          exact ⟨by rw [ff_yes (P := (fun j => decide (Mke (a * 28 + j) = x))) c_17 (decide_eq_true c_27), if_pos c_17]; rfl, rfl, rfl⟩
  change pz_E l L xs M_Mo_entryOf 0 0 0 0 [some (.ref 166), some (.int (nI a)), some (.int x), none] [] h z _
  refine pe_iload_n d_Mo_entryOf_0 rfl ?_
  refine pe_bipush (v := nI 28) d_Mo_entryOf_1 (by decide) ?_
  refine pe_imulN d_Mo_entryOf_3 ?_
  refine pe_istore_n d_Mo_entryOf_4 (by decide) rfl ?_
  dsimp only [List.set]
  exact loop (Men a + 1) 0 (by omega) (by omega)
set_option maxHeartbeats 4000000 in
set_option maxRecDepth 20000 in
theorem c_Mo_pagesOf {l : Launch} {L : Nat} {xs : Nat → Int32} {h : pz_H} {z : Nat} {np nb now tkg lst flt byt : Nat} {sa sx : Int32} (hMo : MOB h np nb now tkg lst flt byt sa sx) (hnp : np ≤ 32) (hnb : nb ≤ 32) {Mow : Nat → Int32} (hOw : AI h 171 32 Mow) {Mdl : Nat → Int32} (hDl : AI h 173 32 Mdl) (x : Int32) (b : Bool) : pz_K l L xs M_Mo_pagesOf 0 0 0 [.ref 166, .int x, .int (pb b)] h z (fun v h' z' => v = some (.int (nI (cnt (fun j => decide (Mow j = x) && (!b || decide (0 < Mdl j))) (np - 0) 0))) ∧ h = h' ∧ z = z') := by
  refine pz_K.of rfl (Nat.le_of_ble_eq_true rfl) ?_
  have loop : ∀ (n : Nat) (i u : Nat), i ≤ np → u ≤ i → np + 1 ≤ i + n → pz_E l L xs M_Mo_pagesOf 0 0 0 5 [some (.ref 166), some (.int x), some (.int (pb b)), some (.int (nI u)), some (.int (nI i))] [] h z (fun v h' z' => v = some (.int (nI (u + cnt (fun j => decide (Mow j = x) && (!b || decide (0 < Mdl j))) (np - i) i))) ∧ h = h' ∧ z = z') := by
    intro n
    induction n with
    | zero => intros; omega
    | succ n ih =>
      intro i u hi hu hin
      refine pe_iload d_Mo_pagesOf_5 rfl ?_
      refine pe_aload_n d_Mo_pagesOf_7 rfl ?_
      refine pe_getf d_Mo_pagesOf_8 f_Mo_105 hMo rfl ?_
      refine pe_icmpN_ge (tgt := 48) d_Mo_pagesOf_11 (by decide) (by omega) (by omega) (fun c_11 => ?_) (fun c_11 => ?_)
      · refine pe_iload_n d_Mo_pagesOf_48 rfl ?_
        refine pe_iret d_Mo_pagesOf_49 rfl ?_
        rw [cnt_end (P := (fun j => decide (Mow j = x) && (!b || decide (0 < Mdl j)))) (by omega)]
        exact ⟨rfl, rfl, rfl⟩
      · have c_11 : i < np := by omega
        refine pe_aload_n d_Mo_pagesOf_14 rfl ?_
        refine pe_getf d_Mo_pagesOf_15 f_Mo_33 hMo rfl ?_
        refine pe_iload d_Mo_pagesOf_18 rfl ?_
        refine pe_ialdN d_Mo_pagesOf_20 hOw (by omega) (by omega) ?_
        refine pe_iload_n d_Mo_pagesOf_21 rfl ?_
        refine pe_icmp_ne (tgt := 42) d_Mo_pagesOf_22 (by decide) (fun c_22 => ?_) (fun c_22 => ?_)
        · refine pe_iincN d_Mo_pagesOf_42 rfl (by decide) rfl ?_
          dsimp only [List.set]
          refine pe_goto (tgt := 5) d_Mo_pagesOf_45 (by decide) ?_
          have e := ih (i + 1) u (by omega) (by omega) (by omega)
          rw [cnt_no (P := (fun j => decide (Mow j = x) && (!b || decide (0 < Mdl j)))) c_11 (by simp_all)]
          exact e
        · refine pe_iload_n d_Mo_pagesOf_25 rfl ?_
          refine pe_if_eq (tgt := 39) d_Mo_pagesOf_26 (by decide) (fun c_26 => ?_) (fun c_26 => ?_)
          · have c_26 := pb_0.mp c_26
            refine pe_iincN d_Mo_pagesOf_39 rfl (by decide) rfl ?_
            dsimp only [List.set]
            refine pe_iincN d_Mo_pagesOf_42 rfl (by decide) rfl ?_
            dsimp only [List.set]
            refine pe_goto (tgt := 5) d_Mo_pagesOf_45 (by decide) ?_
            have e := ih (i + 1) (u + 1) (by omega) (by omega) (by omega)
            rw [cnt_yes (P := (fun j => decide (Mow j = x) && (!b || decide (0 < Mdl j)))) c_11 (by simp_all)]
            exact e
          · have c_26 := pb_n0.mp c_26
            refine pe_aload_n d_Mo_pagesOf_29 rfl ?_
            refine pe_getf d_Mo_pagesOf_30 f_Mo_39 hMo rfl ?_
            refine pe_iload d_Mo_pagesOf_33 rfl ?_
            refine pe_ialdN d_Mo_pagesOf_35 hDl (by omega) (by omega) ?_
            refine pe_if_le (tgt := 42) d_Mo_pagesOf_36 (by decide) (fun c_36 => ?_) (fun c_36 => ?_)
            · refine pe_iincN d_Mo_pagesOf_42 rfl (by decide) rfl ?_
              dsimp only [List.set]
              refine pe_goto (tgt := 5) d_Mo_pagesOf_45 (by decide) ?_
              have e := ih (i + 1) u (by omega) (by omega) (by omega)
              rw [cnt_no (P := (fun j => decide (Mow j = x) && (!b || decide (0 < Mdl j)))) c_11 (by simp_all)]
              exact e
            · refine pe_iincN d_Mo_pagesOf_39 rfl (by decide) rfl ?_
              dsimp only [List.set]
              refine pe_iincN d_Mo_pagesOf_42 rfl (by decide) rfl ?_
              dsimp only [List.set]
              refine pe_goto (tgt := 5) d_Mo_pagesOf_45 (by decide) ?_
              have e := ih (i + 1) (u + 1) (by omega) (by omega) (by omega)
              rw [cnt_yes (P := (fun j => decide (Mow j = x) && (!b || decide (0 < Mdl j)))) c_11 (by simp_all)]
              exact e
  change pz_E l L xs M_Mo_pagesOf 0 0 0 0 [some (.ref 166), some (.int x), some (.int (pb b)), none, none] [] h z _
  refine pe_iconst (v := nI 0) d_Mo_pagesOf_0 (by decide) ?_
  refine pe_istore_n d_Mo_pagesOf_1 (by decide) rfl ?_
  dsimp only [List.set]
  refine pe_iconst (v := nI 0) d_Mo_pagesOf_2 (by decide) ?_
  refine pe_istore d_Mo_pagesOf_3 (by decide) rfl ?_
  dsimp only [List.set]
  have e := loop (np + 1) 0 0 (by omega) (by omega) (by omega)
  rw [Nat.zero_add] at e
  exact e
set_option maxHeartbeats 4000000 in
set_option maxRecDepth 20000 in
theorem c_Mo_blocksOf {l : Launch} {L : Nat} {xs : Nat → Int32} {h : pz_H} {z : Nat} {np nb now tkg lst flt byt : Nat} {sa sx : Int32} (hMo : MOB h np nb now tkg lst flt byt sa sx) (hnp : np ≤ 32) (hnb : nb ≤ 32) {Mho : Nat → Int32} (hHo : AI h 185 32 Mho) (x : Int32) : pz_K l L xs M_Mo_blocksOf 0 0 0 [.ref 166, .int x] h z (fun v h' z' => v = some (.int (nI (cnt (fun j => decide (Mho j = x)) (nb - 0) 0))) ∧ h = h' ∧ z = z') := by
  refine pz_K.of rfl (Nat.le_of_ble_eq_true rfl) ?_
  have loop : ∀ (n : Nat) (i u : Nat), i ≤ nb → u ≤ i → nb + 1 ≤ i + n → pz_E l L xs M_Mo_blocksOf 0 0 0 4 [some (.ref 166), some (.int x), some (.int (nI u)), some (.int (nI i))] [] h z (fun v h' z' => v = some (.int (nI (u + cnt (fun j => decide (Mho j = x)) (nb - i) i))) ∧ h = h' ∧ z = z') := by
    intro n
    induction n with
    | zero => intros; omega
    | succ n ih =>
      intro i u hi hu hin
      refine pe_iload_n d_Mo_blocksOf_4 rfl ?_
      refine pe_aload_n d_Mo_blocksOf_5 rfl ?_
      refine pe_getf d_Mo_blocksOf_6 f_Mo_108 hMo rfl ?_
      refine pe_icmpN_ge (tgt := 31) d_Mo_blocksOf_9 (by decide) (by omega) (by omega) (fun c_9 => ?_) (fun c_9 => ?_)
      · refine pe_iload_n d_Mo_blocksOf_31 rfl ?_
        refine pe_iret d_Mo_blocksOf_32 rfl ?_
        rw [cnt_end (P := (fun j => decide (Mho j = x))) (by omega)]
        exact ⟨rfl, rfl, rfl⟩
      · have c_9 : i < nb := by omega
        refine pe_aload_n d_Mo_blocksOf_12 rfl ?_
        refine pe_getf d_Mo_blocksOf_13 f_Mo_87 hMo rfl ?_
        refine pe_iload_n d_Mo_blocksOf_16 rfl ?_
        refine pe_ialdN d_Mo_blocksOf_17 hHo (by omega) (by omega) ?_
        refine pe_iload_n d_Mo_blocksOf_18 rfl ?_
        refine pe_icmp_ne (tgt := 25) d_Mo_blocksOf_19 (by decide) (fun c_19 => ?_) (fun c_19 => ?_)
        · refine pe_iincN d_Mo_blocksOf_25 rfl (by decide) rfl ?_
          dsimp only [List.set]
          refine pe_goto (tgt := 4) d_Mo_blocksOf_28 (by decide) ?_
          have e := ih (i + 1) u (by omega) (by omega) (by omega)
          rw [cnt_no (P := (fun j => decide (Mho j = x))) c_9 (by simp_all)]
          exact e
        · refine pe_iincN d_Mo_blocksOf_22 rfl (by decide) rfl ?_
          dsimp only [List.set]
          refine pe_iincN d_Mo_blocksOf_25 rfl (by decide) rfl ?_
          dsimp only [List.set]
          refine pe_goto (tgt := 4) d_Mo_blocksOf_28 (by decide) ?_
          have e := ih (i + 1) (u + 1) (by omega) (by omega) (by omega)
          rw [cnt_yes (P := (fun j => decide (Mho j = x))) c_9 (by simp_all)]
          exact e
  change pz_E l L xs M_Mo_blocksOf 0 0 0 0 [some (.ref 166), some (.int x), none, none] [] h z _
  refine pe_iconst (v := nI 0) d_Mo_blocksOf_0 (by decide) ?_
  refine pe_istore_n d_Mo_blocksOf_1 (by decide) rfl ?_
  dsimp only [List.set]
  refine pe_iconst (v := nI 0) d_Mo_blocksOf_2 (by decide) ?_
  refine pe_istore_n d_Mo_blocksOf_3 (by decide) rfl ?_
  dsimp only [List.set]
  have e := loop (nb + 1) 0 0 (by omega) (by omega) (by omega)
  rw [Nat.zero_add] at e
  exact e
