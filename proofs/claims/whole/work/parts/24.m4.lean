/-! the reference: contracts of BindingKernelModel, fourth part -/
set_option maxHeartbeats 4000000 in
set_option maxRecDepth 20000 in
theorem c_Mo_install_no {l : Launch} {L : Nat} {xs : Nat → Int32} {h : pz_H} {z : Nat} {np nb now tkg lst flt byt : Nat} {sa sx : Int32} (hMo : MOB h np nb now tkg lst flt byt sa sx) (hnp : np ≤ 32) (hnb : nb ≤ 32) {Mop : Nat → Bool} (hOp : AB h 167 6 Mop) {Mln : Nat → Nat} (hLn : AN h 178 12 Mln) {Mcd : Nat → Int32} (hCd : AI h 179 768 Mcd) {Mst : Nat → Int32} (hSt : AI h 180 6 Mst) (x : Int32) (hno : opn Mop x = false) : pz_K l L xs M_Mo_install 2 0 0 [.ref 166, .int x] h z (fun v h' z' => v = some (.int (-1)) ∧ h = h' ∧ z = z') := by
  refine pz_K.of rfl (Nat.le_of_ble_eq_true rfl) ?_
  change pz_E l L xs M_Mo_install 2 0 0 0 [some (.ref 166), some (.int x), none, none, none] [] h z _
  refine pe_aload_n d_Mo_install_0 rfl ?_
  refine pe_iload_n d_Mo_install_1 rfl ?_
  -- 2: Mo_shut
  refine pe_callV d_Mo_install_2 m_Mo_126 j_Mo_shut v_Mo_shut (c_Mo_shut hMo hnp hnb hOp _) rfl rfl (by simp [Value.category]) (by decide) hMo rfl rfl ?_
  intro v1 h1 z1 hq1
  obtain ⟨rfl, rfl, rfl⟩ := hq1
  change pz_E _ _ _ _ _ _ _ _ _ (_ :: _) _ _ _
  refine pe_if_eq (tgt := 10) d_Mo_install_5 (by decide) (fun c_5 => ?_) (fun c_5 => ?_)
  · have c_5 := pb_0.mp c_5
    exact absurd (nb_f c_5) (by rw [hno]; decide)
  · have c_5 := pb_n0.mp c_5
    refine pe_iconst (v := -1) d_Mo_install_8 (by decide) ?_
    refine pe_iret d_Mo_install_9 rfl ?_
    exact ⟨rfl, rfl, rfl⟩
set_option maxHeartbeats 4000000 in
set_option maxRecDepth 20000 in
theorem c_Mo_install_bad {l : Launch} {L : Nat} {xs : Nat → Int32} {h : pz_H} {z : Nat} {np nb now tkg lst flt byt : Nat} {sa sx : Int32} (hMo : MOB h np nb now tkg lst flt byt sa sx) (hnp : np ≤ 32) (hnb : nb ≤ 32) {Mop : Nat → Bool} (hOp : AB h 167 6 Mop) {Mln : Nat → Nat} (hLn : AN h 178 12 Mln) {Mcd : Nat → Int32} (hCd : AI h 179 768 Mcd) {Mst : Nat → Int32} (hSt : AI h 180 6 Mst) {a : Nat} (ha : a < 6) (hop : Mop a = true) (hl : Mln a ≤ 16) {yy nn : Nat → Nat} (hyn : ∀ j, j < Mln a → nI 6 < Mcd (a * 64 + j * 4) → Mcd (a * 64 + j * 4) < nI 10 → Mcd (a * 64 + j * 4 + 2) = nI (yy j) ∧ Mcd (a * 64 + j * 4 + 3) = nI (nn j) ∧ yy j ≤ 15 ∧ nn j ≤ 15) (hy0 : ∀ j, j < Mln a → Mcd (a * 64 + j * 4) < nI 7 → yy j = 0 ∧ nn j = 0) (hbad : ff (bad (fun j => Mcd (a * 64 + j * 4)) yy nn (Mln a)) (Mln a) 0 < Mln a) : pz_K l L xs M_Mo_install 2 0 0 [.ref 166, .int (nI a)] h z (fun v h' z' => v = some (.int (-5)) ∧ z = z' ∧ AN h' 178 12 (va_up Mln a 0) ∧ frx [178] h h') := by
  refine pz_K.of rfl (Nat.le_of_ble_eq_true rfl) ?_
  have hf : frx [178] h h := frx.rf
  change pz_E l L xs M_Mo_install 2 0 0 0 [some (.ref 166), some (.int (nI a)), none, none, none] [] h z _
  refine pe_aload_n d_Mo_install_0 rfl ?_
  refine pe_iload_n d_Mo_install_1 rfl ?_
  -- 2: Mo_shut
  refine pe_callV d_Mo_install_2 m_Mo_126 j_Mo_shut v_Mo_shut (c_Mo_shut hMo hnp hnb hOp _) rfl rfl (by simp [Value.category]) (by decide) hMo rfl rfl ?_
  intro v1 h1 z1 hq1
  obtain ⟨rfl, rfl, rfl⟩ := hq1
  change pz_E _ _ _ _ _ _ _ _ _ (_ :: _) _ _ _
  refine pe_if_eq (tgt := 10) d_Mo_install_5 (by decide) (fun c_5 => ?_) (fun c_5 => ?_)
  · have c_5 := pb_0.mp c_5
    refine pe_aload_n d_Mo_install_10 rfl ?_
    refine pe_iload_n d_Mo_install_11 rfl ?_
    -- 12: Mo_sound
    refine pe_callV d_Mo_install_12 m_Mo_139 j_Mo_sound v_Mo_sound (c_Mo_sound hMo hnp hnb hLn hCd ha hl hyn hy0) rfl rfl (by simp [Value.category]) (by decide) hMo rfl rfl ?_
    intro v1 h1 z1 hq1
    obtain ⟨rfl, rfl, rfl⟩ := hq1
    rw [Nat.sub_zero]
    change pz_E _ _ _ _ _ _ _ _ _ (_ :: _) _ _ _
    refine pe_istore_n d_Mo_install_15 (by decide) rfl ?_
    dsimp only [List.set]
    refine pe_aload_n d_Mo_install_16 rfl ?_
    refine pe_getf d_Mo_install_17 f_Mo_54 hMo rfl ?_
    refine pe_iload_n d_Mo_install_20 rfl ?_
    refine pe_ialdN d_Mo_install_21 hLn (by omega) (by omega) ?_
    refine pe_istore_n d_Mo_install_22 (by decide) rfl ?_
    dsimp only [List.set]
    refine pe_aload_n d_Mo_install_23 rfl ?_
    refine pe_getf d_Mo_install_24 f_Mo_54 hMo rfl ?_
    refine pe_iload_n d_Mo_install_27 rfl ?_
    refine pe_iconst (v := nI 0) d_Mo_install_28 (by decide) ?_
    refine pe_iastN d_Mo_install_29 hLn (by omega) (by omega) ?_
    rw [upn]
    refine pe_pu (fun h2 e2 o2 => ?_)
    have hMo := (o2 (166) (by omega)).trans hMo
    have hOp := (o2 (167) (by omega)).trans hOp
    have hLn := e2
    have hCd := (o2 (179) (by omega)).trans hCd
    have hSt := (o2 (180) (by omega)).trans hSt
    have hf := hf.st o2 (by decide)
    refine pe_iload_n d_Mo_install_30 rfl ?_
    refine pe_if_ne (tgt := 37) d_Mo_install_31 (by decide) (fun c_31 => ?_) (fun c_31 => ?_)
    · have c_31 := pb_n0.mp c_31
      exact absurd hbad (of_decide_eq_true c_31)
    · have c_31 := pb_0.mp c_31
      refine pe_bipush (v := -5) d_Mo_install_34 (by decide) ?_
      refine pe_iret d_Mo_install_36 rfl ?_
      exact ⟨rfl, rfl, hLn, hf⟩
  · have c_5 := pb_n0.mp c_5
    exact absurd c_5 (by rw [opn_a ha, hop]; decide)
set_option maxHeartbeats 4000000 in
set_option maxRecDepth 20000 in
theorem c_Mo_install_0 {l : Launch} {L : Nat} {xs : Nat → Int32} {h : pz_H} {z : Nat} {np nb now tkg lst flt byt : Nat} {sa sx : Int32} (hMo : MOB h np nb now tkg lst flt byt sa sx) (hnp : np ≤ 32) (hnb : nb ≤ 32) {Mop : Nat → Bool} (hOp : AB h 167 6 Mop) {Mln : Nat → Nat} (hLn : AN h 178 12 Mln) {Mcd : Nat → Int32} (hCd : AI h 179 768 Mcd) {Mst : Nat → Int32} (hSt : AI h 180 6 Mst) {a : Nat} (ha : a < 6) (hop : Mop a = true) (hl : Mln a ≤ 16) {yy nn : Nat → Nat} (hyn : ∀ j, j < Mln a → nI 6 < Mcd (a * 64 + j * 4) → Mcd (a * 64 + j * 4) < nI 10 → Mcd (a * 64 + j * 4 + 2) = nI (yy j) ∧ Mcd (a * 64 + j * 4 + 3) = nI (nn j) ∧ yy j ≤ 15 ∧ nn j ≤ 15) (hy0 : ∀ j, j < Mln a → Mcd (a * 64 + j * 4) < nI 7 → yy j = 0 ∧ nn j = 0) (hgood : ¬ ff (bad (fun j => Mcd (a * 64 + j * 4)) yy nn (Mln a)) (Mln a) 0 < Mln a) (hfl : flt ≤ 6) (h0 : Mln a = 0) : pz_K l L xs M_Mo_install 2 0 0 [.ref 166, .int (nI a)] h z (fun v h' z' => v = some (.int (nI 0)) ∧ z = z' ∧ MOB h' np nb now tkg lst (wst Mst (nI a) flt).2 byt sa sx ∧ AN h' 178 12 (va_up Mln a 0) ∧ AI h' 180 6 (wst Mst (nI a) flt).1 ∧ frx [166, 178, 180] h h') := by
  refine pz_K.of rfl (Nat.le_of_ble_eq_true rfl) ?_
  have hf : frx [166, 178, 180] h h := frx.rf
  change pz_E l L xs M_Mo_install 2 0 0 0 [some (.ref 166), some (.int (nI a)), none, none, none] [] h z _
  refine pe_aload_n d_Mo_install_0 rfl ?_
  refine pe_iload_n d_Mo_install_1 rfl ?_
  -- 2: Mo_shut
  refine pe_callV d_Mo_install_2 m_Mo_126 j_Mo_shut v_Mo_shut (c_Mo_shut hMo hnp hnb hOp _) rfl rfl (by simp [Value.category]) (by decide) hMo rfl rfl ?_
  intro v1 h1 z1 hq1
  obtain ⟨rfl, rfl, rfl⟩ := hq1
  change pz_E _ _ _ _ _ _ _ _ _ (_ :: _) _ _ _
  refine pe_if_eq (tgt := 10) d_Mo_install_5 (by decide) (fun c_5 => ?_) (fun c_5 => ?_)
  · have c_5 := pb_0.mp c_5
    refine pe_aload_n d_Mo_install_10 rfl ?_
    refine pe_iload_n d_Mo_install_11 rfl ?_
    -- 12: Mo_sound
    refine pe_callV d_Mo_install_12 m_Mo_139 j_Mo_sound v_Mo_sound (c_Mo_sound hMo hnp hnb hLn hCd ha hl hyn hy0) rfl rfl (by simp [Value.category]) (by decide) hMo rfl rfl ?_
    intro v1 h1 z1 hq1
    obtain ⟨rfl, rfl, rfl⟩ := hq1
    rw [Nat.sub_zero]
    change pz_E _ _ _ _ _ _ _ _ _ (_ :: _) _ _ _
    refine pe_istore_n d_Mo_install_15 (by decide) rfl ?_
    dsimp only [List.set]
    refine pe_aload_n d_Mo_install_16 rfl ?_
    refine pe_getf d_Mo_install_17 f_Mo_54 hMo rfl ?_
    refine pe_iload_n d_Mo_install_20 rfl ?_
    refine pe_ialdN d_Mo_install_21 hLn (by omega) (by omega) ?_
    refine pe_istore_n d_Mo_install_22 (by decide) rfl ?_
    dsimp only [List.set]
    refine pe_aload_n d_Mo_install_23 rfl ?_
    refine pe_getf d_Mo_install_24 f_Mo_54 hMo rfl ?_
    refine pe_iload_n d_Mo_install_27 rfl ?_
    refine pe_iconst (v := nI 0) d_Mo_install_28 (by decide) ?_
    refine pe_iastN d_Mo_install_29 hLn (by omega) (by omega) ?_
    rw [upn]
    refine pe_pu (fun h2 e2 o2 => ?_)
    have hMo := (o2 (166) (by omega)).trans hMo
    have hOp := (o2 (167) (by omega)).trans hOp
    have hLn := e2
    have hCd := (o2 (179) (by omega)).trans hCd
    have hSt := (o2 (180) (by omega)).trans hSt
    have hf := hf.st o2 (by decide)
    refine pe_iload_n d_Mo_install_30 rfl ?_
    refine pe_if_ne (tgt := 37) d_Mo_install_31 (by decide) (fun c_31 => ?_) (fun c_31 => ?_)
    · have c_31 := pb_n0.mp c_31
      refine pe_aload_n d_Mo_install_37 rfl ?_
      refine pe_iload_n d_Mo_install_38 rfl ?_
      -- 39: Mo_withdraw
      refine pe_callV d_Mo_install_39 m_Mo_134 j_Mo_withdraw v_Mo_withdraw (c_Mo_withdraw hMo hnp hnb hSt _ hfl) rfl rfl (by simp [Value.category]) (by decide) hMo rfl rfl ?_
      intro v1 h1 z1 hq1
      obtain ⟨rfl, rfl, hMo, hSt, hf1⟩ := hq1
      have hOp := (hf1 167 (by decide)).trans hOp
      have hLn := (hf1 178 (by decide)).trans hLn
      have hCd := (hf1 179 (by decide)).trans hCd
      have hf := hf.tr (hf1.wd (by decide))
      change pz_E _ _ _ _ _ _ _ _ _ _ _ _ _
      refine pe_iload_n d_Mo_install_42 rfl ?_
      refine pe_if_ne (tgt := 48) d_Mo_install_43 (by decide) (fun c_43 => ?_) (fun c_43 => ?_)
      · exact absurd (by rw [h0]; rfl) c_43
      · refine pe_iconst (v := nI 0) d_Mo_install_46 (by decide) ?_
        refine pe_iret d_Mo_install_47 rfl ?_
        exact ⟨rfl, rfl, hMo, hLn, hSt, hf⟩
    · have c_31 := pb_0.mp c_31
      exact absurd hgood (of_decide_eq_false c_31)
  · have c_5 := pb_n0.mp c_5
    exact absurd c_5 (by rw [opn_a ha, hop]; decide)
set_option maxHeartbeats 4000000 in
set_option maxRecDepth 20000 in
theorem c_Mo_install_n {l : Launch} {L : Nat} {xs : Nat → Int32} {h : pz_H} {z : Nat} {np nb now tkg lst flt byt : Nat} {sa sx : Int32} (hMo : MOB h np nb now tkg lst flt byt sa sx) (hnp : np ≤ 32) (hnb : nb ≤ 32) {Mop : Nat → Bool} (hOp : AB h 167 6 Mop) {Mln : Nat → Nat} (hLn : AN h 178 12 Mln) {Mcd : Nat → Int32} (hCd : AI h 179 768 Mcd) {Mst : Nat → Int32} (hSt : AI h 180 6 Mst) {a : Nat} (ha : a < 6) (hop : Mop a = true) (hl : Mln a ≤ 16) {yy nn : Nat → Nat} (hyn : ∀ j, j < Mln a → nI 6 < Mcd (a * 64 + j * 4) → Mcd (a * 64 + j * 4) < nI 10 → Mcd (a * 64 + j * 4 + 2) = nI (yy j) ∧ Mcd (a * 64 + j * 4 + 3) = nI (nn j) ∧ yy j ≤ 15 ∧ nn j ≤ 15) (hy0 : ∀ j, j < Mln a → Mcd (a * 64 + j * 4) < nI 7 → yy j = 0 ∧ nn j = 0) (hgood : ¬ ff (bad (fun j => Mcd (a * 64 + j * 4)) yy nn (Mln a)) (Mln a) 0 < Mln a) (hfl : flt ≤ 6) (h0 : 0 < Mln a) (hdl : (wst Mst (nI a) flt).2 < 6) : pz_K l L xs M_Mo_install 2 0 0 [.ref 166, .int (nI a)] h z (fun v h' z' => v = some (.int (nI 0)) ∧ z = z' ∧ MOB h' np nb now tkg lst ((wst Mst (nI a) flt).2 + 1) byt sa sx ∧ AN h' 178 12 (va_up (va_up Mln a 0) (6 + a) (Mln a)) ∧ AI h' 179 768 (fil Mcd (fun j => Mcd (j - 384)) (384 + a * 64) 64) ∧ AI h' 180 6 (upd (wst Mst (nI a) flt).1 (wst Mst (nI a) flt).2 (nI a)) ∧ frx [166, 178, 179, 180] h h') := by
  refine pz_K.of rfl (Nat.le_of_ble_eq_true rfl) ?_
  have hf : frx [166, 178, 179, 180] h h := frx.rf
  have loop : ∀ (n : Nat) (s9 : Int32) (i : Nat) (k : pz_H), i ≤ 64 → 65 ≤ i + n → MOB k np nb now tkg lst (wst Mst (nI a) flt).2 byt sa sx → AN k 178 12 (va_up Mln a 0) → AI k 179 768 (fil Mcd (fun j => Mcd (j - 384)) (384 + a * 64) i) → AI k 180 6 (wst Mst (nI a) flt).1 → frx [166, 178, 179, 180] h k → pz_E l L xs M_Mo_install 2 0 0 51 [some (.ref 166), some (.int (nI a)), some (.int s9), some (.int (nI (Mln a))), some (.int (nI i))] [] k z (fun v h' z' => v = some (.int (nI 0)) ∧ z = z' ∧ MOB h' np nb now tkg lst ((wst Mst (nI a) flt).2 + 1) byt sa sx ∧ AN h' 178 12 (va_up (va_up Mln a 0) (6 + a) (Mln a)) ∧ AI h' 179 768 (fil Mcd (fun j => Mcd (j - 384)) (384 + a * 64) 64) ∧ AI h' 180 6 (upd (wst Mst (nI a) flt).1 (wst Mst (nI a) flt).2 (nI a)) ∧ frx [166, 178, 179, 180] h h') := by
    intro n
    induction n with
    | zero => intros; omega
    | succ n ih =>
      intro s9 i k hi hin hMo hLn hCd hSt hf
      refine pe_iload d_Mo_install_51 rfl ?_
      refine pe_bipush (v := nI 64) d_Mo_install_53 (by decide) ?_
      refine pe_icmpN_ge (tgt := 92) d_Mo_install_55 (by decide) (by omega) (by omega) (fun c_55 => ?_) (fun c_55 => ?_)
      · refine pe_aload_n d_Mo_install_92 rfl ?_
        refine pe_getf d_Mo_install_93 f_Mo_54 hMo rfl ?_
        refine pe_bipush (v := nI 6) d_Mo_install_96 (by decide) ?_
        refine pe_iload_n d_Mo_install_98 rfl ?_
        refine pe_iaddN d_Mo_install_99 ?_
        refine pe_iload_n d_Mo_install_100 rfl ?_
        refine pe_iastN d_Mo_install_101 hLn (by omega) (by omega) ?_
        rw [upn]
        refine pe_pu (fun h2 e2 o2 => ?_)
        have hMo := (o2 (166) (by omega)).trans hMo
        have hLn := e2
        have hCd := (o2 (179) (by omega)).trans hCd
        have hSt := (o2 (180) (by omega)).trans hSt
        have hf := hf.st o2 (by decide)
        refine pe_aload_n d_Mo_install_102 rfl ?_
        refine pe_getf d_Mo_install_103 f_Mo_60 hMo rfl ?_
        refine pe_aload_n d_Mo_install_106 rfl ?_
        refine pe_getf d_Mo_install_107 f_Mo_63 hMo rfl ?_
        refine pe_iload_n d_Mo_install_110 rfl ?_
        refine pe_iastN d_Mo_install_111 hSt (by omega) (by omega) ?_
        refine pe_pu (fun h2 e2 o2 => ?_)
        have hMo := (o2 (166) (by omega)).trans hMo
        have hLn := (o2 (178) (by omega)).trans hLn
        have hCd := (o2 (179) (by omega)).trans hCd
        have hSt := e2
        have hf := hf.st o2 (by decide)
        refine pe_aload_n d_Mo_install_112 rfl ?_
        refine pe_dup d_Mo_install_113 rfl ?_
        refine pe_getf d_Mo_install_114 f_Mo_63 hMo rfl ?_
        refine pe_iconst (v := nI 1) d_Mo_install_117 (by decide) ?_
        refine pe_iaddN d_Mo_install_118 ?_
        refine pe_put d_Mo_install_119 g_Mo_63 hMo (Nat.le_of_ble_eq_true rfl) rfl ?_
        refine pe_pu (fun h2 e2 o2 => ?_)
        have hMo := e2
        have hLn := (o2 (178) (by omega)).trans hLn
        have hCd := (o2 (179) (by omega)).trans hCd
        have hSt := (o2 (180) (by omega)).trans hSt
        have hf := hf.st o2 (by decide)
        refine pe_iconst (v := nI 0) d_Mo_install_122 (by decide) ?_
        refine pe_iret d_Mo_install_123 rfl ?_
        have e : i = 64 := by omega
        subst e
        exact ⟨rfl, rfl, hMo, hLn, hCd, hSt, hf⟩
      · refine pe_aload_n d_Mo_install_58 rfl ?_
        refine pe_getf d_Mo_install_59 f_Mo_57 hMo rfl ?_
        refine pe_sipush (v := nI 384) d_Mo_install_62 (by decide) ?_
        refine pe_iload_n d_Mo_install_65 rfl ?_
        refine pe_bipush (v := nI 64) d_Mo_install_66 (by decide) ?_
        refine pe_imulN d_Mo_install_68 ?_
        refine pe_iaddN d_Mo_install_69 ?_
        refine pe_iload d_Mo_install_70 rfl ?_
        refine pe_iaddN d_Mo_install_72 ?_
        refine pe_aload_n d_Mo_install_73 rfl ?_
        refine pe_getf d_Mo_install_74 f_Mo_57 hMo rfl ?_
        refine pe_iload_n d_Mo_install_77 rfl ?_
        refine pe_bipush (v := nI 64) d_Mo_install_78 (by decide) ?_
        refine pe_imulN d_Mo_install_80 ?_
        refine pe_iload d_Mo_install_81 rfl ?_
        refine pe_iaddN d_Mo_install_83 ?_
        refine pe_ialdN d_Mo_install_84 hCd (by omega) (by omega) ?_
        refine pe_iastN d_Mo_install_85 hCd (by omega) (by omega) ?_
        refine pe_pu (fun h2 e2 o2 => ?_)
        have hMo := (o2 (166) (by omega)).trans hMo
        have hLn := (o2 (178) (by omega)).trans hLn
        have hCd := e2
        have hSt := (o2 (180) (by omega)).trans hSt
        have hf := hf.st o2 (by decide)
        refine pe_iincN d_Mo_install_86 rfl (by decide) rfl ?_
        dsimp only [List.set]
        refine pe_goto (tgt := 51) d_Mo_install_89 (by decide) ?_
        rw [fil_o (by omega), show Mcd (a * 64 + i) = (fun j => Mcd (j - 384)) (384 + a * 64 + i) from congrArg Mcd (by omega), fil_s] at hCd
        exact ih s9 (i + 1) _ (by omega) (by omega) hMo hLn hCd hSt hf
  change pz_E l L xs M_Mo_install 2 0 0 0 [some (.ref 166), some (.int (nI a)), none, none, none] [] h z _
  refine pe_aload_n d_Mo_install_0 rfl ?_
  refine pe_iload_n d_Mo_install_1 rfl ?_
  -- 2: Mo_shut
  refine pe_callV d_Mo_install_2 m_Mo_126 j_Mo_shut v_Mo_shut (c_Mo_shut hMo hnp hnb hOp _) rfl rfl (by simp [Value.category]) (by decide) hMo rfl rfl ?_
  intro v1 h1 z1 hq1
  obtain ⟨rfl, rfl, rfl⟩ := hq1
  change pz_E _ _ _ _ _ _ _ _ _ (_ :: _) _ _ _
  refine pe_if_eq (tgt := 10) d_Mo_install_5 (by decide) (fun c_5 => ?_) (fun c_5 => ?_)
  · have c_5 := pb_0.mp c_5
    refine pe_aload_n d_Mo_install_10 rfl ?_
    refine pe_iload_n d_Mo_install_11 rfl ?_
    -- 12: Mo_sound
    refine pe_callV d_Mo_install_12 m_Mo_139 j_Mo_sound v_Mo_sound (c_Mo_sound hMo hnp hnb hLn hCd ha hl hyn hy0) rfl rfl (by simp [Value.category]) (by decide) hMo rfl rfl ?_
    intro v1 h1 z1 hq1
    obtain ⟨rfl, rfl, rfl⟩ := hq1
    rw [Nat.sub_zero]
    change pz_E _ _ _ _ _ _ _ _ _ (_ :: _) _ _ _
    refine pe_istore_n d_Mo_install_15 (by decide) rfl ?_
    dsimp only [List.set]
    refine pe_aload_n d_Mo_install_16 rfl ?_
    refine pe_getf d_Mo_install_17 f_Mo_54 hMo rfl ?_
    refine pe_iload_n d_Mo_install_20 rfl ?_
    refine pe_ialdN d_Mo_install_21 hLn (by omega) (by omega) ?_
    refine pe_istore_n d_Mo_install_22 (by decide) rfl ?_
    dsimp only [List.set]
    refine pe_aload_n d_Mo_install_23 rfl ?_
    refine pe_getf d_Mo_install_24 f_Mo_54 hMo rfl ?_
    refine pe_iload_n d_Mo_install_27 rfl ?_
    refine pe_iconst (v := nI 0) d_Mo_install_28 (by decide) ?_
    refine pe_iastN d_Mo_install_29 hLn (by omega) (by omega) ?_
    rw [upn]
    refine pe_pu (fun h2 e2 o2 => ?_)
    have hMo := (o2 (166) (by omega)).trans hMo
    have hOp := (o2 (167) (by omega)).trans hOp
    have hLn := e2
    have hCd := (o2 (179) (by omega)).trans hCd
    have hSt := (o2 (180) (by omega)).trans hSt
    have hf := hf.st o2 (by decide)
    refine pe_iload_n d_Mo_install_30 rfl ?_
    refine pe_if_ne (tgt := 37) d_Mo_install_31 (by decide) (fun c_31 => ?_) (fun c_31 => ?_)
    · have c_31 := pb_n0.mp c_31
      refine pe_aload_n d_Mo_install_37 rfl ?_
      refine pe_iload_n d_Mo_install_38 rfl ?_
      -- 39: Mo_withdraw
      refine pe_callV d_Mo_install_39 m_Mo_134 j_Mo_withdraw v_Mo_withdraw (c_Mo_withdraw hMo hnp hnb hSt _ hfl) rfl rfl (by simp [Value.category]) (by decide) hMo rfl rfl ?_
      intro v1 h1 z1 hq1
      obtain ⟨rfl, rfl, hMo, hSt, hf1⟩ := hq1
      have hOp := (hf1 167 (by decide)).trans hOp
      have hLn := (hf1 178 (by decide)).trans hLn
      have hCd := (hf1 179 (by decide)).trans hCd
      have hf := hf.tr (hf1.wd (by decide))
      change pz_E _ _ _ _ _ _ _ _ _ _ _ _ _
      refine pe_iload_n d_Mo_install_42 rfl ?_
      refine pe_if_ne (tgt := 48) d_Mo_install_43 (by decide) (fun c_43 => ?_) (fun c_43 => ?_)
      · refine pe_iconst (v := nI 0) d_Mo_install_48 (by decide) ?_
        refine pe_istore d_Mo_install_49 (by decide) rfl ?_
        dsimp only [List.set]
        have hCd : AI h1 179 768 (fil Mcd (fun j => Mcd (j - 384)) (384 + a * 64) 0) := by rw [fil_0]; exact hCd
        exact loop 65 _ 0 _ (by omega) (by omega) hMo hLn hCd hSt hf
      · exact absurd (nI_inj (a := Mln a) (b := 0) (by omega) (by omega) c_43) (by omega)
    · have c_31 := pb_0.mp c_31
      exact absurd hgood (of_decide_eq_false c_31)
  · have c_5 := pb_n0.mp c_5
    exact absurd c_5 (by rw [opn_a ha, hop]; decide)
def fgD (mo md : Nat → Int32) (x : Int32) (i : Nat) : Nat → Int32 := fun j => if j < i ∧ mo j = x then 0 else md j
theorem fgD_0 (mo md : Nat → Int32) (x : Int32) : fgD mo md x 0 = md := by funext j; simp [fgD]
theorem fgD_y {mo md : Nat → Int32} {x : Int32} {i : Nat} (hx : mo i = x) : upd (fgD mo md x i) i 0 = fgD mo md x (i + 1) := by
  funext j
  unfold upd fgD
  by_cases e : j = i
  · subst e; rw [if_pos rfl, if_pos ⟨by omega, hx⟩]
  · rw [if_neg e]
    by_cases h : j < i ∧ mo j = x
    · rw [if_pos h, if_pos ⟨by omega, h.2⟩]
    · rw [if_neg h, if_neg (fun q => h ⟨by omega, q.2⟩)]
theorem fgD_n {mo md : Nat → Int32} {x : Int32} {i : Nat} (hx : ¬ mo i = x) : fgD mo md x i = fgD mo md x (i + 1) := by
  funext j
  unfold fgD
  by_cases h : j < i ∧ mo j = x
  · rw [if_pos h, if_pos ⟨by omega, h.2⟩]
  · rw [if_neg h, if_neg (fun q => h ⟨by rcases Nat.lt_or_ge j i with r | r; exact r; exact absurd (by rw [show i = j by omega]; exact q.2) hx, q.2⟩)]
theorem fil_upd0 (f : Nat → Int32) (lo k t : Nat) (ht : lo ≤ t ∧ t < lo + k) : upd (fil f (fun _ => 0) lo k) t 0 = fil (upd f t 0) (fun _ => 0) lo k := by
  funext j
  unfold upd fil
  by_cases e : j = t
  · subst e; rw [if_pos rfl, if_pos ht]
  · rw [if_neg e]
    by_cases h : lo ≤ j ∧ j < lo + k
    · rw [if_pos h, if_pos h]
    · rw [if_neg h, if_neg h]; exact (if_neg e).symm
set_option maxHeartbeats 4000000 in
set_option maxRecDepth 20000 in
theorem c_Mo_close_no {l : Launch} {L : Nat} {xs : Nat → Int32} {h : pz_H} {z : Nat} {np nb now tkg lst flt byt : Nat} {sa sx : Int32} (hMo : MOB h np nb now tkg lst flt byt sa sx) (hnp : np ≤ 32) (hnb : nb ≤ 32) {Mop : Nat → Bool} (hOp : AB h 167 6 Mop) {Mow : Nat → Int32} (hOw : AI h 171 32 Mow) {Mdl : Nat → Int32} (hDl : AI h 173 32 Mdl) {Mrt : Nat → Int32} (hRt : AI h 174 192 Mrt) {Mst : Nat → Int32} (hSt : AI h 180 6 Mst) {Mho : Nat → Int32} (hHo : AI h 185 32 Mho) (x : Int32) (hno : opn Mop x = false) : pz_K l L xs M_Mo_close 2 0 0 [.ref 166, .int x] h z (fun v h' z' => v = some (.int (-1)) ∧ h = h' ∧ z = z') := by
  refine pz_K.of rfl (Nat.le_of_ble_eq_true rfl) ?_
  change pz_E l L xs M_Mo_close 2 0 0 0 [some (.ref 166), some (.int x), none] [] h z _
  refine pe_aload_n d_Mo_close_0 rfl ?_
  refine pe_iload_n d_Mo_close_1 rfl ?_
  -- 2: Mo_shut
  refine pe_callV d_Mo_close_2 m_Mo_126 j_Mo_shut v_Mo_shut (c_Mo_shut hMo hnp hnb hOp _) rfl rfl (by simp [Value.category]) (by decide) hMo rfl rfl ?_
  intro v1 h1 z1 hq1
  obtain ⟨rfl, rfl, rfl⟩ := hq1
  change pz_E _ _ _ _ _ _ _ _ _ (_ :: _) _ _ _
  refine pe_if_eq (tgt := 10) d_Mo_close_5 (by decide) (fun c_5 => ?_) (fun c_5 => ?_)
  · have c_5 := pb_0.mp c_5
    exact absurd (nb_f c_5) (by rw [hno]; decide)
  · have c_5 := pb_n0.mp c_5
    refine pe_iconst (v := -1) d_Mo_close_8 (by decide) ?_
    refine pe_iret d_Mo_close_9 rfl ?_
    exact ⟨rfl, rfl, rfl⟩
set_option maxHeartbeats 4000000 in
set_option maxRecDepth 20000 in
theorem c_Mo_close_ok {l : Launch} {L : Nat} {xs : Nat → Int32} {h : pz_H} {z : Nat} {np nb now tkg lst flt byt : Nat} {sa sx : Int32} (hMo : MOB h np nb now tkg lst flt byt sa sx) (hnp : np ≤ 32) (hnb : nb ≤ 32) {Mop : Nat → Bool} (hOp : AB h 167 6 Mop) {Mow : Nat → Int32} (hOw : AI h 171 32 Mow) {Mdl : Nat → Int32} (hDl : AI h 173 32 Mdl) {Mrt : Nat → Int32} (hRt : AI h 174 192 Mrt) {Mst : Nat → Int32} (hSt : AI h 180 6 Mst) {Mho : Nat → Int32} (hHo : AI h 185 32 Mho) {a : Nat} (ha : a < 6) (hop : Mop a = true) (hfl : flt ≤ 6) : pz_K l L xs M_Mo_close 2 0 0 [.ref 166, .int (nI a)] h z (fun v h' z' => v = some (.int (nI 0)) ∧ z = z' ∧ MOB h' np nb now tkg lst (wst Mst (nI a) flt).2 byt sa sx ∧ AB h' 167 6 (updB Mop a false) ∧ AI h' 171 32 (fgO Mow (nI a) np) ∧ AI h' 173 32 (fgD Mow Mdl (nI a) np) ∧ AI h' 174 192 (fgR Mow Mrt (nI a) a np) ∧ AI h' 180 6 (wst Mst (nI a) flt).1 ∧ AI h' 185 32 (frA Mho (nI a) nb) ∧ frx [166, 167, 171, 173, 174, 180, 185] h h') := by
  refine pz_K.of rfl (Nat.le_of_ble_eq_true rfl) ?_
  have hf : frx [166, 167, 171, 173, 174, 180, 185] h h := frx.rf
  have loop2 : ∀ (n : Nat) (i : Nat) (k : pz_H), i ≤ nb → nb + 1 ≤ i + n → MOB k np nb now tkg lst flt byt sa sx → AB k 167 6 Mop → AI k 171 32 (fgO Mow (nI a) np) → AI k 173 32 (fgD Mow Mdl (nI a) np) → AI k 174 192 (fgR Mow Mrt (nI a) a np) → AI k 180 6 Mst → AI k 185 32 (frA Mho (nI a) i) → frx [166, 167, 171, 173, 174, 180, 185] h k → pz_E l L xs M_Mo_close 2 0 0 55 [some (.ref 166), some (.int (nI a)), some (.int (nI i))] [] k z (fun v h' z' => v = some (.int (nI 0)) ∧ z = z' ∧ MOB h' np nb now tkg lst (wst Mst (nI a) flt).2 byt sa sx ∧ AB h' 167 6 (updB Mop a false) ∧ AI h' 171 32 (fgO Mow (nI a) np) ∧ AI h' 173 32 (fgD Mow Mdl (nI a) np) ∧ AI h' 174 192 (fgR Mow Mrt (nI a) a np) ∧ AI h' 180 6 (wst Mst (nI a) flt).1 ∧ AI h' 185 32 (frA Mho (nI a) nb) ∧ frx [166, 167, 171, 173, 174, 180, 185] h h') := by
    intro n
    induction n with
    | zero => intros; omega
    | succ n ih =>
      intro i k hi hin hMo hOp hOw hDl hRt hSt hHo hf
      refine pe_iload_n d_Mo_close_55 rfl ?_
      refine pe_aload_n d_Mo_close_56 rfl ?_
      refine pe_getf d_Mo_close_57 f_Mo_108 hMo rfl ?_
      refine pe_icmpN_ge (tgt := 86) d_Mo_close_60 (by decide) (by omega) (by omega) (fun c_60 => ?_) (fun c_60 => ?_)
      · have e : i = nb := by omega
        subst e
        refine pe_aload_n d_Mo_close_86 rfl ?_
        refine pe_iload_n d_Mo_close_87 rfl ?_
        -- 88: Mo_withdraw
        refine pe_callV d_Mo_close_88 m_Mo_134 j_Mo_withdraw v_Mo_withdraw (c_Mo_withdraw hMo hnp hnb hSt _ hfl) rfl rfl (by simp [Value.category]) (by decide) hMo rfl rfl ?_
        intro v1 h1 z1 hq1
        obtain ⟨rfl, rfl, hMo, hSt, hf1⟩ := hq1
        have hOp := (hf1 167 (by decide)).trans hOp
        have hOw := (hf1 171 (by decide)).trans hOw
        have hDl := (hf1 173 (by decide)).trans hDl
        have hRt := (hf1 174 (by decide)).trans hRt
        have hHo := (hf1 185 (by decide)).trans hHo
        have hf := hf.tr (hf1.wd (by decide))
        change pz_E _ _ _ _ _ _ _ _ _ _ _ _ _
        refine pe_aload_n d_Mo_close_91 rfl ?_
        refine pe_getf d_Mo_close_92 f_Mo_7 hMo rfl ?_
        refine pe_iload_n d_Mo_close_95 rfl ?_
        refine pe_iconst (v := nI 0) d_Mo_close_96 (by decide) ?_
        refine pe_top (y := .int (pb false)) (by decide) ?_
        refine pe_zastN d_Mo_close_97 hOp (by omega) (by omega) ?_
        rw [upb]
        refine pe_pu (fun h2 e2 o2 => ?_)
        have hMo := (o2 (166) (by omega)).trans hMo
        have hOp := e2
        have hOw := (o2 (171) (by omega)).trans hOw
        have hDl := (o2 (173) (by omega)).trans hDl
        have hRt := (o2 (174) (by omega)).trans hRt
        have hSt := (o2 (180) (by omega)).trans hSt
        have hHo := (o2 (185) (by omega)).trans hHo
        have hf := hf.st o2 (by decide)
        refine pe_iconst (v := nI 0) d_Mo_close_98 (by decide) ?_
        refine pe_iret d_Mo_close_99 rfl ?_
        exact ⟨rfl, rfl, hMo, hOp, hOw, hDl, hRt, hSt, hHo, hf⟩
      · refine pe_aload_n d_Mo_close_63 rfl ?_
        refine pe_getf d_Mo_close_64 f_Mo_87 hMo rfl ?_
        refine pe_iload_n d_Mo_close_67 rfl ?_
        refine pe_ialdN d_Mo_close_68 hHo (by omega) (by omega) ?_
        rw [frA_i]
        refine pe_iload_n d_Mo_close_69 rfl ?_
        refine pe_icmp_ne (tgt := 80) d_Mo_close_70 (by decide) (fun c_70 => ?_) (fun c_70 => ?_)
        · refine pe_iincN d_Mo_close_80 rfl (by decide) rfl ?_
          dsimp only [List.set]
          refine pe_goto (tgt := 55) d_Mo_close_83 (by decide) ?_
          rw [frA_n c_70] at hHo
          exact ih (i + 1) _ (by omega) (by omega) hMo hOp hOw hDl hRt hSt hHo hf
        · refine pe_aload_n d_Mo_close_73 rfl ?_
          refine pe_getf d_Mo_close_74 f_Mo_87 hMo rfl ?_
          refine pe_iload_n d_Mo_close_77 rfl ?_
          refine pe_iconst (v := -1) d_Mo_close_78 (by decide) ?_
          refine pe_iastN d_Mo_close_79 hHo (by omega) (by omega) ?_
          refine pe_pu (fun h2 e2 o2 => ?_)
          have hMo := (o2 (166) (by omega)).trans hMo
          have hOp := (o2 (167) (by omega)).trans hOp
          have hOw := (o2 (171) (by omega)).trans hOw
          have hDl := (o2 (173) (by omega)).trans hDl
          have hRt := (o2 (174) (by omega)).trans hRt
          have hSt := (o2 (180) (by omega)).trans hSt
          have hHo := e2
          have hf := hf.st o2 (by decide)
          refine pe_iincN d_Mo_close_80 rfl (by decide) rfl ?_
          dsimp only [List.set]
          refine pe_goto (tgt := 55) d_Mo_close_83 (by decide) ?_
          rw [frA_y c_70] at hHo
          exact ih (i + 1) _ (by omega) (by omega) hMo hOp hOw hDl hRt hSt hHo hf
  have loop : ∀ (n : Nat) (i : Nat) (k : pz_H), i ≤ np → np + 1 ≤ i + n → MOB k np nb now tkg lst flt byt sa sx → AB k 167 6 Mop → AI k 171 32 (fgO Mow (nI a) i) → AI k 173 32 (fgD Mow Mdl (nI a) i) → AI k 174 192 (fgR Mow Mrt (nI a) a i) → AI k 180 6 Mst → AI k 185 32 Mho → frx [166, 167, 171, 173, 174, 180, 185] h k → pz_E l L xs M_Mo_close 2 0 0 12 [some (.ref 166), some (.int (nI a)), some (.int (nI i))] [] k z (fun v h' z' => v = some (.int (nI 0)) ∧ z = z' ∧ MOB h' np nb now tkg lst (wst Mst (nI a) flt).2 byt sa sx ∧ AB h' 167 6 (updB Mop a false) ∧ AI h' 171 32 (fgO Mow (nI a) np) ∧ AI h' 173 32 (fgD Mow Mdl (nI a) np) ∧ AI h' 174 192 (fgR Mow Mrt (nI a) a np) ∧ AI h' 180 6 (wst Mst (nI a) flt).1 ∧ AI h' 185 32 (frA Mho (nI a) nb) ∧ frx [166, 167, 171, 173, 174, 180, 185] h h') := by
    intro n
    induction n with
    | zero => intros; omega
    | succ n ih =>
      intro i k hi hin hMo hOp hOw hDl hRt hSt hHo hf
      refine pe_iload_n d_Mo_close_12 rfl ?_
      refine pe_aload_n d_Mo_close_13 rfl ?_
      refine pe_getf d_Mo_close_14 f_Mo_105 hMo rfl ?_
      refine pe_icmpN_ge (tgt := 53) d_Mo_close_17 (by decide) (by omega) (by omega) (fun c_17 => ?_) (fun c_17 => ?_)
      · refine pe_iconst (v := nI 0) d_Mo_close_53 (by decide) ?_
        refine pe_istore_n d_Mo_close_54 (by decide) rfl ?_
        dsimp only [List.set]
        have e : i = np := by omega
        subst e
        have hHo : AI k 185 32 (frA Mho (nI a) 0) := by rw [frA_0]; exact hHo
        exact loop2 (nb + 1) 0 _ (by omega) (by omega) hMo hOp hOw hDl hRt hSt hHo hf
      · refine pe_aload_n d_Mo_close_20 rfl ?_
        refine pe_getf d_Mo_close_21 f_Mo_33 hMo rfl ?_
        refine pe_iload_n d_Mo_close_24 rfl ?_
        refine pe_ialdN d_Mo_close_25 hOw (by omega) (by omega) ?_
        rw [fgO_i]
        refine pe_iload_n d_Mo_close_26 rfl ?_
        refine pe_icmp_ne (tgt := 35) d_Mo_close_27 (by decide) (fun c_27 => ?_) (fun c_27 => ?_)
        · refine pe_aload_n d_Mo_close_35 rfl ?_
          refine pe_getf d_Mo_close_36 f_Mo_42 hMo rfl ?_
          refine pe_iload_n d_Mo_close_39 rfl ?_
          refine pe_bipush (v := nI 6) d_Mo_close_40 (by decide) ?_
          refine pe_imulN d_Mo_close_42 ?_
          refine pe_iload_n d_Mo_close_43 rfl ?_
          refine pe_iaddN d_Mo_close_44 ?_
          refine pe_iconst (v := nI 0) d_Mo_close_45 (by decide) ?_
          refine pe_iastN d_Mo_close_46 hRt (by omega) (by omega) ?_
          refine pe_pu (fun h2 e2 o2 => ?_)
          have hMo := (o2 (166) (by omega)).trans hMo
          have hOp := (o2 (167) (by omega)).trans hOp
          have hOw := (o2 (171) (by omega)).trans hOw
          have hDl := (o2 (173) (by omega)).trans hDl
          have hRt := e2
          have hSt := (o2 (180) (by omega)).trans hSt
          have hHo := (o2 (185) (by omega)).trans hHo
          have hf := hf.st o2 (by decide)
          refine pe_iincN d_Mo_close_47 rfl (by decide) rfl ?_
          dsimp only [List.set]
          refine pe_goto (tgt := 12) d_Mo_close_50 (by decide) ?_
          obtain ⟨e1, -, e3⟩ := fg_n (mr := Mrt) (mn := fun _ => false) ha c_27
          rw [e1] at hOw
          rw [fgD_n c_27] at hDl
          rw [show nI 0 = (0 : Int32) from rfl, e3] at hRt
          exact ih (i + 1) _ (by omega) (by omega) hMo hOp hOw hDl hRt hSt hHo hf
        · refine pe_aload_n d_Mo_close_30 rfl ?_
          refine pe_iload_n d_Mo_close_31 rfl ?_
          -- 32: Mo_free
          refine pe_callV d_Mo_close_32 m_Mo_130 j_Mo_free v_Mo_free (c_Mo_free hMo hnp hnb hOw hDl hRt (p := i) (by omega)) rfl rfl (by simp [Value.category]) (by decide) hMo rfl rfl ?_
          intro v1 h1 z1 hq1
          obtain ⟨rfl, rfl, hOw, hDl, hRt, hf1⟩ := hq1
          have hMo := MOB.mv hMo (hf1 166 (by decide))
          have hOp := (hf1 167 (by decide)).trans hOp
          have hSt := (hf1 180 (by decide)).trans hSt
          have hHo := (hf1 185 (by decide)).trans hHo
          have hf := hf.tr (hf1.wd (by decide))
          change pz_E _ _ _ _ _ _ _ _ _ _ _ _ _
          refine pe_aload_n d_Mo_close_35 rfl ?_
          refine pe_getf d_Mo_close_36 f_Mo_42 hMo rfl ?_
          refine pe_iload_n d_Mo_close_39 rfl ?_
          refine pe_bipush (v := nI 6) d_Mo_close_40 (by decide) ?_
          refine pe_imulN d_Mo_close_42 ?_
          refine pe_iload_n d_Mo_close_43 rfl ?_
          refine pe_iaddN d_Mo_close_44 ?_
          refine pe_iconst (v := nI 0) d_Mo_close_45 (by decide) ?_
          refine pe_iastN d_Mo_close_46 hRt (by omega) (by omega) ?_
          refine pe_pu (fun h2 e2 o2 => ?_)
          have hMo := (o2 (166) (by omega)).trans hMo
          have hOp := (o2 (167) (by omega)).trans hOp
          have hOw := (o2 (171) (by omega)).trans hOw
          have hDl := (o2 (173) (by omega)).trans hDl
          have hRt := e2
          have hSt := (o2 (180) (by omega)).trans hSt
          have hHo := (o2 (185) (by omega)).trans hHo
          have hf := hf.st o2 (by decide)
          refine pe_iincN d_Mo_close_47 rfl (by decide) rfl ?_
          dsimp only [List.set]
          refine pe_goto (tgt := 12) d_Mo_close_50 (by decide) ?_
          obtain ⟨e1, -, e3⟩ := fg_y (mr := Mrt) (mn := fun _ => false) ha c_27
          rw [e1] at hOw
          rw [show nI 0 = (0 : Int32) from rfl, fgD_y c_27] at hDl
          rw [show nI 0 = (0 : Int32) from rfl, fil_upd0 _ _ _ _ (by omega), e3] at hRt
          exact ih (i + 1) _ (by omega) (by omega) hMo hOp hOw hDl hRt hSt hHo hf
  change pz_E l L xs M_Mo_close 2 0 0 0 [some (.ref 166), some (.int (nI a)), none] [] h z _
  refine pe_aload_n d_Mo_close_0 rfl ?_
  refine pe_iload_n d_Mo_close_1 rfl ?_
  -- 2: Mo_shut
  refine pe_callV d_Mo_close_2 m_Mo_126 j_Mo_shut v_Mo_shut (c_Mo_shut hMo hnp hnb hOp _) rfl rfl (by simp [Value.category]) (by decide) hMo rfl rfl ?_
  intro v1 h1 z1 hq1
  obtain ⟨rfl, rfl, rfl⟩ := hq1
  change pz_E _ _ _ _ _ _ _ _ _ (_ :: _) _ _ _
  refine pe_if_eq (tgt := 10) d_Mo_close_5 (by decide) (fun c_5 => ?_) (fun c_5 => ?_)
  · have c_5 := pb_0.mp c_5
    refine pe_iconst (v := nI 0) d_Mo_close_10 (by decide) ?_
    refine pe_istore_n d_Mo_close_11 (by decide) rfl ?_
    dsimp only [List.set]
    obtain ⟨e1, -, e3⟩ := fg_0 Mow Mrt (fun _ => false) (nI a) a
    rw [← e1] at hOw
    rw [← fgD_0 Mow Mdl (nI a)] at hDl
    rw [← e3] at hRt
    exact loop (np + 1) 0 _ (by omega) (by omega) hMo hOp hOw hDl hRt hSt hHo hf
  · have c_5 := pb_n0.mp c_5
    exact absurd c_5 (by rw [opn_a ha, hop]; decide)
