/-! the reference: contracts of BindingKernelModel, eighth part: write, put, get -/
theorem wrg_i {op mp : Nat → Bool} {nb : Nat} {dn : Nat → Int32} {a b q : Nat} (hnb : nb ≤ 32) (ha : a < 6) (hop : op a = true) (hb : b < nb) (hq : q < 8) (hmp : mp a = false) (how : dn b = nI a) : wrg op mp nb dn (nI a) (nI b) (nI q) = true := by
  unfold wrg
  rw [← inn_rng _ (by decide), opn_a ha, hop, inn_y (by omega) hb, inn_y (by omega) hq, nI_clamp (by omega), nI_clamp (by omega), hmp, decide_eq_true how]
  rfl
theorem wrg_e {op mp : Nat → Bool} {nb : Nat} {dn : Nat → Int32} {x y w : Int32} (hnb : nb ≤ 32) (h : wrg op mp nb dn x y w = true) : ∃ a b q, a < 6 ∧ op a = true ∧ x = nI a ∧ b < nb ∧ y = nI b ∧ q < 8 ∧ w = nI q ∧ mp a = false ∧ dn b = nI a := by
  unfold wrg at h
  rw [← inn_rng _ (by decide)] at h
  simp only [Bool.and_eq_true, Bool.not_eq_true', decide_eq_true_eq] at h
  obtain ⟨⟨h1, h2, h3⟩, h4, h5⟩ := h
  obtain ⟨a, ha, hop, rfl⟩ := opn_N h1
  obtain ⟨b, hb, rfl⟩ := inn_N (by omega) h2
  obtain ⟨q, hq, rfl⟩ := inn_N (by omega) h3
  rw [nI_clamp (by omega)] at h4 h5
  exact ⟨a, b, q, ha, hop, rfl, hb, rfl, hq, rfl, h4, h5⟩
theorem m1_lt (n : Nat) (hn : n < 2147483648) : (-1 : Int32) < nI n := Int32.lt_of_lt_of_le (show (-1 : Int32) < 0 by decide) (nI_nn hn)
set_option maxHeartbeats 4000000 in
set_option maxRecDepth 20000 in
theorem c_Mo_write_no {l : Launch} {L : Nat} {xs : Nat → Int32} {h : pz_H} {z : Nat} {np nb now tkg lst flt byt : Nat} {sa sx : Int32} (hMo : MOB h np nb now tkg lst flt byt sa sx) (hnp : np ≤ 32) (hnb : nb ≤ 32) {Mop : Nat → Bool} (hOp : AB h 167 6 Mop) {Mmp : Nat → Bool} (hIm : AB h 168 6 Mmp) {Mfi : Nat → Int32} (hFi : AI h 169 6 Mfi) {Mlk : Nat → Int32} (hLi : AI h 170 6 Mlk) {Mho : Nat → Int32} (hHo : AI h 185 32 Mho) {Mwo : Nat → Int32} (hWo : AI h 186 256 Mwo) (x y w u : Int32) (hno : wrg Mop Mmp nb Mho x y w = false) : pz_K l L xs M_Mo_write 2 0 0 [.ref 166, .int x, .int y, .int w, .int u] h z (fun v h' z' => v = some (.int (-1)) ∧ h = h' ∧ z = z') := by
  refine pz_K.of rfl (Nat.le_of_ble_eq_true rfl) ?_
  change pz_E l L xs M_Mo_write 2 0 0 0 [some (.ref 166), some (.int x), some (.int y), some (.int w), some (.int u), none, none] [] h z _
  refine pe_aload_n d_Mo_write_0 rfl ?_
  refine pe_iload_n d_Mo_write_1 rfl ?_
  refine pe_aload_n d_Mo_write_2 rfl ?_
  refine pe_getf d_Mo_write_3 f_Mo_108 hMo rfl ?_
  -- 6: Mo_out
  refine pe_callV d_Mo_write_6 m_Mo_111 j_Mo_out v_Mo_out (c_Mo_out hMo hnp hnb _ _) rfl rfl (by simp [Value.category]) (by decide) hMo rfl rfl ?_
  intro v1 h1 z1 hq1
  obtain ⟨rfl, rfl, rfl⟩ := hq1
  change pz_E _ _ _ _ _ _ _ _ _ (_ :: _) _ _ _
  refine pe_if_ne (tgt := 49) d_Mo_write_9 (by decide) (fun c_9 => ?_) (fun c_9 => ?_)
  · have c_9 := pb_n0.mp c_9
    refine pe_iconst (v := -1) d_Mo_write_49 (by decide) ?_
    refine pe_iret d_Mo_write_50 rfl ?_
    exact ⟨rfl, rfl, rfl⟩
  · have c_9 := pb_0.mp c_9
    obtain ⟨b, hb, rfl⟩ := inn_N (n := nb) (by omega) (ot_f c_9)
    refine pe_aload_n d_Mo_write_12 rfl ?_
    refine pe_iload_n d_Mo_write_13 rfl ?_
    refine pe_bipush (v := nI 8) d_Mo_write_14 (by decide) ?_
    -- 16: Mo_out
    refine pe_callV d_Mo_write_16 m_Mo_111 j_Mo_out v_Mo_out (c_Mo_out hMo hnp hnb _ _) rfl rfl (by simp [Value.category]) (by decide) hMo rfl rfl ?_
    intro v1 h1 z1 hq1
    obtain ⟨rfl, rfl, rfl⟩ := hq1
    change pz_E _ _ _ _ _ _ _ _ _ (_ :: _) _ _ _
    refine pe_if_ne (tgt := 49) d_Mo_write_19 (by decide) (fun c_19 => ?_) (fun c_19 => ?_)
    · have c_19 := pb_n0.mp c_19
      refine pe_iconst (v := -1) d_Mo_write_49 (by decide) ?_
      refine pe_iret d_Mo_write_50 rfl ?_
      exact ⟨rfl, rfl, rfl⟩
    · have c_19 := pb_0.mp c_19
      obtain ⟨q, hq, rfl⟩ := inn_N (n := 8) (by omega) (ot_f c_19)
      refine pe_aload_n d_Mo_write_22 rfl ?_
      refine pe_iload_n d_Mo_write_23 rfl ?_
      -- 24: Mo_shut
      refine pe_callV d_Mo_write_24 m_Mo_126 j_Mo_shut v_Mo_shut (c_Mo_shut hMo hnp hnb hOp _) rfl rfl (by simp [Value.category]) (by decide) hMo rfl rfl ?_
      intro v1 h1 z1 hq1
      obtain ⟨rfl, rfl, rfl⟩ := hq1
      change pz_E _ _ _ _ _ _ _ _ _ (_ :: _) _ _ _
      refine pe_if_ne (tgt := 49) d_Mo_write_27 (by decide) (fun c_27 => ?_) (fun c_27 => ?_)
      · have c_27 := pb_n0.mp c_27
        refine pe_iconst (v := -1) d_Mo_write_49 (by decide) ?_
        refine pe_iret d_Mo_write_50 rfl ?_
        exact ⟨rfl, rfl, rfl⟩
      · have c_27 := pb_0.mp c_27
        obtain ⟨a, ha, hop, rfl⟩ := opn_N (nb_f c_27)
        refine pe_aload_n d_Mo_write_30 rfl ?_
        refine pe_getf d_Mo_write_31 f_Mo_13 hMo rfl ?_
        refine pe_iload_n d_Mo_write_34 rfl ?_
        refine pe_zaldN d_Mo_write_35 hIm (by omega) (by omega) ?_
        refine pe_if_ne (tgt := 49) d_Mo_write_36 (by decide) (fun c_36 => ?_) (fun c_36 => ?_)
        · have c_36 := pb_n0.mp c_36
          refine pe_iconst (v := -1) d_Mo_write_49 (by decide) ?_
          refine pe_iret d_Mo_write_50 rfl ?_
          exact ⟨rfl, rfl, rfl⟩
        · have c_36 := pb_0.mp c_36
          refine pe_aload_n d_Mo_write_39 rfl ?_
          refine pe_getf d_Mo_write_40 f_Mo_87 hMo rfl ?_
          refine pe_iload_n d_Mo_write_43 rfl ?_
          refine pe_ialdN d_Mo_write_44 hHo (by omega) (by omega) ?_
          refine pe_iload_n d_Mo_write_45 rfl ?_
          refine pe_icmp_eq (tgt := 51) d_Mo_write_46 (by decide) (fun c_46 => ?_) (fun c_46 => ?_)
          · exact absurd (wrg_i (dn := Mho) hnb ha hop hb hq c_36 c_46) (by rw [hno]; decide)
          · refine pe_iconst (v := -1) d_Mo_write_49 (by decide) ?_
            refine pe_iret d_Mo_write_50 rfl ?_
            exact ⟨rfl, rfl, rfl⟩
set_option maxHeartbeats 4000000 in
set_option maxRecDepth 20000 in
theorem c_Mo_write_plain {l : Launch} {L : Nat} {xs : Nat → Int32} {h : pz_H} {z : Nat} {np nb now tkg lst flt byt : Nat} {sa sx : Int32} (hMo : MOB h np nb now tkg lst flt byt sa sx) (hnp : np ≤ 32) (hnb : nb ≤ 32) {Mop : Nat → Bool} (hOp : AB h 167 6 Mop) {Mmp : Nat → Bool} (hIm : AB h 168 6 Mmp) {Mfi : Nat → Int32} (hFi : AI h 169 6 Mfi) {Mlk : Nat → Int32} (hLi : AI h 170 6 Mlk) {Mho : Nat → Int32} (hHo : AI h 185 32 Mho) {Mwo : Nat → Int32} (hWo : AI h 186 256 Mwo) {a : Nat} (ha : a < 6) (hop : Mop a = true) {f c : Nat} (hmp : Mmp a = false) (hf0 : Mfi a = nI f) (hc0 : Mlk a = nI c) (hfc : f + c ≤ 8) {b q : Nat} (hb : b < nb) (hq8 : q < 8) (how : Mho b = nI a) (u : Int32) (hlink : ¬ (f ≤ q ∧ q < f + c)) : pz_K l L xs M_Mo_write 2 0 0 [.ref 166, .int (nI a), .int (nI b), .int (nI q), .int u] h z (fun v' h' z' => v' = some (.int (nI 0)) ∧ z = z' ∧ AI h' 186 256 (upd Mwo (b * 8 + q) u) ∧ frx [186] h h') := by
  refine pz_K.of rfl (Nat.le_of_ble_eq_true rfl) ?_
  have hf : frx [186] h h := frx.rf
  change pz_E l L xs M_Mo_write 2 0 0 0 [some (.ref 166), some (.int (nI a)), some (.int (nI b)), some (.int (nI q)), some (.int u), none, none] [] h z _
  refine pe_aload_n d_Mo_write_0 rfl ?_
  refine pe_iload_n d_Mo_write_1 rfl ?_
  refine pe_aload_n d_Mo_write_2 rfl ?_
  refine pe_getf d_Mo_write_3 f_Mo_108 hMo rfl ?_
  -- 6: Mo_out
  refine pe_callV d_Mo_write_6 m_Mo_111 j_Mo_out v_Mo_out (c_Mo_out hMo hnp hnb _ _) rfl rfl (by simp [Value.category]) (by decide) hMo rfl rfl ?_
  intro v1 h1 z1 hq1
  obtain ⟨rfl, rfl, rfl⟩ := hq1
  change pz_E _ _ _ _ _ _ _ _ _ (_ :: _) _ _ _
  refine pe_if_ne (tgt := 49) d_Mo_write_9 (by decide) (fun c_9 => ?_) (fun c_9 => ?_)
  · have c_9 := pb_n0.mp c_9
    exact absurd c_9 (by rw [ot_n (by omega) hb]; decide)
  · have c_9 := pb_0.mp c_9
    refine pe_aload_n d_Mo_write_12 rfl ?_
    refine pe_iload_n d_Mo_write_13 rfl ?_
    refine pe_bipush (v := nI 8) d_Mo_write_14 (by decide) ?_
    -- 16: Mo_out
    refine pe_callV d_Mo_write_16 m_Mo_111 j_Mo_out v_Mo_out (c_Mo_out hMo hnp hnb _ _) rfl rfl (by simp [Value.category]) (by decide) hMo rfl rfl ?_
    intro v1 h1 z1 hq1
    obtain ⟨rfl, rfl, rfl⟩ := hq1
    change pz_E _ _ _ _ _ _ _ _ _ (_ :: _) _ _ _
    refine pe_if_ne (tgt := 49) d_Mo_write_19 (by decide) (fun c_19 => ?_) (fun c_19 => ?_)
    · have c_19 := pb_n0.mp c_19
      exact absurd c_19 (by rw [ot_n (by omega) hq8]; decide)
    · have c_19 := pb_0.mp c_19
      refine pe_aload_n d_Mo_write_22 rfl ?_
      refine pe_iload_n d_Mo_write_23 rfl ?_
      -- 24: Mo_shut
      refine pe_callV d_Mo_write_24 m_Mo_126 j_Mo_shut v_Mo_shut (c_Mo_shut hMo hnp hnb hOp _) rfl rfl (by simp [Value.category]) (by decide) hMo rfl rfl ?_
      intro v1 h1 z1 hq1
      obtain ⟨rfl, rfl, rfl⟩ := hq1
      change pz_E _ _ _ _ _ _ _ _ _ (_ :: _) _ _ _
      refine pe_if_ne (tgt := 49) d_Mo_write_27 (by decide) (fun c_27 => ?_) (fun c_27 => ?_)
      · have c_27 := pb_n0.mp c_27
        exact absurd c_27 (by rw [opn_a ha, hop]; decide)
      · have c_27 := pb_0.mp c_27
        refine pe_aload_n d_Mo_write_30 rfl ?_
        refine pe_getf d_Mo_write_31 f_Mo_13 hMo rfl ?_
        refine pe_iload_n d_Mo_write_34 rfl ?_
        refine pe_zaldN d_Mo_write_35 hIm (by omega) (by omega) ?_
        refine pe_if_ne (tgt := 49) d_Mo_write_36 (by decide) (fun c_36 => ?_) (fun c_36 => ?_)
        · have c_36 := pb_n0.mp c_36
          exact absurd c_36 (by rw [hmp]; decide)
        · have c_36 := pb_0.mp c_36
          refine pe_aload_n d_Mo_write_39 rfl ?_
          refine pe_getf d_Mo_write_40 f_Mo_87 hMo rfl ?_
          refine pe_iload_n d_Mo_write_43 rfl ?_
          refine pe_ialdN d_Mo_write_44 hHo (by omega) (by omega) ?_
          refine pe_iload_n d_Mo_write_45 rfl ?_
          refine pe_icmp_eq (tgt := 51) d_Mo_write_46 (by decide) (fun c_46 => ?_) (fun c_46 => ?_)
          · refine pe_iload_n d_Mo_write_51 rfl ?_
            refine pe_bipush (v := nI 8) d_Mo_write_52 (by decide) ?_
            refine pe_imulN d_Mo_write_54 ?_
            refine pe_iload_n d_Mo_write_55 rfl ?_
            refine pe_iaddN d_Mo_write_56 ?_
            refine pe_istore d_Mo_write_57 (by decide) rfl ?_
            dsimp only [List.set]
            refine pe_aload_n d_Mo_write_59 rfl ?_
            refine pe_iload_n d_Mo_write_60 rfl ?_
            refine pe_iload_n d_Mo_write_61 rfl ?_
            -- 62: Mo_isLink
            refine pe_callV d_Mo_write_62 m_Mo_115 j_Mo_isLink v_Mo_isLink (c_Mo_isLink_raw hMo hnp hnb hIm hFi hLi (a := a) (q := q) ha hq8 hmp hf0 hc0 hfc) rfl rfl (by simp [Value.category]) (by decide) hMo rfl rfl ?_
            intro v1 h1 z1 hq1
            obtain ⟨rfl, rfl, rfl⟩ := hq1
            change pz_E _ _ _ _ _ _ _ _ _ (_ :: _) _ _ _
            refine pe_if_eq (tgt := 164) d_Mo_write_65 (by decide) (fun c_65 => ?_) (fun c_65 => ?_)
            · have c_65 := pb_0.mp c_65
              refine pe_aload_n d_Mo_write_164 rfl ?_
              refine pe_getf d_Mo_write_165 f_Mo_90 hMo rfl ?_
              refine pe_iload d_Mo_write_168 rfl ?_
              refine pe_iload d_Mo_write_170 rfl ?_
              refine pe_iastN d_Mo_write_172 hWo (by omega) (by omega) ?_
              refine pe_pu (fun h2 e2 o2 => ?_)
              have hMo := (o2 (166) (by omega)).trans hMo
              have hOp := (o2 (167) (by omega)).trans hOp
              have hIm := (o2 (168) (by omega)).trans hIm
              have hFi := (o2 (169) (by omega)).trans hFi
              have hLi := (o2 (170) (by omega)).trans hLi
              have hHo := (o2 (185) (by omega)).trans hHo
              have hWo := e2
              have hf := hf.st o2 (by decide)
              refine pe_iconst (v := nI 0) d_Mo_write_173 (by decide) ?_
              refine pe_iret d_Mo_write_174 rfl ?_
              exact ⟨rfl, rfl, hWo, hf⟩
            · have c_65 := pb_n0.mp c_65
              exact absurd (of_decide_eq_true c_65) hlink
          · exact absurd how c_46
set_option maxHeartbeats 4000000 in
set_option maxRecDepth 20000 in
theorem c_Mo_write_bad {l : Launch} {L : Nat} {xs : Nat → Int32} {h : pz_H} {z : Nat} {np nb now tkg lst flt byt : Nat} {sa sx : Int32} (hMo : MOB h np nb now tkg lst flt byt sa sx) (hnp : np ≤ 32) (hnb : nb ≤ 32) {Mop : Nat → Bool} (hOp : AB h 167 6 Mop) {Mmp : Nat → Bool} (hIm : AB h 168 6 Mmp) {Mfi : Nat → Int32} (hFi : AI h 169 6 Mfi) {Mlk : Nat → Int32} (hLi : AI h 170 6 Mlk) {Mho : Nat → Int32} (hHo : AI h 185 32 Mho) {Mwo : Nat → Int32} (hWo : AI h 186 256 Mwo) {a : Nat} (ha : a < 6) (hop : Mop a = true) {f c : Nat} (hmp : Mmp a = false) (hf0 : Mfi a = nI f) (hc0 : Mlk a = nI c) (hfc : f + c ≤ 8) {b q : Nat} (hb : b < nb) (hq8 : q < 8) (how : Mho b = nI a) (hlink : f ≤ q ∧ q < f + c) (u : Int32) (hu : ¬ u = -1) (hno : inn u nb = false) : pz_K l L xs M_Mo_write 2 0 0 [.ref 166, .int (nI a), .int (nI b), .int (nI q), .int u] h z (fun v h' z' => v = some (.int (-1)) ∧ h = h' ∧ z = z') := by
  refine pz_K.of rfl (Nat.le_of_ble_eq_true rfl) ?_
  change pz_E l L xs M_Mo_write 2 0 0 0 [some (.ref 166), some (.int (nI a)), some (.int (nI b)), some (.int (nI q)), some (.int u), none, none] [] h z _
  refine pe_aload_n d_Mo_write_0 rfl ?_
  refine pe_iload_n d_Mo_write_1 rfl ?_
  refine pe_aload_n d_Mo_write_2 rfl ?_
  refine pe_getf d_Mo_write_3 f_Mo_108 hMo rfl ?_
  -- 6: Mo_out
  refine pe_callV d_Mo_write_6 m_Mo_111 j_Mo_out v_Mo_out (c_Mo_out hMo hnp hnb _ _) rfl rfl (by simp [Value.category]) (by decide) hMo rfl rfl ?_
  intro v1 h1 z1 hq1
  obtain ⟨rfl, rfl, rfl⟩ := hq1
  change pz_E _ _ _ _ _ _ _ _ _ (_ :: _) _ _ _
  refine pe_if_ne (tgt := 49) d_Mo_write_9 (by decide) (fun c_9 => ?_) (fun c_9 => ?_)
  · have c_9 := pb_n0.mp c_9
    exact absurd c_9 (by rw [ot_n (by omega) hb]; decide)
  · have c_9 := pb_0.mp c_9
    refine pe_aload_n d_Mo_write_12 rfl ?_
    refine pe_iload_n d_Mo_write_13 rfl ?_
    refine pe_bipush (v := nI 8) d_Mo_write_14 (by decide) ?_
    -- 16: Mo_out
    refine pe_callV d_Mo_write_16 m_Mo_111 j_Mo_out v_Mo_out (c_Mo_out hMo hnp hnb _ _) rfl rfl (by simp [Value.category]) (by decide) hMo rfl rfl ?_
    intro v1 h1 z1 hq1
    obtain ⟨rfl, rfl, rfl⟩ := hq1
    change pz_E _ _ _ _ _ _ _ _ _ (_ :: _) _ _ _
    refine pe_if_ne (tgt := 49) d_Mo_write_19 (by decide) (fun c_19 => ?_) (fun c_19 => ?_)
    · have c_19 := pb_n0.mp c_19
      exact absurd c_19 (by rw [ot_n (by omega) hq8]; decide)
    · have c_19 := pb_0.mp c_19
      refine pe_aload_n d_Mo_write_22 rfl ?_
      refine pe_iload_n d_Mo_write_23 rfl ?_
      -- 24: Mo_shut
      refine pe_callV d_Mo_write_24 m_Mo_126 j_Mo_shut v_Mo_shut (c_Mo_shut hMo hnp hnb hOp _) rfl rfl (by simp [Value.category]) (by decide) hMo rfl rfl ?_
      intro v1 h1 z1 hq1
      obtain ⟨rfl, rfl, rfl⟩ := hq1
      change pz_E _ _ _ _ _ _ _ _ _ (_ :: _) _ _ _
      refine pe_if_ne (tgt := 49) d_Mo_write_27 (by decide) (fun c_27 => ?_) (fun c_27 => ?_)
      · have c_27 := pb_n0.mp c_27
        exact absurd c_27 (by rw [opn_a ha, hop]; decide)
      · have c_27 := pb_0.mp c_27
        refine pe_aload_n d_Mo_write_30 rfl ?_
        refine pe_getf d_Mo_write_31 f_Mo_13 hMo rfl ?_
        refine pe_iload_n d_Mo_write_34 rfl ?_
        refine pe_zaldN d_Mo_write_35 hIm (by omega) (by omega) ?_
        refine pe_if_ne (tgt := 49) d_Mo_write_36 (by decide) (fun c_36 => ?_) (fun c_36 => ?_)
        · have c_36 := pb_n0.mp c_36
          exact absurd c_36 (by rw [hmp]; decide)
        · have c_36 := pb_0.mp c_36
          refine pe_aload_n d_Mo_write_39 rfl ?_
          refine pe_getf d_Mo_write_40 f_Mo_87 hMo rfl ?_
          refine pe_iload_n d_Mo_write_43 rfl ?_
          refine pe_ialdN d_Mo_write_44 hHo (by omega) (by omega) ?_
          refine pe_iload_n d_Mo_write_45 rfl ?_
          refine pe_icmp_eq (tgt := 51) d_Mo_write_46 (by decide) (fun c_46 => ?_) (fun c_46 => ?_)
          · refine pe_iload_n d_Mo_write_51 rfl ?_
            refine pe_bipush (v := nI 8) d_Mo_write_52 (by decide) ?_
            refine pe_imulN d_Mo_write_54 ?_
            refine pe_iload_n d_Mo_write_55 rfl ?_
            refine pe_iaddN d_Mo_write_56 ?_
            refine pe_istore d_Mo_write_57 (by decide) rfl ?_
            dsimp only [List.set]
            refine pe_aload_n d_Mo_write_59 rfl ?_
            refine pe_iload_n d_Mo_write_60 rfl ?_
            refine pe_iload_n d_Mo_write_61 rfl ?_
            -- 62: Mo_isLink
            refine pe_callV d_Mo_write_62 m_Mo_115 j_Mo_isLink v_Mo_isLink (c_Mo_isLink_raw hMo hnp hnb hIm hFi hLi (a := a) (q := q) ha hq8 hmp hf0 hc0 hfc) rfl rfl (by simp [Value.category]) (by decide) hMo rfl rfl ?_
            intro v1 h1 z1 hq1
            obtain ⟨rfl, rfl, rfl⟩ := hq1
            change pz_E _ _ _ _ _ _ _ _ _ (_ :: _) _ _ _
            refine pe_if_eq (tgt := 164) d_Mo_write_65 (by decide) (fun c_65 => ?_) (fun c_65 => ?_)
            · have c_65 := pb_0.mp c_65
              exact absurd hlink (of_decide_eq_false c_65)
            · have c_65 := pb_n0.mp c_65
              refine pe_iload d_Mo_write_68 rfl ?_
              refine pe_iconst (v := -1) d_Mo_write_70 (by decide) ?_
              refine pe_icmp_lt (tgt := 83) d_Mo_write_71 (by decide) (fun c_71 => ?_) (fun c_71 => ?_)
              · refine pe_iconst (v := -1) d_Mo_write_83 (by decide) ?_
                refine pe_iret d_Mo_write_84 rfl ?_
                exact ⟨rfl, rfl, rfl⟩
              · refine pe_iload d_Mo_write_74 rfl ?_
                refine pe_aload_n d_Mo_write_76 rfl ?_
                refine pe_getf d_Mo_write_77 f_Mo_108 hMo rfl ?_
                refine pe_icmp_lt (tgt := 85) d_Mo_write_80 (by decide) (fun c_80 => ?_) (fun c_80 => ?_)
                · exact absurd (show inn u nb = true from decide_eq_true ⟨fun q9 => hu (le_m1 c_71 q9), Int32.not_le.mpr c_80⟩) (by rw [hno]; decide)
                · refine pe_iconst (v := -1) d_Mo_write_83 (by decide) ?_
                  refine pe_iret d_Mo_write_84 rfl ?_
                  exact ⟨rfl, rfl, rfl⟩
          · exact absurd how c_46
set_option maxHeartbeats 4000000 in
set_option maxRecDepth 20000 in
theorem c_Mo_write_same {l : Launch} {L : Nat} {xs : Nat → Int32} {h : pz_H} {z : Nat} {np nb now tkg lst flt byt : Nat} {sa sx : Int32} (hMo : MOB h np nb now tkg lst flt byt sa sx) (hnp : np ≤ 32) (hnb : nb ≤ 32) {Mop : Nat → Bool} (hOp : AB h 167 6 Mop) {Mmp : Nat → Bool} (hIm : AB h 168 6 Mmp) {Mfi : Nat → Int32} (hFi : AI h 169 6 Mfi) {Mlk : Nat → Int32} (hLi : AI h 170 6 Mlk) {Mho : Nat → Int32} (hHo : AI h 185 32 Mho) {Mwo : Nat → Int32} (hWo : AI h 186 256 Mwo) {a : Nat} (ha : a < 6) (hop : Mop a = true) {f c : Nat} (hmp : Mmp a = false) (hf0 : Mfi a = nI f) (hc0 : Mlk a = nI c) (hfc : f + c ≤ 8) {b q : Nat} (hb : b < nb) (hq8 : q < 8) (how : Mho b = nI a) (hlink : f ≤ q ∧ q < f + c) (u : Int32) (hok : u = -1 ∨ inn u nb = true) (hg : Mwo (b * 8 + q) = u) : pz_K l L xs M_Mo_write 2 0 0 [.ref 166, .int (nI a), .int (nI b), .int (nI q), .int u] h z (fun v h' z' => v = some (.int (nI 0)) ∧ h = h' ∧ z = z') := by
  refine pz_K.of rfl (Nat.le_of_ble_eq_true rfl) ?_
  change pz_E l L xs M_Mo_write 2 0 0 0 [some (.ref 166), some (.int (nI a)), some (.int (nI b)), some (.int (nI q)), some (.int u), none, none] [] h z _
  refine pe_aload_n d_Mo_write_0 rfl ?_
  refine pe_iload_n d_Mo_write_1 rfl ?_
  refine pe_aload_n d_Mo_write_2 rfl ?_
  refine pe_getf d_Mo_write_3 f_Mo_108 hMo rfl ?_
  -- 6: Mo_out
  refine pe_callV d_Mo_write_6 m_Mo_111 j_Mo_out v_Mo_out (c_Mo_out hMo hnp hnb _ _) rfl rfl (by simp [Value.category]) (by decide) hMo rfl rfl ?_
  intro v1 h1 z1 hq1
  obtain ⟨rfl, rfl, rfl⟩ := hq1
  change pz_E _ _ _ _ _ _ _ _ _ (_ :: _) _ _ _
  refine pe_if_ne (tgt := 49) d_Mo_write_9 (by decide) (fun c_9 => ?_) (fun c_9 => ?_)
  · have c_9 := pb_n0.mp c_9
    exact absurd c_9 (by rw [ot_n (by omega) hb]; decide)
  · have c_9 := pb_0.mp c_9
    refine pe_aload_n d_Mo_write_12 rfl ?_
    refine pe_iload_n d_Mo_write_13 rfl ?_
    refine pe_bipush (v := nI 8) d_Mo_write_14 (by decide) ?_
    -- 16: Mo_out
    refine pe_callV d_Mo_write_16 m_Mo_111 j_Mo_out v_Mo_out (c_Mo_out hMo hnp hnb _ _) rfl rfl (by simp [Value.category]) (by decide) hMo rfl rfl ?_
    intro v1 h1 z1 hq1
    obtain ⟨rfl, rfl, rfl⟩ := hq1
    change pz_E _ _ _ _ _ _ _ _ _ (_ :: _) _ _ _
    refine pe_if_ne (tgt := 49) d_Mo_write_19 (by decide) (fun c_19 => ?_) (fun c_19 => ?_)
    · have c_19 := pb_n0.mp c_19
      exact absurd c_19 (by rw [ot_n (by omega) hq8]; decide)
    · have c_19 := pb_0.mp c_19
      refine pe_aload_n d_Mo_write_22 rfl ?_
      refine pe_iload_n d_Mo_write_23 rfl ?_
      -- 24: Mo_shut
      refine pe_callV d_Mo_write_24 m_Mo_126 j_Mo_shut v_Mo_shut (c_Mo_shut hMo hnp hnb hOp _) rfl rfl (by simp [Value.category]) (by decide) hMo rfl rfl ?_
      intro v1 h1 z1 hq1
      obtain ⟨rfl, rfl, rfl⟩ := hq1
      change pz_E _ _ _ _ _ _ _ _ _ (_ :: _) _ _ _
      refine pe_if_ne (tgt := 49) d_Mo_write_27 (by decide) (fun c_27 => ?_) (fun c_27 => ?_)
      · have c_27 := pb_n0.mp c_27
        exact absurd c_27 (by rw [opn_a ha, hop]; decide)
      · have c_27 := pb_0.mp c_27
        refine pe_aload_n d_Mo_write_30 rfl ?_
        refine pe_getf d_Mo_write_31 f_Mo_13 hMo rfl ?_
        refine pe_iload_n d_Mo_write_34 rfl ?_
        refine pe_zaldN d_Mo_write_35 hIm (by omega) (by omega) ?_
        refine pe_if_ne (tgt := 49) d_Mo_write_36 (by decide) (fun c_36 => ?_) (fun c_36 => ?_)
        · have c_36 := pb_n0.mp c_36
          exact absurd c_36 (by rw [hmp]; decide)
        · have c_36 := pb_0.mp c_36
          refine pe_aload_n d_Mo_write_39 rfl ?_
          refine pe_getf d_Mo_write_40 f_Mo_87 hMo rfl ?_
          refine pe_iload_n d_Mo_write_43 rfl ?_
          refine pe_ialdN d_Mo_write_44 hHo (by omega) (by omega) ?_
          refine pe_iload_n d_Mo_write_45 rfl ?_
          refine pe_icmp_eq (tgt := 51) d_Mo_write_46 (by decide) (fun c_46 => ?_) (fun c_46 => ?_)
          · refine pe_iload_n d_Mo_write_51 rfl ?_
            refine pe_bipush (v := nI 8) d_Mo_write_52 (by decide) ?_
            refine pe_imulN d_Mo_write_54 ?_
            refine pe_iload_n d_Mo_write_55 rfl ?_
            refine pe_iaddN d_Mo_write_56 ?_
            refine pe_istore d_Mo_write_57 (by decide) rfl ?_
            dsimp only [List.set]
            refine pe_aload_n d_Mo_write_59 rfl ?_
            refine pe_iload_n d_Mo_write_60 rfl ?_
            refine pe_iload_n d_Mo_write_61 rfl ?_
            -- 62: Mo_isLink
            refine pe_callV d_Mo_write_62 m_Mo_115 j_Mo_isLink v_Mo_isLink (c_Mo_isLink_raw hMo hnp hnb hIm hFi hLi (a := a) (q := q) ha hq8 hmp hf0 hc0 hfc) rfl rfl (by simp [Value.category]) (by decide) hMo rfl rfl ?_
            intro v1 h1 z1 hq1
            obtain ⟨rfl, rfl, rfl⟩ := hq1
            change pz_E _ _ _ _ _ _ _ _ _ (_ :: _) _ _ _
            refine pe_if_eq (tgt := 164) d_Mo_write_65 (by decide) (fun c_65 => ?_) (fun c_65 => ?_)
            · have c_65 := pb_0.mp c_65
              exact absurd hlink (of_decide_eq_false c_65)
            · have c_65 := pb_n0.mp c_65
              refine pe_iload d_Mo_write_68 rfl ?_
              refine pe_iconst (v := -1) d_Mo_write_70 (by decide) ?_
              refine pe_icmp_lt (tgt := 83) d_Mo_write_71 (by decide) (fun c_71 => ?_) (fun c_71 => ?_)
              · exact hok.elim (fun e9 => absurd c_71 (by rw [e9]; decide)) (fun e9 => absurd (Int32.lt_trans c_71 (show (-1 : Int32) < 0 by decide)) (of_decide_eq_true e9).1)
              · refine pe_iload d_Mo_write_74 rfl ?_
                refine pe_aload_n d_Mo_write_76 rfl ?_
                refine pe_getf d_Mo_write_77 f_Mo_108 hMo rfl ?_
                refine pe_icmp_lt (tgt := 85) d_Mo_write_80 (by decide) (fun c_80 => ?_) (fun c_80 => ?_)
                · refine pe_aload_n d_Mo_write_85 rfl ?_
                  refine pe_getf d_Mo_write_86 f_Mo_90 hMo rfl ?_
                  refine pe_iload d_Mo_write_89 rfl ?_
                  refine pe_ialdN d_Mo_write_91 hWo (by omega) (by omega) ?_
                  refine pe_top (y := .int u) (by rw [hg]) ?_
                  refine pe_istore d_Mo_write_92 (by decide) rfl ?_
                  dsimp only [List.set]
                  refine pe_iload d_Mo_write_94 rfl ?_
                  refine pe_iload d_Mo_write_96 rfl ?_
                  refine pe_icmp_ne (tgt := 103) d_Mo_write_98 (by decide) (fun c_98 => ?_) (fun c_98 => ?_)
                  · exact absurd rfl c_98
                  · refine pe_iconst (v := nI 0) d_Mo_write_101 (by decide) ?_
                    refine pe_iret d_Mo_write_102 rfl ?_
                    exact ⟨rfl, rfl, rfl⟩
                · exact hok.elim (fun e9 => absurd (by rw [e9]; exact m1_lt nb (by omega)) c_80) (fun e9 => absurd (Int32.not_le.mp (of_decide_eq_true e9).2) c_80)
          · exact absurd how c_46
set_option maxHeartbeats 4000000 in
set_option maxRecDepth 20000 in
theorem c_Mo_write_busy {l : Launch} {L : Nat} {xs : Nat → Int32} {h : pz_H} {z : Nat} {np nb now tkg lst flt byt : Nat} {sa sx : Int32} (hMo : MOB h np nb now tkg lst flt byt sa sx) (hnp : np ≤ 32) (hnb : nb ≤ 32) {Mop : Nat → Bool} (hOp : AB h 167 6 Mop) {Mmp : Nat → Bool} (hIm : AB h 168 6 Mmp) {Mfi : Nat → Int32} (hFi : AI h 169 6 Mfi) {Mlk : Nat → Int32} (hLi : AI h 170 6 Mlk) {Mho : Nat → Int32} (hHo : AI h 185 32 Mho) {Mwo : Nat → Int32} (hWo : AI h 186 256 Mwo) {a : Nat} (ha : a < 6) (hop : Mop a = true) {f c : Nat} (hmp : Mmp a = false) (hf0 : Mfi a = nI f) (hc0 : Mlk a = nI c) (hfc : f + c ≤ 8) {b q : Nat} (hb : b < nb) (hq8 : q < 8) (how : Mho b = nI a) (hlink : f ≤ q ∧ q < f + c) {g : Nat} (hg : Mwo (b * 8 + q) = nI g) (hg1 : g < nb) (u : Int32) (hok : u = -1 ∨ inn u nb = true) (hs : ¬ nI g = u) (hbusy : ff (fun w => decide (f ≤ w ∧ w < f + c) && !decide (Mwo (g * 8 + w) = -1)) 8 0 < 8) : pz_K l L xs M_Mo_write 2 0 0 [.ref 166, .int (nI a), .int (nI b), .int (nI q), .int u] h z (fun v h' z' => v = some (.int (-3)) ∧ h = h' ∧ z = z') := by
  refine pz_K.of rfl (Nat.le_of_ble_eq_true rfl) ?_
  change pz_E l L xs M_Mo_write 2 0 0 0 [some (.ref 166), some (.int (nI a)), some (.int (nI b)), some (.int (nI q)), some (.int u), none, none] [] h z _
  refine pe_aload_n d_Mo_write_0 rfl ?_
  refine pe_iload_n d_Mo_write_1 rfl ?_
  refine pe_aload_n d_Mo_write_2 rfl ?_
  refine pe_getf d_Mo_write_3 f_Mo_108 hMo rfl ?_
  -- 6: Mo_out
  refine pe_callV d_Mo_write_6 m_Mo_111 j_Mo_out v_Mo_out (c_Mo_out hMo hnp hnb _ _) rfl rfl (by simp [Value.category]) (by decide) hMo rfl rfl ?_
  intro v1 h1 z1 hq1
  obtain ⟨rfl, rfl, rfl⟩ := hq1
  change pz_E _ _ _ _ _ _ _ _ _ (_ :: _) _ _ _
  refine pe_if_ne (tgt := 49) d_Mo_write_9 (by decide) (fun c_9 => ?_) (fun c_9 => ?_)
  · have c_9 := pb_n0.mp c_9
    exact absurd c_9 (by rw [ot_n (by omega) hb]; decide)
  · have c_9 := pb_0.mp c_9
    refine pe_aload_n d_Mo_write_12 rfl ?_
    refine pe_iload_n d_Mo_write_13 rfl ?_
    refine pe_bipush (v := nI 8) d_Mo_write_14 (by decide) ?_
    -- 16: Mo_out
    refine pe_callV d_Mo_write_16 m_Mo_111 j_Mo_out v_Mo_out (c_Mo_out hMo hnp hnb _ _) rfl rfl (by simp [Value.category]) (by decide) hMo rfl rfl ?_
    intro v1 h1 z1 hq1
    obtain ⟨rfl, rfl, rfl⟩ := hq1
    change pz_E _ _ _ _ _ _ _ _ _ (_ :: _) _ _ _
    refine pe_if_ne (tgt := 49) d_Mo_write_19 (by decide) (fun c_19 => ?_) (fun c_19 => ?_)
    · have c_19 := pb_n0.mp c_19
      exact absurd c_19 (by rw [ot_n (by omega) hq8]; decide)
    · have c_19 := pb_0.mp c_19
      refine pe_aload_n d_Mo_write_22 rfl ?_
      refine pe_iload_n d_Mo_write_23 rfl ?_
      -- 24: Mo_shut
      refine pe_callV d_Mo_write_24 m_Mo_126 j_Mo_shut v_Mo_shut (c_Mo_shut hMo hnp hnb hOp _) rfl rfl (by simp [Value.category]) (by decide) hMo rfl rfl ?_
      intro v1 h1 z1 hq1
      obtain ⟨rfl, rfl, rfl⟩ := hq1
      change pz_E _ _ _ _ _ _ _ _ _ (_ :: _) _ _ _
      refine pe_if_ne (tgt := 49) d_Mo_write_27 (by decide) (fun c_27 => ?_) (fun c_27 => ?_)
      · have c_27 := pb_n0.mp c_27
        exact absurd c_27 (by rw [opn_a ha, hop]; decide)
      · have c_27 := pb_0.mp c_27
        refine pe_aload_n d_Mo_write_30 rfl ?_
        refine pe_getf d_Mo_write_31 f_Mo_13 hMo rfl ?_
        refine pe_iload_n d_Mo_write_34 rfl ?_
        refine pe_zaldN d_Mo_write_35 hIm (by omega) (by omega) ?_
        refine pe_if_ne (tgt := 49) d_Mo_write_36 (by decide) (fun c_36 => ?_) (fun c_36 => ?_)
        · have c_36 := pb_n0.mp c_36
          exact absurd c_36 (by rw [hmp]; decide)
        · have c_36 := pb_0.mp c_36
          refine pe_aload_n d_Mo_write_39 rfl ?_
          refine pe_getf d_Mo_write_40 f_Mo_87 hMo rfl ?_
          refine pe_iload_n d_Mo_write_43 rfl ?_
          refine pe_ialdN d_Mo_write_44 hHo (by omega) (by omega) ?_
          refine pe_iload_n d_Mo_write_45 rfl ?_
          refine pe_icmp_eq (tgt := 51) d_Mo_write_46 (by decide) (fun c_46 => ?_) (fun c_46 => ?_)
          · refine pe_iload_n d_Mo_write_51 rfl ?_
            refine pe_bipush (v := nI 8) d_Mo_write_52 (by decide) ?_
            refine pe_imulN d_Mo_write_54 ?_
            refine pe_iload_n d_Mo_write_55 rfl ?_
            refine pe_iaddN d_Mo_write_56 ?_
            refine pe_istore d_Mo_write_57 (by decide) rfl ?_
            dsimp only [List.set]
            refine pe_aload_n d_Mo_write_59 rfl ?_
            refine pe_iload_n d_Mo_write_60 rfl ?_
            refine pe_iload_n d_Mo_write_61 rfl ?_
            -- 62: Mo_isLink
            refine pe_callV d_Mo_write_62 m_Mo_115 j_Mo_isLink v_Mo_isLink (c_Mo_isLink_raw hMo hnp hnb hIm hFi hLi (a := a) (q := q) ha hq8 hmp hf0 hc0 hfc) rfl rfl (by simp [Value.category]) (by decide) hMo rfl rfl ?_
            intro v1 h1 z1 hq1
            obtain ⟨rfl, rfl, rfl⟩ := hq1
            change pz_E _ _ _ _ _ _ _ _ _ (_ :: _) _ _ _
            refine pe_if_eq (tgt := 164) d_Mo_write_65 (by decide) (fun c_65 => ?_) (fun c_65 => ?_)
            · have c_65 := pb_0.mp c_65
              exact absurd hlink (of_decide_eq_false c_65)
            · have c_65 := pb_n0.mp c_65
              refine pe_iload d_Mo_write_68 rfl ?_
              refine pe_iconst (v := -1) d_Mo_write_70 (by decide) ?_
              refine pe_icmp_lt (tgt := 83) d_Mo_write_71 (by decide) (fun c_71 => ?_) (fun c_71 => ?_)
              · exact hok.elim (fun e9 => absurd c_71 (by rw [e9]; decide)) (fun e9 => absurd (Int32.lt_trans c_71 (show (-1 : Int32) < 0 by decide)) (of_decide_eq_true e9).1)
              · refine pe_iload d_Mo_write_74 rfl ?_
                refine pe_aload_n d_Mo_write_76 rfl ?_
                refine pe_getf d_Mo_write_77 f_Mo_108 hMo rfl ?_
                refine pe_icmp_lt (tgt := 85) d_Mo_write_80 (by decide) (fun c_80 => ?_) (fun c_80 => ?_)
                · refine pe_aload_n d_Mo_write_85 rfl ?_
                  refine pe_getf d_Mo_write_86 f_Mo_90 hMo rfl ?_
                  refine pe_iload d_Mo_write_89 rfl ?_
                  refine pe_ialdN d_Mo_write_91 hWo (by omega) (by omega) ?_
                  refine pe_top (y := .int (nI g)) (by rw [hg]) ?_
                  refine pe_istore d_Mo_write_92 (by decide) rfl ?_
                  dsimp only [List.set]
                  refine pe_iload d_Mo_write_94 rfl ?_
                  refine pe_iload d_Mo_write_96 rfl ?_
                  refine pe_icmp_ne (tgt := 103) d_Mo_write_98 (by decide) (fun c_98 => ?_) (fun c_98 => ?_)
                  · refine pe_iload d_Mo_write_103 rfl ?_
                    refine pe_if_lt (tgt := 121) d_Mo_write_105 (by decide) (fun c_105 => ?_) (fun c_105 => ?_)
                    · exact absurd c_105 (nI_pos (by omega))
                    · refine pe_aload_n d_Mo_write_108 rfl ?_
                      refine pe_iload_n d_Mo_write_109 rfl ?_
                      refine pe_iload d_Mo_write_110 rfl ?_
                      -- 112: Mo_hasLinks
                      refine pe_callV d_Mo_write_112 m_Mo_148 j_Mo_hasLinks v_Mo_hasLinks (c_Mo_hasLinks hMo hnp hnb hIm hFi hLi hWo (a := a) (b := g) ha (by omega) hmp hf0 hc0 hfc) rfl rfl (by simp [Value.category]) (by decide) hMo rfl rfl ?_
                      intro v1 h1 z1 hq1
                      obtain ⟨rfl, rfl, rfl⟩ := hq1
                      rw [Nat.sub_zero]
                      change pz_E _ _ _ _ _ _ _ _ _ (_ :: _) _ _ _
                      refine pe_if_eq (tgt := 121) d_Mo_write_115 (by decide) (fun c_115 => ?_) (fun c_115 => ?_)
                      · have c_115 := pb_0.mp c_115
                        exact absurd hbusy (of_decide_eq_false c_115)
                      · have c_115 := pb_n0.mp c_115
                        refine pe_bipush (v := -3) d_Mo_write_118 (by decide) ?_
                        refine pe_iret d_Mo_write_120 rfl ?_
                        exact ⟨rfl, rfl, rfl⟩
                  · exact absurd c_98 hs
                · exact hok.elim (fun e9 => absurd (by rw [e9]; exact m1_lt nb (by omega)) c_80) (fun e9 => absurd (Int32.not_le.mp (of_decide_eq_true e9).2) c_80)
          · exact absurd how c_46
set_option maxHeartbeats 4000000 in
set_option maxRecDepth 20000 in
theorem c_Mo_write_taken_n {l : Launch} {L : Nat} {xs : Nat → Int32} {h : pz_H} {z : Nat} {np nb now tkg lst flt byt : Nat} {sa sx : Int32} (hMo : MOB h np nb now tkg lst flt byt sa sx) (hnp : np ≤ 32) (hnb : nb ≤ 32) {Mop : Nat → Bool} (hOp : AB h 167 6 Mop) {Mmp : Nat → Bool} (hIm : AB h 168 6 Mmp) {Mfi : Nat → Int32} (hFi : AI h 169 6 Mfi) {Mlk : Nat → Int32} (hLi : AI h 170 6 Mlk) {Mho : Nat → Int32} (hHo : AI h 185 32 Mho) {Mwo : Nat → Int32} (hWo : AI h 186 256 Mwo) {a : Nat} (ha : a < 6) (hop : Mop a = true) {f c : Nat} (hmp : Mmp a = false) (hf0 : Mfi a = nI f) (hc0 : Mlk a = nI c) (hfc : f + c ≤ 8) {b q : Nat} (hb : b < nb) (hq8 : q < 8) (how : Mho b = nI a) (hlink : f ≤ q ∧ q < f + c) {v : Nat} (hv : v < nb) (hg : Mwo (b * 8 + q) = -1) (ht : 0 ≤ Mho v) : pz_K l L xs M_Mo_write 2 0 0 [.ref 166, .int (nI a), .int (nI b), .int (nI q), .int (nI v)] h z (fun v h' z' => v = some (.int (-4)) ∧ h = h' ∧ z = z') := by
  refine pz_K.of rfl (Nat.le_of_ble_eq_true rfl) ?_
  change pz_E l L xs M_Mo_write 2 0 0 0 [some (.ref 166), some (.int (nI a)), some (.int (nI b)), some (.int (nI q)), some (.int (nI v)), none, none] [] h z _
  refine pe_aload_n d_Mo_write_0 rfl ?_
  refine pe_iload_n d_Mo_write_1 rfl ?_
  refine pe_aload_n d_Mo_write_2 rfl ?_
  refine pe_getf d_Mo_write_3 f_Mo_108 hMo rfl ?_
  -- 6: Mo_out
  refine pe_callV d_Mo_write_6 m_Mo_111 j_Mo_out v_Mo_out (c_Mo_out hMo hnp hnb _ _) rfl rfl (by simp [Value.category]) (by decide) hMo rfl rfl ?_
  intro v1 h1 z1 hq1
  obtain ⟨rfl, rfl, rfl⟩ := hq1
  change pz_E _ _ _ _ _ _ _ _ _ (_ :: _) _ _ _
  refine pe_if_ne (tgt := 49) d_Mo_write_9 (by decide) (fun c_9 => ?_) (fun c_9 => ?_)
  · have c_9 := pb_n0.mp c_9
    exact absurd c_9 (by rw [ot_n (by omega) hb]; decide)
  · have c_9 := pb_0.mp c_9
    refine pe_aload_n d_Mo_write_12 rfl ?_
    refine pe_iload_n d_Mo_write_13 rfl ?_
    refine pe_bipush (v := nI 8) d_Mo_write_14 (by decide) ?_
    -- 16: Mo_out
    refine pe_callV d_Mo_write_16 m_Mo_111 j_Mo_out v_Mo_out (c_Mo_out hMo hnp hnb _ _) rfl rfl (by simp [Value.category]) (by decide) hMo rfl rfl ?_
    intro v1 h1 z1 hq1
    obtain ⟨rfl, rfl, rfl⟩ := hq1
    change pz_E _ _ _ _ _ _ _ _ _ (_ :: _) _ _ _
    refine pe_if_ne (tgt := 49) d_Mo_write_19 (by decide) (fun c_19 => ?_) (fun c_19 => ?_)
    · have c_19 := pb_n0.mp c_19
      exact absurd c_19 (by rw [ot_n (by omega) hq8]; decide)
    · have c_19 := pb_0.mp c_19
      refine pe_aload_n d_Mo_write_22 rfl ?_
      refine pe_iload_n d_Mo_write_23 rfl ?_
      -- 24: Mo_shut
      refine pe_callV d_Mo_write_24 m_Mo_126 j_Mo_shut v_Mo_shut (c_Mo_shut hMo hnp hnb hOp _) rfl rfl (by simp [Value.category]) (by decide) hMo rfl rfl ?_
      intro v1 h1 z1 hq1
      obtain ⟨rfl, rfl, rfl⟩ := hq1
      change pz_E _ _ _ _ _ _ _ _ _ (_ :: _) _ _ _
      refine pe_if_ne (tgt := 49) d_Mo_write_27 (by decide) (fun c_27 => ?_) (fun c_27 => ?_)
      · have c_27 := pb_n0.mp c_27
        exact absurd c_27 (by rw [opn_a ha, hop]; decide)
      · have c_27 := pb_0.mp c_27
        refine pe_aload_n d_Mo_write_30 rfl ?_
        refine pe_getf d_Mo_write_31 f_Mo_13 hMo rfl ?_
        refine pe_iload_n d_Mo_write_34 rfl ?_
        refine pe_zaldN d_Mo_write_35 hIm (by omega) (by omega) ?_
        refine pe_if_ne (tgt := 49) d_Mo_write_36 (by decide) (fun c_36 => ?_) (fun c_36 => ?_)
        · have c_36 := pb_n0.mp c_36
          exact absurd c_36 (by rw [hmp]; decide)
        · have c_36 := pb_0.mp c_36
          refine pe_aload_n d_Mo_write_39 rfl ?_
          refine pe_getf d_Mo_write_40 f_Mo_87 hMo rfl ?_
          refine pe_iload_n d_Mo_write_43 rfl ?_
          refine pe_ialdN d_Mo_write_44 hHo (by omega) (by omega) ?_
          refine pe_iload_n d_Mo_write_45 rfl ?_
          refine pe_icmp_eq (tgt := 51) d_Mo_write_46 (by decide) (fun c_46 => ?_) (fun c_46 => ?_)
          · refine pe_iload_n d_Mo_write_51 rfl ?_
            refine pe_bipush (v := nI 8) d_Mo_write_52 (by decide) ?_
            refine pe_imulN d_Mo_write_54 ?_
            refine pe_iload_n d_Mo_write_55 rfl ?_
            refine pe_iaddN d_Mo_write_56 ?_
            refine pe_istore d_Mo_write_57 (by decide) rfl ?_
            dsimp only [List.set]
            refine pe_aload_n d_Mo_write_59 rfl ?_
            refine pe_iload_n d_Mo_write_60 rfl ?_
            refine pe_iload_n d_Mo_write_61 rfl ?_
            -- 62: Mo_isLink
            refine pe_callV d_Mo_write_62 m_Mo_115 j_Mo_isLink v_Mo_isLink (c_Mo_isLink_raw hMo hnp hnb hIm hFi hLi (a := a) (q := q) ha hq8 hmp hf0 hc0 hfc) rfl rfl (by simp [Value.category]) (by decide) hMo rfl rfl ?_
            intro v1 h1 z1 hq1
            obtain ⟨rfl, rfl, rfl⟩ := hq1
            change pz_E _ _ _ _ _ _ _ _ _ (_ :: _) _ _ _
            refine pe_if_eq (tgt := 164) d_Mo_write_65 (by decide) (fun c_65 => ?_) (fun c_65 => ?_)
            · have c_65 := pb_0.mp c_65
              exact absurd hlink (of_decide_eq_false c_65)
            · have c_65 := pb_n0.mp c_65
              refine pe_iload d_Mo_write_68 rfl ?_
              refine pe_iconst (v := -1) d_Mo_write_70 (by decide) ?_
              refine pe_icmp_lt (tgt := 83) d_Mo_write_71 (by decide) (fun c_71 => ?_) (fun c_71 => ?_)
              · exact absurd (Int32.lt_trans c_71 (show (-1 : Int32) < 0 by decide)) (nI_pos (by omega))
              · refine pe_iload d_Mo_write_74 rfl ?_
                refine pe_aload_n d_Mo_write_76 rfl ?_
                refine pe_getf d_Mo_write_77 f_Mo_108 hMo rfl ?_
                refine pe_icmpN_lt (tgt := 85) d_Mo_write_80 (by decide) (by omega) (by omega) (fun c_80 => ?_) (fun c_80 => ?_)
                · refine pe_aload_n d_Mo_write_85 rfl ?_
                  refine pe_getf d_Mo_write_86 f_Mo_90 hMo rfl ?_
                  refine pe_iload d_Mo_write_89 rfl ?_
                  refine pe_ialdN d_Mo_write_91 hWo (by omega) (by omega) ?_
                  refine pe_top (y := .int (-1)) (by rw [hg]) ?_
                  refine pe_istore d_Mo_write_92 (by decide) rfl ?_
                  dsimp only [List.set]
                  refine pe_iload d_Mo_write_94 rfl ?_
                  refine pe_iload d_Mo_write_96 rfl ?_
                  refine pe_icmp_ne (tgt := 103) d_Mo_write_98 (by decide) (fun c_98 => ?_) (fun c_98 => ?_)
                  · refine pe_iload d_Mo_write_103 rfl ?_
                    refine pe_if_lt (tgt := 121) d_Mo_write_105 (by decide) (fun c_105 => ?_) (fun c_105 => ?_)
                    · refine pe_iload d_Mo_write_121 rfl ?_
                      refine pe_if_lt (tgt := 139) d_Mo_write_123 (by decide) (fun c_123 => ?_) (fun c_123 => ?_)
                      · exact absurd c_123 (nI_pos (by omega))
                      · refine pe_aload_n d_Mo_write_126 rfl ?_
                        refine pe_getf d_Mo_write_127 f_Mo_87 hMo rfl ?_
                        refine pe_iload d_Mo_write_130 rfl ?_
                        refine pe_ialdN d_Mo_write_132 hHo (by omega) (by omega) ?_
                        refine pe_if_lt (tgt := 139) d_Mo_write_133 (by decide) (fun c_133 => ?_) (fun c_133 => ?_)
                        · exact absurd ht (Int32.not_le.mpr c_133)
                        · refine pe_bipush (v := -4) d_Mo_write_136 (by decide) ?_
                          refine pe_iret d_Mo_write_138 rfl ?_
                          exact ⟨rfl, rfl, rfl⟩
                    · exact absurd (by decide) c_105
                  · exact absurd c_98.symm (nI_nem1 (by omega))
                · exfalso; omega
          · exact absurd how c_46
set_option maxHeartbeats 4000000 in
set_option maxRecDepth 20000 in
theorem c_Mo_write_ns {l : Launch} {L : Nat} {xs : Nat → Int32} {h : pz_H} {z : Nat} {np nb now tkg lst flt byt : Nat} {sa sx : Int32} (hMo : MOB h np nb now tkg lst flt byt sa sx) (hnp : np ≤ 32) (hnb : nb ≤ 32) {Mop : Nat → Bool} (hOp : AB h 167 6 Mop) {Mmp : Nat → Bool} (hIm : AB h 168 6 Mmp) {Mfi : Nat → Int32} (hFi : AI h 169 6 Mfi) {Mlk : Nat → Int32} (hLi : AI h 170 6 Mlk) {Mho : Nat → Int32} (hHo : AI h 185 32 Mho) {Mwo : Nat → Int32} (hWo : AI h 186 256 Mwo) {a : Nat} (ha : a < 6) (hop : Mop a = true) {f c : Nat} (hmp : Mmp a = false) (hf0 : Mfi a = nI f) (hc0 : Mlk a = nI c) (hfc : f + c ≤ 8) {b q : Nat} (hb : b < nb) (hq8 : q < 8) (how : Mho b = nI a) (hlink : f ≤ q ∧ q < f + c) {v : Nat} (hv : v < nb) (hg : Mwo (b * 8 + q) = -1) (ht : ¬ 0 ≤ Mho v) : pz_K l L xs M_Mo_write 2 0 0 [.ref 166, .int (nI a), .int (nI b), .int (nI q), .int (nI v)] h z (fun v' h' z' => v' = some (.int (nI 0)) ∧ z = z' ∧ AI h' 185 32 (upd Mho v (nI a)) ∧ AI h' 186 256 (upd (fil Mwo (lkw v f c) (v * 8) 8) (b * 8 + q) (nI v)) ∧ frx [185, 186] h h') := by
  refine pz_K.of rfl (Nat.le_of_ble_eq_true rfl) ?_
  have hf : frx [185, 186] h h := frx.rf
  change pz_E l L xs M_Mo_write 2 0 0 0 [some (.ref 166), some (.int (nI a)), some (.int (nI b)), some (.int (nI q)), some (.int (nI v)), none, none] [] h z _
  refine pe_aload_n d_Mo_write_0 rfl ?_
  refine pe_iload_n d_Mo_write_1 rfl ?_
  refine pe_aload_n d_Mo_write_2 rfl ?_
  refine pe_getf d_Mo_write_3 f_Mo_108 hMo rfl ?_
  -- 6: Mo_out
  refine pe_callV d_Mo_write_6 m_Mo_111 j_Mo_out v_Mo_out (c_Mo_out hMo hnp hnb _ _) rfl rfl (by simp [Value.category]) (by decide) hMo rfl rfl ?_
  intro v1 h1 z1 hq1
  obtain ⟨rfl, rfl, rfl⟩ := hq1
  change pz_E _ _ _ _ _ _ _ _ _ (_ :: _) _ _ _
  refine pe_if_ne (tgt := 49) d_Mo_write_9 (by decide) (fun c_9 => ?_) (fun c_9 => ?_)
  · have c_9 := pb_n0.mp c_9
    exact absurd c_9 (by rw [ot_n (by omega) hb]; decide)
  · have c_9 := pb_0.mp c_9
    refine pe_aload_n d_Mo_write_12 rfl ?_
    refine pe_iload_n d_Mo_write_13 rfl ?_
    refine pe_bipush (v := nI 8) d_Mo_write_14 (by decide) ?_
    -- 16: Mo_out
    refine pe_callV d_Mo_write_16 m_Mo_111 j_Mo_out v_Mo_out (c_Mo_out hMo hnp hnb _ _) rfl rfl (by simp [Value.category]) (by decide) hMo rfl rfl ?_
    intro v1 h1 z1 hq1
    obtain ⟨rfl, rfl, rfl⟩ := hq1
    change pz_E _ _ _ _ _ _ _ _ _ (_ :: _) _ _ _
    refine pe_if_ne (tgt := 49) d_Mo_write_19 (by decide) (fun c_19 => ?_) (fun c_19 => ?_)
    · have c_19 := pb_n0.mp c_19
      exact absurd c_19 (by rw [ot_n (by omega) hq8]; decide)
    · have c_19 := pb_0.mp c_19
      refine pe_aload_n d_Mo_write_22 rfl ?_
      refine pe_iload_n d_Mo_write_23 rfl ?_
      -- 24: Mo_shut
      refine pe_callV d_Mo_write_24 m_Mo_126 j_Mo_shut v_Mo_shut (c_Mo_shut hMo hnp hnb hOp _) rfl rfl (by simp [Value.category]) (by decide) hMo rfl rfl ?_
      intro v1 h1 z1 hq1
      obtain ⟨rfl, rfl, rfl⟩ := hq1
      change pz_E _ _ _ _ _ _ _ _ _ (_ :: _) _ _ _
      refine pe_if_ne (tgt := 49) d_Mo_write_27 (by decide) (fun c_27 => ?_) (fun c_27 => ?_)
      · have c_27 := pb_n0.mp c_27
        exact absurd c_27 (by rw [opn_a ha, hop]; decide)
      · have c_27 := pb_0.mp c_27
        refine pe_aload_n d_Mo_write_30 rfl ?_
        refine pe_getf d_Mo_write_31 f_Mo_13 hMo rfl ?_
        refine pe_iload_n d_Mo_write_34 rfl ?_
        refine pe_zaldN d_Mo_write_35 hIm (by omega) (by omega) ?_
        refine pe_if_ne (tgt := 49) d_Mo_write_36 (by decide) (fun c_36 => ?_) (fun c_36 => ?_)
        · have c_36 := pb_n0.mp c_36
          exact absurd c_36 (by rw [hmp]; decide)
        · have c_36 := pb_0.mp c_36
          refine pe_aload_n d_Mo_write_39 rfl ?_
          refine pe_getf d_Mo_write_40 f_Mo_87 hMo rfl ?_
          refine pe_iload_n d_Mo_write_43 rfl ?_
          refine pe_ialdN d_Mo_write_44 hHo (by omega) (by omega) ?_
          refine pe_iload_n d_Mo_write_45 rfl ?_
          refine pe_icmp_eq (tgt := 51) d_Mo_write_46 (by decide) (fun c_46 => ?_) (fun c_46 => ?_)
          · refine pe_iload_n d_Mo_write_51 rfl ?_
            refine pe_bipush (v := nI 8) d_Mo_write_52 (by decide) ?_
            refine pe_imulN d_Mo_write_54 ?_
            refine pe_iload_n d_Mo_write_55 rfl ?_
            refine pe_iaddN d_Mo_write_56 ?_
            refine pe_istore d_Mo_write_57 (by decide) rfl ?_
            dsimp only [List.set]
            refine pe_aload_n d_Mo_write_59 rfl ?_
            refine pe_iload_n d_Mo_write_60 rfl ?_
            refine pe_iload_n d_Mo_write_61 rfl ?_
            -- 62: Mo_isLink
            refine pe_callV d_Mo_write_62 m_Mo_115 j_Mo_isLink v_Mo_isLink (c_Mo_isLink_raw hMo hnp hnb hIm hFi hLi (a := a) (q := q) ha hq8 hmp hf0 hc0 hfc) rfl rfl (by simp [Value.category]) (by decide) hMo rfl rfl ?_
            intro v1 h1 z1 hq1
            obtain ⟨rfl, rfl, rfl⟩ := hq1
            change pz_E _ _ _ _ _ _ _ _ _ (_ :: _) _ _ _
            refine pe_if_eq (tgt := 164) d_Mo_write_65 (by decide) (fun c_65 => ?_) (fun c_65 => ?_)
            · have c_65 := pb_0.mp c_65
              exact absurd hlink (of_decide_eq_false c_65)
            · have c_65 := pb_n0.mp c_65
              refine pe_iload d_Mo_write_68 rfl ?_
              refine pe_iconst (v := -1) d_Mo_write_70 (by decide) ?_
              refine pe_icmp_lt (tgt := 83) d_Mo_write_71 (by decide) (fun c_71 => ?_) (fun c_71 => ?_)
              · exact absurd (Int32.lt_trans c_71 (show (-1 : Int32) < 0 by decide)) (nI_pos (by omega))
              · refine pe_iload d_Mo_write_74 rfl ?_
                refine pe_aload_n d_Mo_write_76 rfl ?_
                refine pe_getf d_Mo_write_77 f_Mo_108 hMo rfl ?_
                refine pe_icmpN_lt (tgt := 85) d_Mo_write_80 (by decide) (by omega) (by omega) (fun c_80 => ?_) (fun c_80 => ?_)
                · refine pe_aload_n d_Mo_write_85 rfl ?_
                  refine pe_getf d_Mo_write_86 f_Mo_90 hMo rfl ?_
                  refine pe_iload d_Mo_write_89 rfl ?_
                  refine pe_ialdN d_Mo_write_91 hWo (by omega) (by omega) ?_
                  refine pe_top (y := .int (-1)) (by rw [hg]) ?_
                  refine pe_istore d_Mo_write_92 (by decide) rfl ?_
                  dsimp only [List.set]
                  refine pe_iload d_Mo_write_94 rfl ?_
                  refine pe_iload d_Mo_write_96 rfl ?_
                  refine pe_icmp_ne (tgt := 103) d_Mo_write_98 (by decide) (fun c_98 => ?_) (fun c_98 => ?_)
                  · refine pe_iload d_Mo_write_103 rfl ?_
                    refine pe_if_lt (tgt := 121) d_Mo_write_105 (by decide) (fun c_105 => ?_) (fun c_105 => ?_)
                    · refine pe_iload d_Mo_write_121 rfl ?_
                      refine pe_if_lt (tgt := 139) d_Mo_write_123 (by decide) (fun c_123 => ?_) (fun c_123 => ?_)
                      · exact absurd c_123 (nI_pos (by omega))
                      · refine pe_aload_n d_Mo_write_126 rfl ?_
                        refine pe_getf d_Mo_write_127 f_Mo_87 hMo rfl ?_
                        refine pe_iload d_Mo_write_130 rfl ?_
                        refine pe_ialdN d_Mo_write_132 hHo (by omega) (by omega) ?_
                        refine pe_if_lt (tgt := 139) d_Mo_write_133 (by decide) (fun c_133 => ?_) (fun c_133 => ?_)
                        · refine pe_iload d_Mo_write_139 rfl ?_
                          refine pe_if_lt (tgt := 152) d_Mo_write_141 (by decide) (fun c_141 => ?_) (fun c_141 => ?_)
                          · refine pe_iload d_Mo_write_152 rfl ?_
                            refine pe_if_lt (tgt := 164) d_Mo_write_154 (by decide) (fun c_154 => ?_) (fun c_154 => ?_)
                            · exact absurd c_154 (nI_pos (by omega))
                            · refine pe_aload_n d_Mo_write_157 rfl ?_
                              refine pe_iload_n d_Mo_write_158 rfl ?_
                              refine pe_iload d_Mo_write_159 rfl ?_
                              -- 161: Mo_renew
                              refine pe_callV d_Mo_write_161 m_Mo_122 j_Mo_renew v_Mo_renew (c_Mo_renew_raw hMo hnp hnb hIm hFi hLi hHo hWo (a := a) (b := v) ha (by omega) hmp hf0 hc0 hfc) rfl rfl (by simp [Value.category]) (by decide) hMo rfl rfl ?_
                              intro v1 h1 z1 hq1
                              obtain ⟨rfl, rfl, hHo, hWo, hf1⟩ := hq1
                              have hMo := MOB.mv hMo (hf1 166 (by decide))
                              have hOp := (hf1 167 (by decide)).trans hOp
                              have hIm := (hf1 168 (by decide)).trans hIm
                              have hFi := (hf1 169 (by decide)).trans hFi
                              have hLi := (hf1 170 (by decide)).trans hLi
                              have hf := hf.tr (hf1.wd (by decide))
                              change pz_E _ _ _ _ _ _ _ _ _ _ _ _ _
                              refine pe_aload_n d_Mo_write_164 rfl ?_
                              refine pe_getf d_Mo_write_165 f_Mo_90 hMo rfl ?_
                              refine pe_iload d_Mo_write_168 rfl ?_
                              refine pe_iload d_Mo_write_170 rfl ?_
                              refine pe_iastN d_Mo_write_172 hWo (by omega) (by omega) ?_
                              refine pe_pu (fun h2 e2 o2 => ?_)
                              have hMo := (o2 (166) (by omega)).trans hMo
                              have hOp := (o2 (167) (by omega)).trans hOp
                              have hIm := (o2 (168) (by omega)).trans hIm
                              have hFi := (o2 (169) (by omega)).trans hFi
                              have hLi := (o2 (170) (by omega)).trans hLi
                              have hHo := (o2 (185) (by omega)).trans hHo
                              have hWo := e2
                              have hf := hf.st o2 (by decide)
                              refine pe_iconst (v := nI 0) d_Mo_write_173 (by decide) ?_
                              refine pe_iret d_Mo_write_174 rfl ?_
                              exact ⟨rfl, rfl, hHo, hWo, hf⟩
                          · exact absurd (by decide) c_141
                        · exact absurd (Int32.not_lt.mp c_133) ht
                    · exact absurd (by decide) c_105
                  · exact absurd c_98.symm (nI_nem1 (by omega))
                · exfalso; omega
          · exact absurd how c_46
set_option maxHeartbeats 4000000 in
set_option maxRecDepth 20000 in
theorem c_Mo_write_taken_s {l : Launch} {L : Nat} {xs : Nat → Int32} {h : pz_H} {z : Nat} {np nb now tkg lst flt byt : Nat} {sa sx : Int32} (hMo : MOB h np nb now tkg lst flt byt sa sx) (hnp : np ≤ 32) (hnb : nb ≤ 32) {Mop : Nat → Bool} (hOp : AB h 167 6 Mop) {Mmp : Nat → Bool} (hIm : AB h 168 6 Mmp) {Mfi : Nat → Int32} (hFi : AI h 169 6 Mfi) {Mlk : Nat → Int32} (hLi : AI h 170 6 Mlk) {Mho : Nat → Int32} (hHo : AI h 185 32 Mho) {Mwo : Nat → Int32} (hWo : AI h 186 256 Mwo) {a : Nat} (ha : a < 6) (hop : Mop a = true) {f c : Nat} (hmp : Mmp a = false) (hf0 : Mfi a = nI f) (hc0 : Mlk a = nI c) (hfc : f + c ≤ 8) {b q : Nat} (hb : b < nb) (hq8 : q < 8) (how : Mho b = nI a) (hlink : f ≤ q ∧ q < f + c) {v : Nat} (hv : v < nb) {g : Nat} (hg : Mwo (b * 8 + q) = nI g) (hg1 : g < nb) (hfree : ¬ ff (fun w => decide (f ≤ w ∧ w < f + c) && !decide (Mwo (g * 8 + w) = -1)) 8 0 < 8) (hs : ¬ g = v) (ht : 0 ≤ Mho v) : pz_K l L xs M_Mo_write 2 0 0 [.ref 166, .int (nI a), .int (nI b), .int (nI q), .int (nI v)] h z (fun v h' z' => v = some (.int (-4)) ∧ h = h' ∧ z = z') := by
  refine pz_K.of rfl (Nat.le_of_ble_eq_true rfl) ?_
  change pz_E l L xs M_Mo_write 2 0 0 0 [some (.ref 166), some (.int (nI a)), some (.int (nI b)), some (.int (nI q)), some (.int (nI v)), none, none] [] h z _
  refine pe_aload_n d_Mo_write_0 rfl ?_
  refine pe_iload_n d_Mo_write_1 rfl ?_
  refine pe_aload_n d_Mo_write_2 rfl ?_
  refine pe_getf d_Mo_write_3 f_Mo_108 hMo rfl ?_
  -- 6: Mo_out
  refine pe_callV d_Mo_write_6 m_Mo_111 j_Mo_out v_Mo_out (c_Mo_out hMo hnp hnb _ _) rfl rfl (by simp [Value.category]) (by decide) hMo rfl rfl ?_
  intro v1 h1 z1 hq1
  obtain ⟨rfl, rfl, rfl⟩ := hq1
  change pz_E _ _ _ _ _ _ _ _ _ (_ :: _) _ _ _
  refine pe_if_ne (tgt := 49) d_Mo_write_9 (by decide) (fun c_9 => ?_) (fun c_9 => ?_)
  · have c_9 := pb_n0.mp c_9
    exact absurd c_9 (by rw [ot_n (by omega) hb]; decide)
  · have c_9 := pb_0.mp c_9
    refine pe_aload_n d_Mo_write_12 rfl ?_
    refine pe_iload_n d_Mo_write_13 rfl ?_
    refine pe_bipush (v := nI 8) d_Mo_write_14 (by decide) ?_
    -- 16: Mo_out
    refine pe_callV d_Mo_write_16 m_Mo_111 j_Mo_out v_Mo_out (c_Mo_out hMo hnp hnb _ _) rfl rfl (by simp [Value.category]) (by decide) hMo rfl rfl ?_
    intro v1 h1 z1 hq1
    obtain ⟨rfl, rfl, rfl⟩ := hq1
    change pz_E _ _ _ _ _ _ _ _ _ (_ :: _) _ _ _
    refine pe_if_ne (tgt := 49) d_Mo_write_19 (by decide) (fun c_19 => ?_) (fun c_19 => ?_)
    · have c_19 := pb_n0.mp c_19
      exact absurd c_19 (by rw [ot_n (by omega) hq8]; decide)
    · have c_19 := pb_0.mp c_19
      refine pe_aload_n d_Mo_write_22 rfl ?_
      refine pe_iload_n d_Mo_write_23 rfl ?_
      -- 24: Mo_shut
      refine pe_callV d_Mo_write_24 m_Mo_126 j_Mo_shut v_Mo_shut (c_Mo_shut hMo hnp hnb hOp _) rfl rfl (by simp [Value.category]) (by decide) hMo rfl rfl ?_
      intro v1 h1 z1 hq1
      obtain ⟨rfl, rfl, rfl⟩ := hq1
      change pz_E _ _ _ _ _ _ _ _ _ (_ :: _) _ _ _
      refine pe_if_ne (tgt := 49) d_Mo_write_27 (by decide) (fun c_27 => ?_) (fun c_27 => ?_)
      · have c_27 := pb_n0.mp c_27
        exact absurd c_27 (by rw [opn_a ha, hop]; decide)
      · have c_27 := pb_0.mp c_27
        refine pe_aload_n d_Mo_write_30 rfl ?_
        refine pe_getf d_Mo_write_31 f_Mo_13 hMo rfl ?_
        refine pe_iload_n d_Mo_write_34 rfl ?_
        refine pe_zaldN d_Mo_write_35 hIm (by omega) (by omega) ?_
        refine pe_if_ne (tgt := 49) d_Mo_write_36 (by decide) (fun c_36 => ?_) (fun c_36 => ?_)
        · have c_36 := pb_n0.mp c_36
          exact absurd c_36 (by rw [hmp]; decide)
        · have c_36 := pb_0.mp c_36
          refine pe_aload_n d_Mo_write_39 rfl ?_
          refine pe_getf d_Mo_write_40 f_Mo_87 hMo rfl ?_
          refine pe_iload_n d_Mo_write_43 rfl ?_
          refine pe_ialdN d_Mo_write_44 hHo (by omega) (by omega) ?_
          refine pe_iload_n d_Mo_write_45 rfl ?_
          refine pe_icmp_eq (tgt := 51) d_Mo_write_46 (by decide) (fun c_46 => ?_) (fun c_46 => ?_)
          · refine pe_iload_n d_Mo_write_51 rfl ?_
            refine pe_bipush (v := nI 8) d_Mo_write_52 (by decide) ?_
            refine pe_imulN d_Mo_write_54 ?_
            refine pe_iload_n d_Mo_write_55 rfl ?_
            refine pe_iaddN d_Mo_write_56 ?_
            refine pe_istore d_Mo_write_57 (by decide) rfl ?_
            dsimp only [List.set]
            refine pe_aload_n d_Mo_write_59 rfl ?_
            refine pe_iload_n d_Mo_write_60 rfl ?_
            refine pe_iload_n d_Mo_write_61 rfl ?_
            -- 62: Mo_isLink
            refine pe_callV d_Mo_write_62 m_Mo_115 j_Mo_isLink v_Mo_isLink (c_Mo_isLink_raw hMo hnp hnb hIm hFi hLi (a := a) (q := q) ha hq8 hmp hf0 hc0 hfc) rfl rfl (by simp [Value.category]) (by decide) hMo rfl rfl ?_
            intro v1 h1 z1 hq1
            obtain ⟨rfl, rfl, rfl⟩ := hq1
            change pz_E _ _ _ _ _ _ _ _ _ (_ :: _) _ _ _
            refine pe_if_eq (tgt := 164) d_Mo_write_65 (by decide) (fun c_65 => ?_) (fun c_65 => ?_)
            · have c_65 := pb_0.mp c_65
              exact absurd hlink (of_decide_eq_false c_65)
            · have c_65 := pb_n0.mp c_65
              refine pe_iload d_Mo_write_68 rfl ?_
              refine pe_iconst (v := -1) d_Mo_write_70 (by decide) ?_
              refine pe_icmp_lt (tgt := 83) d_Mo_write_71 (by decide) (fun c_71 => ?_) (fun c_71 => ?_)
              · exact absurd (Int32.lt_trans c_71 (show (-1 : Int32) < 0 by decide)) (nI_pos (by omega))
              · refine pe_iload d_Mo_write_74 rfl ?_
                refine pe_aload_n d_Mo_write_76 rfl ?_
                refine pe_getf d_Mo_write_77 f_Mo_108 hMo rfl ?_
                refine pe_icmpN_lt (tgt := 85) d_Mo_write_80 (by decide) (by omega) (by omega) (fun c_80 => ?_) (fun c_80 => ?_)
                · refine pe_aload_n d_Mo_write_85 rfl ?_
                  refine pe_getf d_Mo_write_86 f_Mo_90 hMo rfl ?_
                  refine pe_iload d_Mo_write_89 rfl ?_
                  refine pe_ialdN d_Mo_write_91 hWo (by omega) (by omega) ?_
                  refine pe_top (y := .int (nI g)) (by rw [hg]) ?_
                  refine pe_istore d_Mo_write_92 (by decide) rfl ?_
                  dsimp only [List.set]
                  refine pe_iload d_Mo_write_94 rfl ?_
                  refine pe_iload d_Mo_write_96 rfl ?_
                  refine pe_icmpN_ne (tgt := 103) d_Mo_write_98 (by decide) (by omega) (by omega) (fun c_98 => ?_) (fun c_98 => ?_)
                  · refine pe_iload d_Mo_write_103 rfl ?_
                    refine pe_if_lt (tgt := 121) d_Mo_write_105 (by decide) (fun c_105 => ?_) (fun c_105 => ?_)
                    · exact absurd c_105 (nI_pos (by omega))
                    · refine pe_aload_n d_Mo_write_108 rfl ?_
                      refine pe_iload_n d_Mo_write_109 rfl ?_
                      refine pe_iload d_Mo_write_110 rfl ?_
                      -- 112: Mo_hasLinks
                      refine pe_callV d_Mo_write_112 m_Mo_148 j_Mo_hasLinks v_Mo_hasLinks (c_Mo_hasLinks hMo hnp hnb hIm hFi hLi hWo (a := a) (b := g) ha (by omega) hmp hf0 hc0 hfc) rfl rfl (by simp [Value.category]) (by decide) hMo rfl rfl ?_
                      intro v1 h1 z1 hq1
                      obtain ⟨rfl, rfl, rfl⟩ := hq1
                      rw [Nat.sub_zero]
                      change pz_E _ _ _ _ _ _ _ _ _ (_ :: _) _ _ _
                      refine pe_if_eq (tgt := 121) d_Mo_write_115 (by decide) (fun c_115 => ?_) (fun c_115 => ?_)
                      · have c_115 := pb_0.mp c_115
                        refine pe_iload d_Mo_write_121 rfl ?_
                        refine pe_if_lt (tgt := 139) d_Mo_write_123 (by decide) (fun c_123 => ?_) (fun c_123 => ?_)
                        · exact absurd c_123 (nI_pos (by omega))
                        · refine pe_aload_n d_Mo_write_126 rfl ?_
                          refine pe_getf d_Mo_write_127 f_Mo_87 hMo rfl ?_
                          refine pe_iload d_Mo_write_130 rfl ?_
                          refine pe_ialdN d_Mo_write_132 hHo (by omega) (by omega) ?_
                          refine pe_if_lt (tgt := 139) d_Mo_write_133 (by decide) (fun c_133 => ?_) (fun c_133 => ?_)
                          · exact absurd ht (Int32.not_le.mpr c_133)
                          · refine pe_bipush (v := -4) d_Mo_write_136 (by decide) ?_
                            refine pe_iret d_Mo_write_138 rfl ?_
                            exact ⟨rfl, rfl, rfl⟩
                      · have c_115 := pb_n0.mp c_115
                        exact absurd (of_decide_eq_true c_115) hfree
                  · exfalso; omega
                · exfalso; omega
          · exact absurd how c_46
set_option maxHeartbeats 4000000 in
set_option maxRecDepth 20000 in
theorem c_Mo_write_ss {l : Launch} {L : Nat} {xs : Nat → Int32} {h : pz_H} {z : Nat} {np nb now tkg lst flt byt : Nat} {sa sx : Int32} (hMo : MOB h np nb now tkg lst flt byt sa sx) (hnp : np ≤ 32) (hnb : nb ≤ 32) {Mop : Nat → Bool} (hOp : AB h 167 6 Mop) {Mmp : Nat → Bool} (hIm : AB h 168 6 Mmp) {Mfi : Nat → Int32} (hFi : AI h 169 6 Mfi) {Mlk : Nat → Int32} (hLi : AI h 170 6 Mlk) {Mho : Nat → Int32} (hHo : AI h 185 32 Mho) {Mwo : Nat → Int32} (hWo : AI h 186 256 Mwo) {a : Nat} (ha : a < 6) (hop : Mop a = true) {f c : Nat} (hmp : Mmp a = false) (hf0 : Mfi a = nI f) (hc0 : Mlk a = nI c) (hfc : f + c ≤ 8) {b q : Nat} (hb : b < nb) (hq8 : q < 8) (how : Mho b = nI a) (hlink : f ≤ q ∧ q < f + c) {v : Nat} (hv : v < nb) {g : Nat} (hg : Mwo (b * 8 + q) = nI g) (hg1 : g < nb) (hfree : ¬ ff (fun w => decide (f ≤ w ∧ w < f + c) && !decide (Mwo (g * 8 + w) = -1)) 8 0 < 8) (hs : ¬ g = v) (ht : ¬ 0 ≤ Mho v) : pz_K l L xs M_Mo_write 2 0 0 [.ref 166, .int (nI a), .int (nI b), .int (nI q), .int (nI v)] h z (fun v' h' z' => v' = some (.int (nI 0)) ∧ z = z' ∧ AI h' 185 32 (upd (upd Mho g (-1)) v (nI a)) ∧ AI h' 186 256 (upd (fil Mwo (lkw v f c) (v * 8) 8) (b * 8 + q) (nI v)) ∧ frx [185, 186] h h') := by
  refine pz_K.of rfl (Nat.le_of_ble_eq_true rfl) ?_
  have hf : frx [185, 186] h h := frx.rf
  change pz_E l L xs M_Mo_write 2 0 0 0 [some (.ref 166), some (.int (nI a)), some (.int (nI b)), some (.int (nI q)), some (.int (nI v)), none, none] [] h z _
  refine pe_aload_n d_Mo_write_0 rfl ?_
  refine pe_iload_n d_Mo_write_1 rfl ?_
  refine pe_aload_n d_Mo_write_2 rfl ?_
  refine pe_getf d_Mo_write_3 f_Mo_108 hMo rfl ?_
  -- 6: Mo_out
  refine pe_callV d_Mo_write_6 m_Mo_111 j_Mo_out v_Mo_out (c_Mo_out hMo hnp hnb _ _) rfl rfl (by simp [Value.category]) (by decide) hMo rfl rfl ?_
  intro v1 h1 z1 hq1
  obtain ⟨rfl, rfl, rfl⟩ := hq1
  change pz_E _ _ _ _ _ _ _ _ _ (_ :: _) _ _ _
  refine pe_if_ne (tgt := 49) d_Mo_write_9 (by decide) (fun c_9 => ?_) (fun c_9 => ?_)
  · have c_9 := pb_n0.mp c_9
    exact absurd c_9 (by rw [ot_n (by omega) hb]; decide)
  · have c_9 := pb_0.mp c_9
    refine pe_aload_n d_Mo_write_12 rfl ?_
    refine pe_iload_n d_Mo_write_13 rfl ?_
    refine pe_bipush (v := nI 8) d_Mo_write_14 (by decide) ?_
    -- 16: Mo_out
    refine pe_callV d_Mo_write_16 m_Mo_111 j_Mo_out v_Mo_out (c_Mo_out hMo hnp hnb _ _) rfl rfl (by simp [Value.category]) (by decide) hMo rfl rfl ?_
    intro v1 h1 z1 hq1
    obtain ⟨rfl, rfl, rfl⟩ := hq1
    change pz_E _ _ _ _ _ _ _ _ _ (_ :: _) _ _ _
    refine pe_if_ne (tgt := 49) d_Mo_write_19 (by decide) (fun c_19 => ?_) (fun c_19 => ?_)
    · have c_19 := pb_n0.mp c_19
      exact absurd c_19 (by rw [ot_n (by omega) hq8]; decide)
    · have c_19 := pb_0.mp c_19
      refine pe_aload_n d_Mo_write_22 rfl ?_
      refine pe_iload_n d_Mo_write_23 rfl ?_
      -- 24: Mo_shut
      refine pe_callV d_Mo_write_24 m_Mo_126 j_Mo_shut v_Mo_shut (c_Mo_shut hMo hnp hnb hOp _) rfl rfl (by simp [Value.category]) (by decide) hMo rfl rfl ?_
      intro v1 h1 z1 hq1
      obtain ⟨rfl, rfl, rfl⟩ := hq1
      change pz_E _ _ _ _ _ _ _ _ _ (_ :: _) _ _ _
      refine pe_if_ne (tgt := 49) d_Mo_write_27 (by decide) (fun c_27 => ?_) (fun c_27 => ?_)
      · have c_27 := pb_n0.mp c_27
        exact absurd c_27 (by rw [opn_a ha, hop]; decide)
      · have c_27 := pb_0.mp c_27
        refine pe_aload_n d_Mo_write_30 rfl ?_
        refine pe_getf d_Mo_write_31 f_Mo_13 hMo rfl ?_
        refine pe_iload_n d_Mo_write_34 rfl ?_
        refine pe_zaldN d_Mo_write_35 hIm (by omega) (by omega) ?_
        refine pe_if_ne (tgt := 49) d_Mo_write_36 (by decide) (fun c_36 => ?_) (fun c_36 => ?_)
        · have c_36 := pb_n0.mp c_36
          exact absurd c_36 (by rw [hmp]; decide)
        · have c_36 := pb_0.mp c_36
          refine pe_aload_n d_Mo_write_39 rfl ?_
          refine pe_getf d_Mo_write_40 f_Mo_87 hMo rfl ?_
          refine pe_iload_n d_Mo_write_43 rfl ?_
          refine pe_ialdN d_Mo_write_44 hHo (by omega) (by omega) ?_
          refine pe_iload_n d_Mo_write_45 rfl ?_
          refine pe_icmp_eq (tgt := 51) d_Mo_write_46 (by decide) (fun c_46 => ?_) (fun c_46 => ?_)
          · refine pe_iload_n d_Mo_write_51 rfl ?_
            refine pe_bipush (v := nI 8) d_Mo_write_52 (by decide) ?_
            refine pe_imulN d_Mo_write_54 ?_
            refine pe_iload_n d_Mo_write_55 rfl ?_
            refine pe_iaddN d_Mo_write_56 ?_
            refine pe_istore d_Mo_write_57 (by decide) rfl ?_
            dsimp only [List.set]
            refine pe_aload_n d_Mo_write_59 rfl ?_
            refine pe_iload_n d_Mo_write_60 rfl ?_
            refine pe_iload_n d_Mo_write_61 rfl ?_
            -- 62: Mo_isLink
            refine pe_callV d_Mo_write_62 m_Mo_115 j_Mo_isLink v_Mo_isLink (c_Mo_isLink_raw hMo hnp hnb hIm hFi hLi (a := a) (q := q) ha hq8 hmp hf0 hc0 hfc) rfl rfl (by simp [Value.category]) (by decide) hMo rfl rfl ?_
            intro v1 h1 z1 hq1
            obtain ⟨rfl, rfl, rfl⟩ := hq1
            change pz_E _ _ _ _ _ _ _ _ _ (_ :: _) _ _ _
            refine pe_if_eq (tgt := 164) d_Mo_write_65 (by decide) (fun c_65 => ?_) (fun c_65 => ?_)
            · have c_65 := pb_0.mp c_65
              exact absurd hlink (of_decide_eq_false c_65)
            · have c_65 := pb_n0.mp c_65
              refine pe_iload d_Mo_write_68 rfl ?_
              refine pe_iconst (v := -1) d_Mo_write_70 (by decide) ?_
              refine pe_icmp_lt (tgt := 83) d_Mo_write_71 (by decide) (fun c_71 => ?_) (fun c_71 => ?_)
              · exact absurd (Int32.lt_trans c_71 (show (-1 : Int32) < 0 by decide)) (nI_pos (by omega))
              · refine pe_iload d_Mo_write_74 rfl ?_
                refine pe_aload_n d_Mo_write_76 rfl ?_
                refine pe_getf d_Mo_write_77 f_Mo_108 hMo rfl ?_
                refine pe_icmpN_lt (tgt := 85) d_Mo_write_80 (by decide) (by omega) (by omega) (fun c_80 => ?_) (fun c_80 => ?_)
                · refine pe_aload_n d_Mo_write_85 rfl ?_
                  refine pe_getf d_Mo_write_86 f_Mo_90 hMo rfl ?_
                  refine pe_iload d_Mo_write_89 rfl ?_
                  refine pe_ialdN d_Mo_write_91 hWo (by omega) (by omega) ?_
                  refine pe_top (y := .int (nI g)) (by rw [hg]) ?_
                  refine pe_istore d_Mo_write_92 (by decide) rfl ?_
                  dsimp only [List.set]
                  refine pe_iload d_Mo_write_94 rfl ?_
                  refine pe_iload d_Mo_write_96 rfl ?_
                  refine pe_icmpN_ne (tgt := 103) d_Mo_write_98 (by decide) (by omega) (by omega) (fun c_98 => ?_) (fun c_98 => ?_)
                  · refine pe_iload d_Mo_write_103 rfl ?_
                    refine pe_if_lt (tgt := 121) d_Mo_write_105 (by decide) (fun c_105 => ?_) (fun c_105 => ?_)
                    · exact absurd c_105 (nI_pos (by omega))
                    · refine pe_aload_n d_Mo_write_108 rfl ?_
                      refine pe_iload_n d_Mo_write_109 rfl ?_
                      refine pe_iload d_Mo_write_110 rfl ?_
                      -- 112: Mo_hasLinks
                      refine pe_callV d_Mo_write_112 m_Mo_148 j_Mo_hasLinks v_Mo_hasLinks (c_Mo_hasLinks hMo hnp hnb hIm hFi hLi hWo (a := a) (b := g) ha (by omega) hmp hf0 hc0 hfc) rfl rfl (by simp [Value.category]) (by decide) hMo rfl rfl ?_
                      intro v1 h1 z1 hq1
                      obtain ⟨rfl, rfl, rfl⟩ := hq1
                      rw [Nat.sub_zero]
                      change pz_E _ _ _ _ _ _ _ _ _ (_ :: _) _ _ _
                      refine pe_if_eq (tgt := 121) d_Mo_write_115 (by decide) (fun c_115 => ?_) (fun c_115 => ?_)
                      · have c_115 := pb_0.mp c_115
                        refine pe_iload d_Mo_write_121 rfl ?_
                        refine pe_if_lt (tgt := 139) d_Mo_write_123 (by decide) (fun c_123 => ?_) (fun c_123 => ?_)
                        · exact absurd c_123 (nI_pos (by omega))
                        · refine pe_aload_n d_Mo_write_126 rfl ?_
                          refine pe_getf d_Mo_write_127 f_Mo_87 hMo rfl ?_
                          refine pe_iload d_Mo_write_130 rfl ?_
                          refine pe_ialdN d_Mo_write_132 hHo (by omega) (by omega) ?_
                          refine pe_if_lt (tgt := 139) d_Mo_write_133 (by decide) (fun c_133 => ?_) (fun c_133 => ?_)
                          · refine pe_iload d_Mo_write_139 rfl ?_
                            refine pe_if_lt (tgt := 152) d_Mo_write_141 (by decide) (fun c_141 => ?_) (fun c_141 => ?_)
                            · exact absurd c_141 (nI_pos (by omega))
                            · refine pe_aload_n d_Mo_write_144 rfl ?_
                              refine pe_getf d_Mo_write_145 f_Mo_87 hMo rfl ?_
                              refine pe_iload d_Mo_write_148 rfl ?_
                              refine pe_iconst (v := -1) d_Mo_write_150 (by decide) ?_
                              refine pe_iastN d_Mo_write_151 hHo (by omega) (by omega) ?_
                              refine pe_pu (fun h2 e2 o2 => ?_)
                              have hMo := (o2 (166) (by omega)).trans hMo
                              have hOp := (o2 (167) (by omega)).trans hOp
                              have hIm := (o2 (168) (by omega)).trans hIm
                              have hFi := (o2 (169) (by omega)).trans hFi
                              have hLi := (o2 (170) (by omega)).trans hLi
                              have hHo := e2
                              have hWo := (o2 (186) (by omega)).trans hWo
                              have hf := hf.st o2 (by decide)
                              refine pe_iload d_Mo_write_152 rfl ?_
                              refine pe_if_lt (tgt := 164) d_Mo_write_154 (by decide) (fun c_154 => ?_) (fun c_154 => ?_)
                              · exact absurd c_154 (nI_pos (by omega))
                              · refine pe_aload_n d_Mo_write_157 rfl ?_
                                refine pe_iload_n d_Mo_write_158 rfl ?_
                                refine pe_iload d_Mo_write_159 rfl ?_
                                -- 161: Mo_renew
                                refine pe_callV d_Mo_write_161 m_Mo_122 j_Mo_renew v_Mo_renew (c_Mo_renew_raw hMo hnp hnb hIm hFi hLi hHo hWo (a := a) (b := v) ha (by omega) hmp hf0 hc0 hfc) rfl rfl (by simp [Value.category]) (by decide) hMo rfl rfl ?_
                                intro v1 h1 z1 hq1
                                obtain ⟨rfl, rfl, hHo, hWo, hf1⟩ := hq1
                                have hMo := MOB.mv hMo (hf1 166 (by decide))
                                have hOp := (hf1 167 (by decide)).trans hOp
                                have hIm := (hf1 168 (by decide)).trans hIm
                                have hFi := (hf1 169 (by decide)).trans hFi
                                have hLi := (hf1 170 (by decide)).trans hLi
                                have hf := hf.tr (hf1.wd (by decide))
                                change pz_E _ _ _ _ _ _ _ _ _ _ _ _ _
                                refine pe_aload_n d_Mo_write_164 rfl ?_
                                refine pe_getf d_Mo_write_165 f_Mo_90 hMo rfl ?_
                                refine pe_iload d_Mo_write_168 rfl ?_
                                refine pe_iload d_Mo_write_170 rfl ?_
                                refine pe_iastN d_Mo_write_172 hWo (by omega) (by omega) ?_
                                refine pe_pu (fun h2 e2 o2 => ?_)
                                have hMo := (o2 (166) (by omega)).trans hMo
                                have hOp := (o2 (167) (by omega)).trans hOp
                                have hIm := (o2 (168) (by omega)).trans hIm
                                have hFi := (o2 (169) (by omega)).trans hFi
                                have hLi := (o2 (170) (by omega)).trans hLi
                                have hHo := (o2 (185) (by omega)).trans hHo
                                have hWo := e2
                                have hf := hf.st o2 (by decide)
                                refine pe_iconst (v := nI 0) d_Mo_write_173 (by decide) ?_
                                refine pe_iret d_Mo_write_174 rfl ?_
                                exact ⟨rfl, rfl, hHo, hWo, hf⟩
                          · exact absurd (Int32.not_lt.mp c_133) ht
                      · have c_115 := pb_n0.mp c_115
                        exact absurd (of_decide_eq_true c_115) hfree
                  · exfalso; omega
                · exfalso; omega
          · exact absurd how c_46
set_option maxHeartbeats 4000000 in
set_option maxRecDepth 20000 in
theorem c_Mo_write_sn {l : Launch} {L : Nat} {xs : Nat → Int32} {h : pz_H} {z : Nat} {np nb now tkg lst flt byt : Nat} {sa sx : Int32} (hMo : MOB h np nb now tkg lst flt byt sa sx) (hnp : np ≤ 32) (hnb : nb ≤ 32) {Mop : Nat → Bool} (hOp : AB h 167 6 Mop) {Mmp : Nat → Bool} (hIm : AB h 168 6 Mmp) {Mfi : Nat → Int32} (hFi : AI h 169 6 Mfi) {Mlk : Nat → Int32} (hLi : AI h 170 6 Mlk) {Mho : Nat → Int32} (hHo : AI h 185 32 Mho) {Mwo : Nat → Int32} (hWo : AI h 186 256 Mwo) {a : Nat} (ha : a < 6) (hop : Mop a = true) {f c : Nat} (hmp : Mmp a = false) (hf0 : Mfi a = nI f) (hc0 : Mlk a = nI c) (hfc : f + c ≤ 8) {b q : Nat} (hb : b < nb) (hq8 : q < 8) (how : Mho b = nI a) (hlink : f ≤ q ∧ q < f + c) {g : Nat} (hg : Mwo (b * 8 + q) = nI g) (hg1 : g < nb) (hfree : ¬ ff (fun w => decide (f ≤ w ∧ w < f + c) && !decide (Mwo (g * 8 + w) = -1)) 8 0 < 8) : pz_K l L xs M_Mo_write 2 0 0 [.ref 166, .int (nI a), .int (nI b), .int (nI q), .int (-1)] h z (fun v' h' z' => v' = some (.int (nI 0)) ∧ z = z' ∧ AI h' 185 32 (upd Mho g (-1)) ∧ AI h' 186 256 (upd Mwo (b * 8 + q) (-1)) ∧ frx [185, 186] h h') := by
  refine pz_K.of rfl (Nat.le_of_ble_eq_true rfl) ?_
  have hf : frx [185, 186] h h := frx.rf
  change pz_E l L xs M_Mo_write 2 0 0 0 [some (.ref 166), some (.int (nI a)), some (.int (nI b)), some (.int (nI q)), some (.int (-1)), none, none] [] h z _
  refine pe_aload_n d_Mo_write_0 rfl ?_
  refine pe_iload_n d_Mo_write_1 rfl ?_
  refine pe_aload_n d_Mo_write_2 rfl ?_
  refine pe_getf d_Mo_write_3 f_Mo_108 hMo rfl ?_
  -- 6: Mo_out
  refine pe_callV d_Mo_write_6 m_Mo_111 j_Mo_out v_Mo_out (c_Mo_out hMo hnp hnb _ _) rfl rfl (by simp [Value.category]) (by decide) hMo rfl rfl ?_
  intro v1 h1 z1 hq1
  obtain ⟨rfl, rfl, rfl⟩ := hq1
  change pz_E _ _ _ _ _ _ _ _ _ (_ :: _) _ _ _
  refine pe_if_ne (tgt := 49) d_Mo_write_9 (by decide) (fun c_9 => ?_) (fun c_9 => ?_)
  · have c_9 := pb_n0.mp c_9
    exact absurd c_9 (by rw [ot_n (by omega) hb]; decide)
  · have c_9 := pb_0.mp c_9
    refine pe_aload_n d_Mo_write_12 rfl ?_
    refine pe_iload_n d_Mo_write_13 rfl ?_
    refine pe_bipush (v := nI 8) d_Mo_write_14 (by decide) ?_
    -- 16: Mo_out
    refine pe_callV d_Mo_write_16 m_Mo_111 j_Mo_out v_Mo_out (c_Mo_out hMo hnp hnb _ _) rfl rfl (by simp [Value.category]) (by decide) hMo rfl rfl ?_
    intro v1 h1 z1 hq1
    obtain ⟨rfl, rfl, rfl⟩ := hq1
    change pz_E _ _ _ _ _ _ _ _ _ (_ :: _) _ _ _
    refine pe_if_ne (tgt := 49) d_Mo_write_19 (by decide) (fun c_19 => ?_) (fun c_19 => ?_)
    · have c_19 := pb_n0.mp c_19
      exact absurd c_19 (by rw [ot_n (by omega) hq8]; decide)
    · have c_19 := pb_0.mp c_19
      refine pe_aload_n d_Mo_write_22 rfl ?_
      refine pe_iload_n d_Mo_write_23 rfl ?_
      -- 24: Mo_shut
      refine pe_callV d_Mo_write_24 m_Mo_126 j_Mo_shut v_Mo_shut (c_Mo_shut hMo hnp hnb hOp _) rfl rfl (by simp [Value.category]) (by decide) hMo rfl rfl ?_
      intro v1 h1 z1 hq1
      obtain ⟨rfl, rfl, rfl⟩ := hq1
      change pz_E _ _ _ _ _ _ _ _ _ (_ :: _) _ _ _
      refine pe_if_ne (tgt := 49) d_Mo_write_27 (by decide) (fun c_27 => ?_) (fun c_27 => ?_)
      · have c_27 := pb_n0.mp c_27
        exact absurd c_27 (by rw [opn_a ha, hop]; decide)
      · have c_27 := pb_0.mp c_27
        refine pe_aload_n d_Mo_write_30 rfl ?_
        refine pe_getf d_Mo_write_31 f_Mo_13 hMo rfl ?_
        refine pe_iload_n d_Mo_write_34 rfl ?_
        refine pe_zaldN d_Mo_write_35 hIm (by omega) (by omega) ?_
        refine pe_if_ne (tgt := 49) d_Mo_write_36 (by decide) (fun c_36 => ?_) (fun c_36 => ?_)
        · have c_36 := pb_n0.mp c_36
          exact absurd c_36 (by rw [hmp]; decide)
        · have c_36 := pb_0.mp c_36
          refine pe_aload_n d_Mo_write_39 rfl ?_
          refine pe_getf d_Mo_write_40 f_Mo_87 hMo rfl ?_
          refine pe_iload_n d_Mo_write_43 rfl ?_
          refine pe_ialdN d_Mo_write_44 hHo (by omega) (by omega) ?_
          refine pe_iload_n d_Mo_write_45 rfl ?_
          refine pe_icmp_eq (tgt := 51) d_Mo_write_46 (by decide) (fun c_46 => ?_) (fun c_46 => ?_)
          · refine pe_iload_n d_Mo_write_51 rfl ?_
            refine pe_bipush (v := nI 8) d_Mo_write_52 (by decide) ?_
            refine pe_imulN d_Mo_write_54 ?_
            refine pe_iload_n d_Mo_write_55 rfl ?_
            refine pe_iaddN d_Mo_write_56 ?_
            refine pe_istore d_Mo_write_57 (by decide) rfl ?_
            dsimp only [List.set]
            refine pe_aload_n d_Mo_write_59 rfl ?_
            refine pe_iload_n d_Mo_write_60 rfl ?_
            refine pe_iload_n d_Mo_write_61 rfl ?_
            -- 62: Mo_isLink
            refine pe_callV d_Mo_write_62 m_Mo_115 j_Mo_isLink v_Mo_isLink (c_Mo_isLink_raw hMo hnp hnb hIm hFi hLi (a := a) (q := q) ha hq8 hmp hf0 hc0 hfc) rfl rfl (by simp [Value.category]) (by decide) hMo rfl rfl ?_
            intro v1 h1 z1 hq1
            obtain ⟨rfl, rfl, rfl⟩ := hq1
            change pz_E _ _ _ _ _ _ _ _ _ (_ :: _) _ _ _
            refine pe_if_eq (tgt := 164) d_Mo_write_65 (by decide) (fun c_65 => ?_) (fun c_65 => ?_)
            · have c_65 := pb_0.mp c_65
              exact absurd hlink (of_decide_eq_false c_65)
            · have c_65 := pb_n0.mp c_65
              refine pe_iload d_Mo_write_68 rfl ?_
              refine pe_iconst (v := -1) d_Mo_write_70 (by decide) ?_
              refine pe_icmp_lt (tgt := 83) d_Mo_write_71 (by decide) (fun c_71 => ?_) (fun c_71 => ?_)
              · exact absurd c_71 (by decide)
              · refine pe_iload d_Mo_write_74 rfl ?_
                refine pe_aload_n d_Mo_write_76 rfl ?_
                refine pe_getf d_Mo_write_77 f_Mo_108 hMo rfl ?_
                refine pe_icmp_lt (tgt := 85) d_Mo_write_80 (by decide) (fun c_80 => ?_) (fun c_80 => ?_)
                · refine pe_aload_n d_Mo_write_85 rfl ?_
                  refine pe_getf d_Mo_write_86 f_Mo_90 hMo rfl ?_
                  refine pe_iload d_Mo_write_89 rfl ?_
                  refine pe_ialdN d_Mo_write_91 hWo (by omega) (by omega) ?_
                  refine pe_top (y := .int (nI g)) (by rw [hg]) ?_
                  refine pe_istore d_Mo_write_92 (by decide) rfl ?_
                  dsimp only [List.set]
                  refine pe_iload d_Mo_write_94 rfl ?_
                  refine pe_iload d_Mo_write_96 rfl ?_
                  refine pe_icmp_ne (tgt := 103) d_Mo_write_98 (by decide) (fun c_98 => ?_) (fun c_98 => ?_)
                  · refine pe_iload d_Mo_write_103 rfl ?_
                    refine pe_if_lt (tgt := 121) d_Mo_write_105 (by decide) (fun c_105 => ?_) (fun c_105 => ?_)
                    · exact absurd c_105 (nI_pos (by omega))
                    · refine pe_aload_n d_Mo_write_108 rfl ?_
                      refine pe_iload_n d_Mo_write_109 rfl ?_
                      refine pe_iload d_Mo_write_110 rfl ?_
                      -- 112: Mo_hasLinks
                      refine pe_callV d_Mo_write_112 m_Mo_148 j_Mo_hasLinks v_Mo_hasLinks (c_Mo_hasLinks hMo hnp hnb hIm hFi hLi hWo (a := a) (b := g) ha (by omega) hmp hf0 hc0 hfc) rfl rfl (by simp [Value.category]) (by decide) hMo rfl rfl ?_
                      intro v1 h1 z1 hq1
                      obtain ⟨rfl, rfl, rfl⟩ := hq1
                      rw [Nat.sub_zero]
                      change pz_E _ _ _ _ _ _ _ _ _ (_ :: _) _ _ _
                      refine pe_if_eq (tgt := 121) d_Mo_write_115 (by decide) (fun c_115 => ?_) (fun c_115 => ?_)
                      · have c_115 := pb_0.mp c_115
                        refine pe_iload d_Mo_write_121 rfl ?_
                        refine pe_if_lt (tgt := 139) d_Mo_write_123 (by decide) (fun c_123 => ?_) (fun c_123 => ?_)
                        · refine pe_iload d_Mo_write_139 rfl ?_
                          refine pe_if_lt (tgt := 152) d_Mo_write_141 (by decide) (fun c_141 => ?_) (fun c_141 => ?_)
                          · exact absurd c_141 (nI_pos (by omega))
                          · refine pe_aload_n d_Mo_write_144 rfl ?_
                            refine pe_getf d_Mo_write_145 f_Mo_87 hMo rfl ?_
                            refine pe_iload d_Mo_write_148 rfl ?_
                            refine pe_iconst (v := -1) d_Mo_write_150 (by decide) ?_
                            refine pe_iastN d_Mo_write_151 hHo (by omega) (by omega) ?_
                            refine pe_pu (fun h2 e2 o2 => ?_)
                            have hMo := (o2 (166) (by omega)).trans hMo
                            have hOp := (o2 (167) (by omega)).trans hOp
                            have hIm := (o2 (168) (by omega)).trans hIm
                            have hFi := (o2 (169) (by omega)).trans hFi
                            have hLi := (o2 (170) (by omega)).trans hLi
                            have hHo := e2
                            have hWo := (o2 (186) (by omega)).trans hWo
                            have hf := hf.st o2 (by decide)
                            refine pe_iload d_Mo_write_152 rfl ?_
                            refine pe_if_lt (tgt := 164) d_Mo_write_154 (by decide) (fun c_154 => ?_) (fun c_154 => ?_)
                            · refine pe_aload_n d_Mo_write_164 rfl ?_
                              refine pe_getf d_Mo_write_165 f_Mo_90 hMo rfl ?_
                              refine pe_iload d_Mo_write_168 rfl ?_
                              refine pe_iload d_Mo_write_170 rfl ?_
                              refine pe_iastN d_Mo_write_172 hWo (by omega) (by omega) ?_
                              refine pe_pu (fun h2 e2 o2 => ?_)
                              have hMo := (o2 (166) (by omega)).trans hMo
                              have hOp := (o2 (167) (by omega)).trans hOp
                              have hIm := (o2 (168) (by omega)).trans hIm
                              have hFi := (o2 (169) (by omega)).trans hFi
                              have hLi := (o2 (170) (by omega)).trans hLi
                              have hHo := (o2 (185) (by omega)).trans hHo
                              have hWo := e2
                              have hf := hf.st o2 (by decide)
                              refine pe_iconst (v := nI 0) d_Mo_write_173 (by decide) ?_
                              refine pe_iret d_Mo_write_174 rfl ?_
                              exact ⟨rfl, rfl, hHo, hWo, hf⟩
                            · exact absurd (by decide) c_154
                        · exact absurd (by decide) c_123
                      · have c_115 := pb_n0.mp c_115
                        exact absurd (of_decide_eq_true c_115) hfree
                  · exact absurd c_98 (nI_nem1 (by omega))
                · exact absurd (m1_lt nb (by omega)) c_80
          · exact absurd how c_46
set_option maxHeartbeats 4000000 in
set_option maxRecDepth 20000 in
theorem c_Mo_put_no {l : Launch} {L : Nat} {xs : Nat → Int32} {h : pz_H} {z : Nat} {np nb now tkg lst flt byt : Nat} {sa sx : Int32} (hMo : MOB h np nb now tkg lst flt byt sa sx) (hnp : np ≤ 32) (hnb : nb ≤ 32) {Mop : Nat → Bool} (hOp : AB h 167 6 Mop) {Mmp : Nat → Bool} (hIm : AB h 168 6 Mmp) {Mfi : Nat → Int32} (hFi : AI h 169 6 Mfi) {Mlk : Nat → Int32} (hLi : AI h 170 6 Mlk) {Mho : Nat → Int32} (hHo : AI h 185 32 Mho) {Mwo : Nat → Int32} (hWo : AI h 186 256 Mwo) {Mda : Nat → Int32} (hDa : AI h 187 42 Mda) {Men : Nat → Nat} (hEn : AN h 188 6 Men) {Mke : Nat → Int32} (hKe : AI h 189 168 Mke) {Mva : Nat → Int32} (hVa : AI h 190 168 Mva) (x k u : Int32) (pr : Bool) (hno : (opn Mop x && Mmp x.toNatClampNeg) = false) : pz_K l L xs M_Mo_put 2 0 0 [.ref 166, .int x, .int k, .int u, .int (pb pr)] h z (fun v h' z' => v = some (.int (-1)) ∧ h = h' ∧ z = z') := by
  refine pz_K.of rfl (Nat.le_of_ble_eq_true rfl) ?_
  change pz_E l L xs M_Mo_put 2 0 0 0 [some (.ref 166), some (.int x), some (.int k), some (.int u), some (.int (pb pr)), none, none, none] [] h z _
  refine pe_aload_n d_Mo_put_0 rfl ?_
  refine pe_iload_n d_Mo_put_1 rfl ?_
  -- 2: Mo_shut
  refine pe_callV d_Mo_put_2 m_Mo_126 j_Mo_shut v_Mo_shut (c_Mo_shut hMo hnp hnb hOp _) rfl rfl (by simp [Value.category]) (by decide) hMo rfl rfl ?_
  intro v1 h1 z1 hq1
  obtain ⟨rfl, rfl, rfl⟩ := hq1
  change pz_E _ _ _ _ _ _ _ _ _ (_ :: _) _ _ _
  refine pe_if_ne (tgt := 17) d_Mo_put_5 (by decide) (fun c_5 => ?_) (fun c_5 => ?_)
  · have c_5 := pb_n0.mp c_5
    refine pe_iconst (v := -1) d_Mo_put_17 (by decide) ?_
    refine pe_iret d_Mo_put_18 rfl ?_
    exact ⟨rfl, rfl, rfl⟩
  · have c_5 := pb_0.mp c_5
    obtain ⟨a, ha, hop, rfl⟩ := opn_N (nb_f c_5)
    refine pe_aload_n d_Mo_put_8 rfl ?_
    refine pe_getf d_Mo_put_9 f_Mo_13 hMo rfl ?_
    refine pe_iload_n d_Mo_put_12 rfl ?_
    refine pe_zaldN d_Mo_put_13 hIm (by omega) (by omega) ?_
    refine pe_if_ne (tgt := 19) d_Mo_put_14 (by decide) (fun c_14 => ?_) (fun c_14 => ?_)
    · have c_14 := pb_n0.mp c_14
      exact absurd (show (opn Mop (nI a) && Mmp (nI a).toNatClampNeg) = true from by rw [opn_a ha, hop, nI_clamp (by omega), c_14]; rfl) (by rw [hno]; decide)
    · have c_14 := pb_0.mp c_14
      refine pe_iconst (v := -1) d_Mo_put_17 (by decide) ?_
      refine pe_iret d_Mo_put_18 rfl ?_
      exact ⟨rfl, rfl, rfl⟩
set_option maxHeartbeats 4000000 in
set_option maxRecDepth 20000 in
theorem c_Mo_put_nf0 {l : Launch} {L : Nat} {xs : Nat → Int32} {h : pz_H} {z : Nat} {np nb now tkg lst flt byt : Nat} {sa sx : Int32} (hMo : MOB h np nb now tkg lst flt byt sa sx) (hnp : np ≤ 32) (hnb : nb ≤ 32) {Mop : Nat → Bool} (hOp : AB h 167 6 Mop) {Mmp : Nat → Bool} (hIm : AB h 168 6 Mmp) {Mfi : Nat → Int32} (hFi : AI h 169 6 Mfi) {Mlk : Nat → Int32} (hLi : AI h 170 6 Mlk) {Mho : Nat → Int32} (hHo : AI h 185 32 Mho) {Mwo : Nat → Int32} (hWo : AI h 186 256 Mwo) {Mda : Nat → Int32} (hDa : AI h 187 42 Mda) {Men : Nat → Nat} (hEn : AN h 188 6 Men) {Mke : Nat → Int32} (hKe : AI h 189 168 Mke) {Mva : Nat → Int32} (hVa : AI h 190 168 Mva) {a : Nat} (ha : a < 6) (hop : Mop a = true) (k u : Int32) (hmp : Mmp a = true) (hen : Men a ≤ 28) (hnf : ¬ ff (fun j => decide (Mke (a * 28 + j) = k)) (Men a) 0 < Men a) : pz_K l L xs M_Mo_put 2 0 0 [.ref 166, .int (nI a), .int k, .int u, .int (pb false)] h z (fun v h' z' => v = some (.int (-1)) ∧ h = h' ∧ z = z') := by
  refine pz_K.of rfl (Nat.le_of_ble_eq_true rfl) ?_
  change pz_E l L xs M_Mo_put 2 0 0 0 [some (.ref 166), some (.int (nI a)), some (.int k), some (.int u), some (.int (pb false)), none, none, none] [] h z _
  refine pe_aload_n d_Mo_put_0 rfl ?_
  refine pe_iload_n d_Mo_put_1 rfl ?_
  -- 2: Mo_shut
  refine pe_callV d_Mo_put_2 m_Mo_126 j_Mo_shut v_Mo_shut (c_Mo_shut hMo hnp hnb hOp _) rfl rfl (by simp [Value.category]) (by decide) hMo rfl rfl ?_
  intro v1 h1 z1 hq1
  obtain ⟨rfl, rfl, rfl⟩ := hq1
  change pz_E _ _ _ _ _ _ _ _ _ (_ :: _) _ _ _
  refine pe_if_ne (tgt := 17) d_Mo_put_5 (by decide) (fun c_5 => ?_) (fun c_5 => ?_)
  · have c_5 := pb_n0.mp c_5
    exact absurd c_5 (by rw [opn_a ha, hop]; decide)
  · have c_5 := pb_0.mp c_5
    refine pe_aload_n d_Mo_put_8 rfl ?_
    refine pe_getf d_Mo_put_9 f_Mo_13 hMo rfl ?_
    refine pe_iload_n d_Mo_put_12 rfl ?_
    refine pe_zaldN d_Mo_put_13 hIm (by omega) (by omega) ?_
    refine pe_if_ne (tgt := 19) d_Mo_put_14 (by decide) (fun c_14 => ?_) (fun c_14 => ?_)
    · have c_14 := pb_n0.mp c_14
      refine pe_aload_n d_Mo_put_19 rfl ?_
      refine pe_iload_n d_Mo_put_20 rfl ?_
      refine pe_iload_n d_Mo_put_21 rfl ?_
      -- 22: Mo_entryOf
      refine pe_callV d_Mo_put_22 m_Mo_151 j_Mo_entryOf v_Mo_entryOf (c_Mo_entryOf hMo hnp hnb hEn hKe (a := a) ha hen k) rfl rfl (by simp [Value.category]) (by decide) hMo rfl rfl ?_
      intro v1 h1 z1 hq1
      obtain ⟨rfl, rfl, rfl⟩ := hq1
      rw [Nat.sub_zero, if_neg hnf]
      change pz_E _ _ _ _ _ _ _ _ _ (.int (-1) :: _) _ _ _
      change pz_E _ _ _ _ _ _ _ _ _ (_ :: _) _ _ _
      refine pe_istore d_Mo_put_25 (by decide) rfl ?_
      dsimp only [List.set]
      refine pe_aload_n d_Mo_put_27 rfl ?_
      refine pe_getf d_Mo_put_28 f_Mo_96 hMo rfl ?_
      refine pe_iload_n d_Mo_put_31 rfl ?_
      refine pe_ialdN d_Mo_put_32 hEn (by omega) (by omega) ?_
      refine pe_istore d_Mo_put_33 (by decide) rfl ?_
      dsimp only [List.set]
      refine pe_iload d_Mo_put_35 rfl ?_
      refine pe_if_eq (tgt := 55) d_Mo_put_37 (by decide) (fun c_37 => ?_) (fun c_37 => ?_)
      · have c_37 := pb_0.mp c_37
        refine pe_iload d_Mo_put_55 rfl ?_
        refine pe_if_eq (tgt := 160) d_Mo_put_57 (by decide) (fun c_57 => ?_) (fun c_57 => ?_)
        · have c_57 := pb_0.mp c_57
          refine pe_iload d_Mo_put_160 rfl ?_
          refine pe_if_ge (tgt := 167) d_Mo_put_162 (by decide) (fun c_162 => ?_) (fun c_162 => ?_)
          · exact absurd c_162 (by decide)
          · refine pe_iconst (v := -1) d_Mo_put_165 (by decide) ?_
            refine pe_iret d_Mo_put_166 rfl ?_
            exact ⟨rfl, rfl, rfl⟩
        · have c_57 := pb_n0.mp c_57
          exact absurd c_57 (by decide)
      · have c_37 := pb_n0.mp c_37
        exact absurd c_37 (by decide)
    · have c_14 := pb_0.mp c_14
      exact absurd c_14 (by rw [hmp]; decide)
set_option maxHeartbeats 4000000 in
set_option maxRecDepth 20000 in
theorem c_Mo_put_full {l : Launch} {L : Nat} {xs : Nat → Int32} {h : pz_H} {z : Nat} {np nb now tkg lst flt byt : Nat} {sa sx : Int32} (hMo : MOB h np nb now tkg lst flt byt sa sx) (hnp : np ≤ 32) (hnb : nb ≤ 32) {Mop : Nat → Bool} (hOp : AB h 167 6 Mop) {Mmp : Nat → Bool} (hIm : AB h 168 6 Mmp) {Mfi : Nat → Int32} (hFi : AI h 169 6 Mfi) {Mlk : Nat → Int32} (hLi : AI h 170 6 Mlk) {Mho : Nat → Int32} (hHo : AI h 185 32 Mho) {Mwo : Nat → Int32} (hWo : AI h 186 256 Mwo) {Mda : Nat → Int32} (hDa : AI h 187 42 Mda) {Men : Nat → Nat} (hEn : AN h 188 6 Men) {Mke : Nat → Int32} (hKe : AI h 189 168 Mke) {Mva : Nat → Int32} (hVa : AI h 190 168 Mva) {a : Nat} (ha : a < 6) (hop : Mop a = true) (k u : Int32) (hmp : Mmp a = true) (hen : Men a ≤ 28) (hnf : ¬ ff (fun j => decide (Mke (a * 28 + j) = k)) (Men a) 0 < Men a) (h28 : Men a = 28) : pz_K l L xs M_Mo_put 2 0 0 [.ref 166, .int (nI a), .int k, .int u, .int (pb true)] h z (fun v h' z' => v = some (.int (-2)) ∧ h = h' ∧ z = z') := by
  refine pz_K.of rfl (Nat.le_of_ble_eq_true rfl) ?_
  change pz_E l L xs M_Mo_put 2 0 0 0 [some (.ref 166), some (.int (nI a)), some (.int k), some (.int u), some (.int (pb true)), none, none, none] [] h z _
  refine pe_aload_n d_Mo_put_0 rfl ?_
  refine pe_iload_n d_Mo_put_1 rfl ?_
  -- 2: Mo_shut
  refine pe_callV d_Mo_put_2 m_Mo_126 j_Mo_shut v_Mo_shut (c_Mo_shut hMo hnp hnb hOp _) rfl rfl (by simp [Value.category]) (by decide) hMo rfl rfl ?_
  intro v1 h1 z1 hq1
  obtain ⟨rfl, rfl, rfl⟩ := hq1
  change pz_E _ _ _ _ _ _ _ _ _ (_ :: _) _ _ _
  refine pe_if_ne (tgt := 17) d_Mo_put_5 (by decide) (fun c_5 => ?_) (fun c_5 => ?_)
  · have c_5 := pb_n0.mp c_5
    exact absurd c_5 (by rw [opn_a ha, hop]; decide)
  · have c_5 := pb_0.mp c_5
    refine pe_aload_n d_Mo_put_8 rfl ?_
    refine pe_getf d_Mo_put_9 f_Mo_13 hMo rfl ?_
    refine pe_iload_n d_Mo_put_12 rfl ?_
    refine pe_zaldN d_Mo_put_13 hIm (by omega) (by omega) ?_
    refine pe_if_ne (tgt := 19) d_Mo_put_14 (by decide) (fun c_14 => ?_) (fun c_14 => ?_)
    · have c_14 := pb_n0.mp c_14
      refine pe_aload_n d_Mo_put_19 rfl ?_
      refine pe_iload_n d_Mo_put_20 rfl ?_
      refine pe_iload_n d_Mo_put_21 rfl ?_
      -- 22: Mo_entryOf
      refine pe_callV d_Mo_put_22 m_Mo_151 j_Mo_entryOf v_Mo_entryOf (c_Mo_entryOf hMo hnp hnb hEn hKe (a := a) ha hen k) rfl rfl (by simp [Value.category]) (by decide) hMo rfl rfl ?_
      intro v1 h1 z1 hq1
      obtain ⟨rfl, rfl, rfl⟩ := hq1
      rw [Nat.sub_zero, if_neg hnf]
      change pz_E _ _ _ _ _ _ _ _ _ (.int (-1) :: _) _ _ _
      change pz_E _ _ _ _ _ _ _ _ _ (_ :: _) _ _ _
      refine pe_istore d_Mo_put_25 (by decide) rfl ?_
      dsimp only [List.set]
      refine pe_aload_n d_Mo_put_27 rfl ?_
      refine pe_getf d_Mo_put_28 f_Mo_96 hMo rfl ?_
      refine pe_iload_n d_Mo_put_31 rfl ?_
      refine pe_ialdN d_Mo_put_32 hEn (by omega) (by omega) ?_
      refine pe_istore d_Mo_put_33 (by decide) rfl ?_
      dsimp only [List.set]
      refine pe_iload d_Mo_put_35 rfl ?_
      refine pe_if_eq (tgt := 55) d_Mo_put_37 (by decide) (fun c_37 => ?_) (fun c_37 => ?_)
      · have c_37 := pb_0.mp c_37
        exact absurd c_37 (by decide)
      · have c_37 := pb_n0.mp c_37
        refine pe_iload d_Mo_put_40 rfl ?_
        refine pe_if_lt (tgt := 55) d_Mo_put_42 (by decide) (fun c_42 => ?_) (fun c_42 => ?_)
        · refine pe_iload d_Mo_put_55 rfl ?_
          refine pe_if_eq (tgt := 160) d_Mo_put_57 (by decide) (fun c_57 => ?_) (fun c_57 => ?_)
          · have c_57 := pb_0.mp c_57
            exact absurd c_57 (by decide)
          · have c_57 := pb_n0.mp c_57
            refine pe_iload d_Mo_put_60 rfl ?_
            refine pe_iconst (v := nI 4) d_Mo_put_62 (by decide) ?_
            refine pe_iremN d_Mo_put_63 (by omega) (by omega) (by omega) ?_
            refine pe_if_ne (tgt := 74) d_Mo_put_64 (by decide) (fun c_64 => ?_) (fun c_64 => ?_)
            · exact absurd (by rw [h28]; rfl) c_64
            · refine pe_aload_n d_Mo_put_67 rfl ?_
              -- 68: Mo_freeBlock
              refine pe_callV d_Mo_put_68 m_Mo_118 j_Mo_freeBlock v_Mo_freeBlock (c_Mo_freeBlock hMo hnp hnb hHo ) rfl rfl (by simp [Value.category]) (by decide) hMo rfl rfl ?_
              intro v1 h1 z1 hq1
              obtain ⟨rfl, rfl, rfl⟩ := hq1
              rw [Nat.sub_zero]
              change pz_E _ _ _ _ _ _ _ _ _ (_ :: _) _ _ _
              refine pe_goto (tgt := 75) d_Mo_put_71 (by decide) ?_
              refine pe_istore d_Mo_put_75 (by decide) rfl ?_
              dsimp only [List.set]
              refine pe_iload d_Mo_put_77 rfl ?_
              refine pe_bipush (v := nI 28) d_Mo_put_79 (by decide) ?_
              refine pe_icmpN_eq (tgt := 89) d_Mo_put_81 (by decide) (by omega) (by omega) (fun c_81 => ?_) (fun c_81 => ?_)
              · refine pe_bipush (v := -2) d_Mo_put_89 (by decide) ?_
                refine pe_iret d_Mo_put_91 rfl ?_
                exact ⟨rfl, rfl, rfl⟩
              · exact absurd h28 c_81
        · exact absurd (by decide) c_42
    · have c_14 := pb_0.mp c_14
      exact absurd c_14 (by rw [hmp]; decide)
set_option maxHeartbeats 4000000 in
set_option maxRecDepth 20000 in
theorem c_Mo_put_none {l : Launch} {L : Nat} {xs : Nat → Int32} {h : pz_H} {z : Nat} {np nb now tkg lst flt byt : Nat} {sa sx : Int32} (hMo : MOB h np nb now tkg lst flt byt sa sx) (hnp : np ≤ 32) (hnb : nb ≤ 32) {Mop : Nat → Bool} (hOp : AB h 167 6 Mop) {Mmp : Nat → Bool} (hIm : AB h 168 6 Mmp) {Mfi : Nat → Int32} (hFi : AI h 169 6 Mfi) {Mlk : Nat → Int32} (hLi : AI h 170 6 Mlk) {Mho : Nat → Int32} (hHo : AI h 185 32 Mho) {Mwo : Nat → Int32} (hWo : AI h 186 256 Mwo) {Mda : Nat → Int32} (hDa : AI h 187 42 Mda) {Men : Nat → Nat} (hEn : AN h 188 6 Men) {Mke : Nat → Int32} (hKe : AI h 189 168 Mke) {Mva : Nat → Int32} (hVa : AI h 190 168 Mva) {a : Nat} (ha : a < 6) (hop : Mop a = true) (k u : Int32) (hmp : Mmp a = true) (hen : Men a ≤ 28) (hnf : ¬ ff (fun j => decide (Mke (a * 28 + j) = k)) (Men a) 0 < Men a) (h28 : Men a < 28) (h4 : Men a % 4 = 0) (hfull : ¬ ff (fun j => !decide (0 ≤ Mho j)) nb 0 < nb) : pz_K l L xs M_Mo_put 2 0 0 [.ref 166, .int (nI a), .int k, .int u, .int (pb true)] h z (fun v h' z' => v = some (.int (-2)) ∧ h = h' ∧ z = z') := by
  refine pz_K.of rfl (Nat.le_of_ble_eq_true rfl) ?_
  change pz_E l L xs M_Mo_put 2 0 0 0 [some (.ref 166), some (.int (nI a)), some (.int k), some (.int u), some (.int (pb true)), none, none, none] [] h z _
  refine pe_aload_n d_Mo_put_0 rfl ?_
  refine pe_iload_n d_Mo_put_1 rfl ?_
  -- 2: Mo_shut
  refine pe_callV d_Mo_put_2 m_Mo_126 j_Mo_shut v_Mo_shut (c_Mo_shut hMo hnp hnb hOp _) rfl rfl (by simp [Value.category]) (by decide) hMo rfl rfl ?_
  intro v1 h1 z1 hq1
  obtain ⟨rfl, rfl, rfl⟩ := hq1
  change pz_E _ _ _ _ _ _ _ _ _ (_ :: _) _ _ _
  refine pe_if_ne (tgt := 17) d_Mo_put_5 (by decide) (fun c_5 => ?_) (fun c_5 => ?_)
  · have c_5 := pb_n0.mp c_5
    exact absurd c_5 (by rw [opn_a ha, hop]; decide)
  · have c_5 := pb_0.mp c_5
    refine pe_aload_n d_Mo_put_8 rfl ?_
    refine pe_getf d_Mo_put_9 f_Mo_13 hMo rfl ?_
    refine pe_iload_n d_Mo_put_12 rfl ?_
    refine pe_zaldN d_Mo_put_13 hIm (by omega) (by omega) ?_
    refine pe_if_ne (tgt := 19) d_Mo_put_14 (by decide) (fun c_14 => ?_) (fun c_14 => ?_)
    · have c_14 := pb_n0.mp c_14
      refine pe_aload_n d_Mo_put_19 rfl ?_
      refine pe_iload_n d_Mo_put_20 rfl ?_
      refine pe_iload_n d_Mo_put_21 rfl ?_
      -- 22: Mo_entryOf
      refine pe_callV d_Mo_put_22 m_Mo_151 j_Mo_entryOf v_Mo_entryOf (c_Mo_entryOf hMo hnp hnb hEn hKe (a := a) ha hen k) rfl rfl (by simp [Value.category]) (by decide) hMo rfl rfl ?_
      intro v1 h1 z1 hq1
      obtain ⟨rfl, rfl, rfl⟩ := hq1
      rw [Nat.sub_zero, if_neg hnf]
      change pz_E _ _ _ _ _ _ _ _ _ (.int (-1) :: _) _ _ _
      change pz_E _ _ _ _ _ _ _ _ _ (_ :: _) _ _ _
      refine pe_istore d_Mo_put_25 (by decide) rfl ?_
      dsimp only [List.set]
      refine pe_aload_n d_Mo_put_27 rfl ?_
      refine pe_getf d_Mo_put_28 f_Mo_96 hMo rfl ?_
      refine pe_iload_n d_Mo_put_31 rfl ?_
      refine pe_ialdN d_Mo_put_32 hEn (by omega) (by omega) ?_
      refine pe_istore d_Mo_put_33 (by decide) rfl ?_
      dsimp only [List.set]
      refine pe_iload d_Mo_put_35 rfl ?_
      refine pe_if_eq (tgt := 55) d_Mo_put_37 (by decide) (fun c_37 => ?_) (fun c_37 => ?_)
      · have c_37 := pb_0.mp c_37
        exact absurd c_37 (by decide)
      · have c_37 := pb_n0.mp c_37
        refine pe_iload d_Mo_put_40 rfl ?_
        refine pe_if_lt (tgt := 55) d_Mo_put_42 (by decide) (fun c_42 => ?_) (fun c_42 => ?_)
        · refine pe_iload d_Mo_put_55 rfl ?_
          refine pe_if_eq (tgt := 160) d_Mo_put_57 (by decide) (fun c_57 => ?_) (fun c_57 => ?_)
          · have c_57 := pb_0.mp c_57
            exact absurd c_57 (by decide)
          · have c_57 := pb_n0.mp c_57
            refine pe_iload d_Mo_put_60 rfl ?_
            refine pe_iconst (v := nI 4) d_Mo_put_62 (by decide) ?_
            refine pe_iremN d_Mo_put_63 (by omega) (by omega) (by omega) ?_
            refine pe_if_ne (tgt := 74) d_Mo_put_64 (by decide) (fun c_64 => ?_) (fun c_64 => ?_)
            · exact absurd (by rw [h4]; rfl) c_64
            · refine pe_aload_n d_Mo_put_67 rfl ?_
              -- 68: Mo_freeBlock
              refine pe_callV d_Mo_put_68 m_Mo_118 j_Mo_freeBlock v_Mo_freeBlock (c_Mo_freeBlock hMo hnp hnb hHo ) rfl rfl (by simp [Value.category]) (by decide) hMo rfl rfl ?_
              intro v1 h1 z1 hq1
              obtain ⟨rfl, rfl, rfl⟩ := hq1
              rw [Nat.sub_zero]
              rw [orm_ge hfull]
              change pz_E _ _ _ _ _ _ _ _ _ (_ :: _) _ _ _
              refine pe_goto (tgt := 75) d_Mo_put_71 (by decide) ?_
              refine pe_istore d_Mo_put_75 (by decide) rfl ?_
              dsimp only [List.set]
              refine pe_iload d_Mo_put_77 rfl ?_
              refine pe_bipush (v := nI 28) d_Mo_put_79 (by decide) ?_
              refine pe_icmpN_eq (tgt := 89) d_Mo_put_81 (by decide) (by omega) (by omega) (fun c_81 => ?_) (fun c_81 => ?_)
              · exfalso; omega
              · refine pe_iload d_Mo_put_84 rfl ?_
                refine pe_if_ge (tgt := 92) d_Mo_put_86 (by decide) (fun c_86 => ?_) (fun c_86 => ?_)
                · exact absurd c_86 (by decide)
                · refine pe_bipush (v := -2) d_Mo_put_89 (by decide) ?_
                  refine pe_iret d_Mo_put_91 rfl ?_
                  exact ⟨rfl, rfl, rfl⟩
        · exact absurd (by decide) c_42
    · have c_14 := pb_0.mp c_14
      exact absurd c_14 (by rw [hmp]; decide)
set_option maxHeartbeats 4000000 in
set_option maxRecDepth 20000 in
theorem c_Mo_put_in {l : Launch} {L : Nat} {xs : Nat → Int32} {h : pz_H} {z : Nat} {np nb now tkg lst flt byt : Nat} {sa sx : Int32} (hMo : MOB h np nb now tkg lst flt byt sa sx) (hnp : np ≤ 32) (hnb : nb ≤ 32) {Mop : Nat → Bool} (hOp : AB h 167 6 Mop) {Mmp : Nat → Bool} (hIm : AB h 168 6 Mmp) {Mfi : Nat → Int32} (hFi : AI h 169 6 Mfi) {Mlk : Nat → Int32} (hLi : AI h 170 6 Mlk) {Mho : Nat → Int32} (hHo : AI h 185 32 Mho) {Mwo : Nat → Int32} (hWo : AI h 186 256 Mwo) {Mda : Nat → Int32} (hDa : AI h 187 42 Mda) {Men : Nat → Nat} (hEn : AN h 188 6 Men) {Mke : Nat → Int32} (hKe : AI h 189 168 Mke) {Mva : Nat → Int32} (hVa : AI h 190 168 Mva) {a : Nat} (ha : a < 6) (hop : Mop a = true) (k u : Int32) (hmp : Mmp a = true) (hen : Men a ≤ 28) (hnf : ¬ ff (fun j => decide (Mke (a * 28 + j) = k)) (Men a) 0 < Men a) (h28 : Men a < 28) (h4 : ¬ Men a % 4 = 0) : pz_K l L xs M_Mo_put 2 0 0 [.ref 166, .int (nI a), .int k, .int u, .int (pb true)] h z (fun v' h' z' => v' = some (.int (nI 0)) ∧ z = z' ∧ AN h' 188 6 (va_up Men a (Men a + 1)) ∧ AI h' 189 168 (upd Mke (a * 28 + Men a) k) ∧ AI h' 190 168 (upd Mva (a * 28 + Men a) u) ∧ frx [188, 189, 190] h h') := by
  refine pz_K.of rfl (Nat.le_of_ble_eq_true rfl) ?_
  have hf : frx [188, 189, 190] h h := frx.rf
  change pz_E l L xs M_Mo_put 2 0 0 0 [some (.ref 166), some (.int (nI a)), some (.int k), some (.int u), some (.int (pb true)), none, none, none] [] h z _
  refine pe_aload_n d_Mo_put_0 rfl ?_
  refine pe_iload_n d_Mo_put_1 rfl ?_
  -- 2: Mo_shut
  refine pe_callV d_Mo_put_2 m_Mo_126 j_Mo_shut v_Mo_shut (c_Mo_shut hMo hnp hnb hOp _) rfl rfl (by simp [Value.category]) (by decide) hMo rfl rfl ?_
  intro v1 h1 z1 hq1
  obtain ⟨rfl, rfl, rfl⟩ := hq1
  change pz_E _ _ _ _ _ _ _ _ _ (_ :: _) _ _ _
  refine pe_if_ne (tgt := 17) d_Mo_put_5 (by decide) (fun c_5 => ?_) (fun c_5 => ?_)
  · have c_5 := pb_n0.mp c_5
    exact absurd c_5 (by rw [opn_a ha, hop]; decide)
  · have c_5 := pb_0.mp c_5
    refine pe_aload_n d_Mo_put_8 rfl ?_
    refine pe_getf d_Mo_put_9 f_Mo_13 hMo rfl ?_
    refine pe_iload_n d_Mo_put_12 rfl ?_
    refine pe_zaldN d_Mo_put_13 hIm (by omega) (by omega) ?_
    refine pe_if_ne (tgt := 19) d_Mo_put_14 (by decide) (fun c_14 => ?_) (fun c_14 => ?_)
    · have c_14 := pb_n0.mp c_14
      refine pe_aload_n d_Mo_put_19 rfl ?_
      refine pe_iload_n d_Mo_put_20 rfl ?_
      refine pe_iload_n d_Mo_put_21 rfl ?_
      -- 22: Mo_entryOf
      refine pe_callV d_Mo_put_22 m_Mo_151 j_Mo_entryOf v_Mo_entryOf (c_Mo_entryOf hMo hnp hnb hEn hKe (a := a) ha hen k) rfl rfl (by simp [Value.category]) (by decide) hMo rfl rfl ?_
      intro v1 h1 z1 hq1
      obtain ⟨rfl, rfl, rfl⟩ := hq1
      rw [Nat.sub_zero, if_neg hnf]
      change pz_E _ _ _ _ _ _ _ _ _ (.int (-1) :: _) _ _ _
      change pz_E _ _ _ _ _ _ _ _ _ (_ :: _) _ _ _
      refine pe_istore d_Mo_put_25 (by decide) rfl ?_
      dsimp only [List.set]
      refine pe_aload_n d_Mo_put_27 rfl ?_
      refine pe_getf d_Mo_put_28 f_Mo_96 hMo rfl ?_
      refine pe_iload_n d_Mo_put_31 rfl ?_
      refine pe_ialdN d_Mo_put_32 hEn (by omega) (by omega) ?_
      refine pe_istore d_Mo_put_33 (by decide) rfl ?_
      dsimp only [List.set]
      refine pe_iload d_Mo_put_35 rfl ?_
      refine pe_if_eq (tgt := 55) d_Mo_put_37 (by decide) (fun c_37 => ?_) (fun c_37 => ?_)
      · have c_37 := pb_0.mp c_37
        exact absurd c_37 (by decide)
      · have c_37 := pb_n0.mp c_37
        refine pe_iload d_Mo_put_40 rfl ?_
        refine pe_if_lt (tgt := 55) d_Mo_put_42 (by decide) (fun c_42 => ?_) (fun c_42 => ?_)
        · refine pe_iload d_Mo_put_55 rfl ?_
          refine pe_if_eq (tgt := 160) d_Mo_put_57 (by decide) (fun c_57 => ?_) (fun c_57 => ?_)
          · have c_57 := pb_0.mp c_57
            exact absurd c_57 (by decide)
          · have c_57 := pb_n0.mp c_57
            refine pe_iload d_Mo_put_60 rfl ?_
            refine pe_iconst (v := nI 4) d_Mo_put_62 (by decide) ?_
            refine pe_iremN d_Mo_put_63 (by omega) (by omega) (by omega) ?_
            refine pe_if_ne (tgt := 74) d_Mo_put_64 (by decide) (fun c_64 => ?_) (fun c_64 => ?_)
            · refine pe_iconst (v := nI 0) d_Mo_put_74 (by decide) ?_
              refine pe_istore d_Mo_put_75 (by decide) rfl ?_
              dsimp only [List.set]
              refine pe_iload d_Mo_put_77 rfl ?_
              refine pe_bipush (v := nI 28) d_Mo_put_79 (by decide) ?_
              refine pe_icmpN_eq (tgt := 89) d_Mo_put_81 (by decide) (by omega) (by omega) (fun c_81 => ?_) (fun c_81 => ?_)
              · exfalso; omega
              · refine pe_iload d_Mo_put_84 rfl ?_
                refine pe_if_ge (tgt := 92) d_Mo_put_86 (by decide) (fun c_86 => ?_) (fun c_86 => ?_)
                · refine pe_iload d_Mo_put_92 rfl ?_
                  refine pe_iconst (v := nI 4) d_Mo_put_94 (by decide) ?_
                  refine pe_iremN d_Mo_put_95 (by omega) (by omega) (by omega) ?_
                  refine pe_if_ne (tgt := 122) d_Mo_put_96 (by decide) (fun c_96 => ?_) (fun c_96 => ?_)
                  · refine pe_aload_n d_Mo_put_122 rfl ?_
                    refine pe_getf d_Mo_put_123 f_Mo_99 hMo rfl ?_
                    refine pe_iload_n d_Mo_put_126 rfl ?_
                    refine pe_bipush (v := nI 28) d_Mo_put_127 (by decide) ?_
                    refine pe_imulN d_Mo_put_129 ?_
                    refine pe_iload d_Mo_put_130 rfl ?_
                    refine pe_iaddN d_Mo_put_132 ?_
                    refine pe_iload_n d_Mo_put_133 rfl ?_
                    refine pe_iastN d_Mo_put_134 hKe (by omega) (by omega) ?_
                    refine pe_pu (fun h2 e2 o2 => ?_)
                    have hMo := (o2 (166) (by omega)).trans hMo
                    have hOp := (o2 (167) (by omega)).trans hOp
                    have hIm := (o2 (168) (by omega)).trans hIm
                    have hFi := (o2 (169) (by omega)).trans hFi
                    have hLi := (o2 (170) (by omega)).trans hLi
                    have hHo := (o2 (185) (by omega)).trans hHo
                    have hWo := (o2 (186) (by omega)).trans hWo
                    have hDa := (o2 (187) (by omega)).trans hDa
                    have hEn := (o2 (188) (by omega)).trans hEn
                    have hKe := e2
                    have hVa := (o2 (190) (by omega)).trans hVa
                    have hf := hf.st o2 (by decide)
                    refine pe_aload_n d_Mo_put_135 rfl ?_
                    refine pe_getf d_Mo_put_136 f_Mo_102 hMo rfl ?_
                    refine pe_iload_n d_Mo_put_139 rfl ?_
                    refine pe_bipush (v := nI 28) d_Mo_put_140 (by decide) ?_
                    refine pe_imulN d_Mo_put_142 ?_
                    refine pe_iload d_Mo_put_143 rfl ?_
                    refine pe_iaddN d_Mo_put_145 ?_
                    refine pe_iload_n d_Mo_put_146 rfl ?_
                    refine pe_iastN d_Mo_put_147 hVa (by omega) (by omega) ?_
                    refine pe_pu (fun h2 e2 o2 => ?_)
                    have hMo := (o2 (166) (by omega)).trans hMo
                    have hOp := (o2 (167) (by omega)).trans hOp
                    have hIm := (o2 (168) (by omega)).trans hIm
                    have hFi := (o2 (169) (by omega)).trans hFi
                    have hLi := (o2 (170) (by omega)).trans hLi
                    have hHo := (o2 (185) (by omega)).trans hHo
                    have hWo := (o2 (186) (by omega)).trans hWo
                    have hDa := (o2 (187) (by omega)).trans hDa
                    have hEn := (o2 (188) (by omega)).trans hEn
                    have hKe := (o2 (189) (by omega)).trans hKe
                    have hVa := e2
                    have hf := hf.st o2 (by decide)
                    refine pe_aload_n d_Mo_put_148 rfl ?_
                    refine pe_getf d_Mo_put_149 f_Mo_96 hMo rfl ?_
                    refine pe_iload_n d_Mo_put_152 rfl ?_
                    refine pe_dup2 d_Mo_put_153 rfl rfl ?_
                    refine pe_ialdN d_Mo_put_154 hEn (by omega) (by omega) ?_
                    refine pe_iconst (v := nI 1) d_Mo_put_155 (by decide) ?_
                    refine pe_iaddN d_Mo_put_156 ?_
                    refine pe_iastN d_Mo_put_157 hEn (by omega) (by omega) ?_
                    rw [upn]
                    refine pe_pu (fun h2 e2 o2 => ?_)
                    have hMo := (o2 (166) (by omega)).trans hMo
                    have hOp := (o2 (167) (by omega)).trans hOp
                    have hIm := (o2 (168) (by omega)).trans hIm
                    have hFi := (o2 (169) (by omega)).trans hFi
                    have hLi := (o2 (170) (by omega)).trans hLi
                    have hHo := (o2 (185) (by omega)).trans hHo
                    have hWo := (o2 (186) (by omega)).trans hWo
                    have hDa := (o2 (187) (by omega)).trans hDa
                    have hEn := e2
                    have hKe := (o2 (189) (by omega)).trans hKe
                    have hVa := (o2 (190) (by omega)).trans hVa
                    have hf := hf.st o2 (by decide)
                    refine pe_iconst (v := nI 0) d_Mo_put_158 (by decide) ?_
                    refine pe_iret d_Mo_put_159 rfl ?_
                    exact ⟨rfl, rfl, hEn, hKe, hVa, hf⟩
                  · exact absurd (nI_inj (a := Men a % 4) (b := 0) (by omega) (by omega) c_96) h4
                · exact absurd (by decide) c_86
            · exact absurd (nI_inj (a := Men a % 4) (b := 0) (by omega) (by omega) c_64) h4
        · exact absurd (by decide) c_42
    · have c_14 := pb_0.mp c_14
      exact absurd c_14 (by rw [hmp]; decide)
set_option maxHeartbeats 4000000 in
set_option maxRecDepth 20000 in
theorem c_Mo_put_new {l : Launch} {L : Nat} {xs : Nat → Int32} {h : pz_H} {z : Nat} {np nb now tkg lst flt byt : Nat} {sa sx : Int32} (hMo : MOB h np nb now tkg lst flt byt sa sx) (hnp : np ≤ 32) (hnb : nb ≤ 32) {Mop : Nat → Bool} (hOp : AB h 167 6 Mop) {Mmp : Nat → Bool} (hIm : AB h 168 6 Mmp) {Mfi : Nat → Int32} (hFi : AI h 169 6 Mfi) {Mlk : Nat → Int32} (hLi : AI h 170 6 Mlk) {Mho : Nat → Int32} (hHo : AI h 185 32 Mho) {Mwo : Nat → Int32} (hWo : AI h 186 256 Mwo) {Mda : Nat → Int32} (hDa : AI h 187 42 Mda) {Men : Nat → Nat} (hEn : AN h 188 6 Men) {Mke : Nat → Int32} (hKe : AI h 189 168 Mke) {Mva : Nat → Int32} (hVa : AI h 190 168 Mva) {a : Nat} (ha : a < 6) (hop : Mop a = true) (k u : Int32) (hmp : Mmp a = true) (hen : Men a ≤ 28) (hnf : ¬ ff (fun j => decide (Mke (a * 28 + j) = k)) (Men a) 0 < Men a) (h28 : Men a < 28) (h4 : Men a % 4 = 0) {bb : Nat} (hbe : bb = ff (fun j => !decide (0 ≤ Mho j)) nb 0) (hb : bb < nb) : pz_K l L xs M_Mo_put 2 0 0 [.ref 166, .int (nI a), .int k, .int u, .int (pb true)] h z (fun v' h' z' => v' = some (.int (nI 0)) ∧ z = z' ∧ AI h' 185 32 (upd Mho bb (nI a)) ∧ AI h' 186 256 (fil Mwo (lkw bb 0 0) (bb * 8) 8) ∧ AI h' 187 42 (upd Mda (a * 7 + Men a / 4) (nI bb)) ∧ AN h' 188 6 (va_up Men a (Men a + 1)) ∧ AI h' 189 168 (upd Mke (a * 28 + Men a) k) ∧ AI h' 190 168 (upd Mva (a * 28 + Men a) u) ∧ frx [185, 186, 187, 188, 189, 190] h h') := by
  refine pz_K.of rfl (Nat.le_of_ble_eq_true rfl) ?_
  have hf : frx [185, 186, 187, 188, 189, 190] h h := frx.rf
  change pz_E l L xs M_Mo_put 2 0 0 0 [some (.ref 166), some (.int (nI a)), some (.int k), some (.int u), some (.int (pb true)), none, none, none] [] h z _
  refine pe_aload_n d_Mo_put_0 rfl ?_
  refine pe_iload_n d_Mo_put_1 rfl ?_
  -- 2: Mo_shut
  refine pe_callV d_Mo_put_2 m_Mo_126 j_Mo_shut v_Mo_shut (c_Mo_shut hMo hnp hnb hOp _) rfl rfl (by simp [Value.category]) (by decide) hMo rfl rfl ?_
  intro v1 h1 z1 hq1
  obtain ⟨rfl, rfl, rfl⟩ := hq1
  change pz_E _ _ _ _ _ _ _ _ _ (_ :: _) _ _ _
  refine pe_if_ne (tgt := 17) d_Mo_put_5 (by decide) (fun c_5 => ?_) (fun c_5 => ?_)
  · have c_5 := pb_n0.mp c_5
    exact absurd c_5 (by rw [opn_a ha, hop]; decide)
  · have c_5 := pb_0.mp c_5
    refine pe_aload_n d_Mo_put_8 rfl ?_
    refine pe_getf d_Mo_put_9 f_Mo_13 hMo rfl ?_
    refine pe_iload_n d_Mo_put_12 rfl ?_
    refine pe_zaldN d_Mo_put_13 hIm (by omega) (by omega) ?_
    refine pe_if_ne (tgt := 19) d_Mo_put_14 (by decide) (fun c_14 => ?_) (fun c_14 => ?_)
    · have c_14 := pb_n0.mp c_14
      refine pe_aload_n d_Mo_put_19 rfl ?_
      refine pe_iload_n d_Mo_put_20 rfl ?_
      refine pe_iload_n d_Mo_put_21 rfl ?_
      -- 22: Mo_entryOf
      refine pe_callV d_Mo_put_22 m_Mo_151 j_Mo_entryOf v_Mo_entryOf (c_Mo_entryOf hMo hnp hnb hEn hKe (a := a) ha hen k) rfl rfl (by simp [Value.category]) (by decide) hMo rfl rfl ?_
      intro v1 h1 z1 hq1
      obtain ⟨rfl, rfl, rfl⟩ := hq1
      rw [Nat.sub_zero, if_neg hnf]
      change pz_E _ _ _ _ _ _ _ _ _ (.int (-1) :: _) _ _ _
      change pz_E _ _ _ _ _ _ _ _ _ (_ :: _) _ _ _
      refine pe_istore d_Mo_put_25 (by decide) rfl ?_
      dsimp only [List.set]
      refine pe_aload_n d_Mo_put_27 rfl ?_
      refine pe_getf d_Mo_put_28 f_Mo_96 hMo rfl ?_
      refine pe_iload_n d_Mo_put_31 rfl ?_
      refine pe_ialdN d_Mo_put_32 hEn (by omega) (by omega) ?_
      refine pe_istore d_Mo_put_33 (by decide) rfl ?_
      dsimp only [List.set]
      refine pe_iload d_Mo_put_35 rfl ?_
      refine pe_if_eq (tgt := 55) d_Mo_put_37 (by decide) (fun c_37 => ?_) (fun c_37 => ?_)
      · have c_37 := pb_0.mp c_37
        exact absurd c_37 (by decide)
      · have c_37 := pb_n0.mp c_37
        refine pe_iload d_Mo_put_40 rfl ?_
        refine pe_if_lt (tgt := 55) d_Mo_put_42 (by decide) (fun c_42 => ?_) (fun c_42 => ?_)
        · refine pe_iload d_Mo_put_55 rfl ?_
          refine pe_if_eq (tgt := 160) d_Mo_put_57 (by decide) (fun c_57 => ?_) (fun c_57 => ?_)
          · have c_57 := pb_0.mp c_57
            exact absurd c_57 (by decide)
          · have c_57 := pb_n0.mp c_57
            refine pe_iload d_Mo_put_60 rfl ?_
            refine pe_iconst (v := nI 4) d_Mo_put_62 (by decide) ?_
            refine pe_iremN d_Mo_put_63 (by omega) (by omega) (by omega) ?_
            refine pe_if_ne (tgt := 74) d_Mo_put_64 (by decide) (fun c_64 => ?_) (fun c_64 => ?_)
            · exact absurd (by rw [h4]; rfl) c_64
            · refine pe_aload_n d_Mo_put_67 rfl ?_
              -- 68: Mo_freeBlock
              refine pe_callV d_Mo_put_68 m_Mo_118 j_Mo_freeBlock v_Mo_freeBlock (c_Mo_freeBlock hMo hnp hnb hHo ) rfl rfl (by simp [Value.category]) (by decide) hMo rfl rfl ?_
              intro v1 h1 z1 hq1
              obtain ⟨rfl, rfl, rfl⟩ := hq1
              rw [Nat.sub_zero]
              rw [← hbe, orm_lt hb]
              change pz_E _ _ _ _ _ _ _ _ _ (_ :: _) _ _ _
              refine pe_goto (tgt := 75) d_Mo_put_71 (by decide) ?_
              refine pe_istore d_Mo_put_75 (by decide) rfl ?_
              dsimp only [List.set]
              refine pe_iload d_Mo_put_77 rfl ?_
              refine pe_bipush (v := nI 28) d_Mo_put_79 (by decide) ?_
              refine pe_icmpN_eq (tgt := 89) d_Mo_put_81 (by decide) (by omega) (by omega) (fun c_81 => ?_) (fun c_81 => ?_)
              · exfalso; omega
              · refine pe_iload d_Mo_put_84 rfl ?_
                refine pe_if_ge (tgt := 92) d_Mo_put_86 (by decide) (fun c_86 => ?_) (fun c_86 => ?_)
                · refine pe_iload d_Mo_put_92 rfl ?_
                  refine pe_iconst (v := nI 4) d_Mo_put_94 (by decide) ?_
                  refine pe_iremN d_Mo_put_95 (by omega) (by omega) (by omega) ?_
                  refine pe_if_ne (tgt := 122) d_Mo_put_96 (by decide) (fun c_96 => ?_) (fun c_96 => ?_)
                  · exact absurd (by rw [h4]; rfl) c_96
                  · refine pe_aload_n d_Mo_put_99 rfl ?_
                    refine pe_iload_n d_Mo_put_100 rfl ?_
                    refine pe_iload d_Mo_put_101 rfl ?_
                    -- 103: Mo_renew
                    refine pe_callV d_Mo_put_103 m_Mo_122 j_Mo_renew v_Mo_renew (c_Mo_renew_map hMo hnp hnb hIm hFi hLi hHo hWo (a := a) (b := bb) ha (by omega) hmp) rfl rfl (by simp [Value.category]) (by decide) hMo rfl rfl ?_
                    intro v1 h1 z1 hq1
                    obtain ⟨rfl, rfl, hHo, hWo, hf1⟩ := hq1
                    have hMo := MOB.mv hMo (hf1 166 (by decide))
                    have hOp := (hf1 167 (by decide)).trans hOp
                    have hIm := (hf1 168 (by decide)).trans hIm
                    have hFi := (hf1 169 (by decide)).trans hFi
                    have hLi := (hf1 170 (by decide)).trans hLi
                    have hDa := (hf1 187 (by decide)).trans hDa
                    have hEn := (hf1 188 (by decide)).trans hEn
                    have hKe := (hf1 189 (by decide)).trans hKe
                    have hVa := (hf1 190 (by decide)).trans hVa
                    have hf := hf.tr (hf1.wd (by decide))
                    change pz_E _ _ _ _ _ _ _ _ _ _ _ _ _
                    refine pe_aload_n d_Mo_put_106 rfl ?_
                    refine pe_getf d_Mo_put_107 f_Mo_93 hMo rfl ?_
                    refine pe_iload_n d_Mo_put_110 rfl ?_
                    refine pe_bipush (v := nI 7) d_Mo_put_111 (by decide) ?_
                    refine pe_imulN d_Mo_put_113 ?_
                    refine pe_iload d_Mo_put_114 rfl ?_
                    refine pe_iconst (v := nI 4) d_Mo_put_116 (by decide) ?_
                    refine pe_idivN d_Mo_put_117 (by omega) (by omega) (by omega) ?_
                    refine pe_iaddN d_Mo_put_118 ?_
                    refine pe_iload d_Mo_put_119 rfl ?_
                    refine pe_iastN d_Mo_put_121 hDa (by omega) (by omega) ?_
                    refine pe_pu (fun h2 e2 o2 => ?_)
                    have hMo := (o2 (166) (by omega)).trans hMo
                    have hOp := (o2 (167) (by omega)).trans hOp
                    have hIm := (o2 (168) (by omega)).trans hIm
                    have hFi := (o2 (169) (by omega)).trans hFi
                    have hLi := (o2 (170) (by omega)).trans hLi
                    have hHo := (o2 (185) (by omega)).trans hHo
                    have hWo := (o2 (186) (by omega)).trans hWo
                    have hDa := e2
                    have hEn := (o2 (188) (by omega)).trans hEn
                    have hKe := (o2 (189) (by omega)).trans hKe
                    have hVa := (o2 (190) (by omega)).trans hVa
                    have hf := hf.st o2 (by decide)
                    refine pe_aload_n d_Mo_put_122 rfl ?_
                    refine pe_getf d_Mo_put_123 f_Mo_99 hMo rfl ?_
                    refine pe_iload_n d_Mo_put_126 rfl ?_
                    refine pe_bipush (v := nI 28) d_Mo_put_127 (by decide) ?_
                    refine pe_imulN d_Mo_put_129 ?_
                    refine pe_iload d_Mo_put_130 rfl ?_
                    refine pe_iaddN d_Mo_put_132 ?_
                    refine pe_iload_n d_Mo_put_133 rfl ?_
                    refine pe_iastN d_Mo_put_134 hKe (by omega) (by omega) ?_
                    refine pe_pu (fun h2 e2 o2 => ?_)
                    have hMo := (o2 (166) (by omega)).trans hMo
                    have hOp := (o2 (167) (by omega)).trans hOp
                    have hIm := (o2 (168) (by omega)).trans hIm
                    have hFi := (o2 (169) (by omega)).trans hFi
                    have hLi := (o2 (170) (by omega)).trans hLi
                    have hHo := (o2 (185) (by omega)).trans hHo
                    have hWo := (o2 (186) (by omega)).trans hWo
                    have hDa := (o2 (187) (by omega)).trans hDa
                    have hEn := (o2 (188) (by omega)).trans hEn
                    have hKe := e2
                    have hVa := (o2 (190) (by omega)).trans hVa
                    have hf := hf.st o2 (by decide)
                    refine pe_aload_n d_Mo_put_135 rfl ?_
                    refine pe_getf d_Mo_put_136 f_Mo_102 hMo rfl ?_
                    refine pe_iload_n d_Mo_put_139 rfl ?_
                    refine pe_bipush (v := nI 28) d_Mo_put_140 (by decide) ?_
                    refine pe_imulN d_Mo_put_142 ?_
                    refine pe_iload d_Mo_put_143 rfl ?_
                    refine pe_iaddN d_Mo_put_145 ?_
                    refine pe_iload_n d_Mo_put_146 rfl ?_
                    refine pe_iastN d_Mo_put_147 hVa (by omega) (by omega) ?_
                    refine pe_pu (fun h2 e2 o2 => ?_)
                    have hMo := (o2 (166) (by omega)).trans hMo
                    have hOp := (o2 (167) (by omega)).trans hOp
                    have hIm := (o2 (168) (by omega)).trans hIm
                    have hFi := (o2 (169) (by omega)).trans hFi
                    have hLi := (o2 (170) (by omega)).trans hLi
                    have hHo := (o2 (185) (by omega)).trans hHo
                    have hWo := (o2 (186) (by omega)).trans hWo
                    have hDa := (o2 (187) (by omega)).trans hDa
                    have hEn := (o2 (188) (by omega)).trans hEn
                    have hKe := (o2 (189) (by omega)).trans hKe
                    have hVa := e2
                    have hf := hf.st o2 (by decide)
                    refine pe_aload_n d_Mo_put_148 rfl ?_
                    refine pe_getf d_Mo_put_149 f_Mo_96 hMo rfl ?_
                    refine pe_iload_n d_Mo_put_152 rfl ?_
                    refine pe_dup2 d_Mo_put_153 rfl rfl ?_
                    refine pe_ialdN d_Mo_put_154 hEn (by omega) (by omega) ?_
                    refine pe_iconst (v := nI 1) d_Mo_put_155 (by decide) ?_
                    refine pe_iaddN d_Mo_put_156 ?_
                    refine pe_iastN d_Mo_put_157 hEn (by omega) (by omega) ?_
                    rw [upn]
                    refine pe_pu (fun h2 e2 o2 => ?_)
                    have hMo := (o2 (166) (by omega)).trans hMo
                    have hOp := (o2 (167) (by omega)).trans hOp
                    have hIm := (o2 (168) (by omega)).trans hIm
                    have hFi := (o2 (169) (by omega)).trans hFi
                    have hLi := (o2 (170) (by omega)).trans hLi
                    have hHo := (o2 (185) (by omega)).trans hHo
                    have hWo := (o2 (186) (by omega)).trans hWo
                    have hDa := (o2 (187) (by omega)).trans hDa
                    have hEn := e2
                    have hKe := (o2 (189) (by omega)).trans hKe
                    have hVa := (o2 (190) (by omega)).trans hVa
                    have hf := hf.st o2 (by decide)
                    refine pe_iconst (v := nI 0) d_Mo_put_158 (by decide) ?_
                    refine pe_iret d_Mo_put_159 rfl ?_
                    exact ⟨rfl, rfl, hHo, hWo, hDa, hEn, hKe, hVa, hf⟩
                · exact absurd (nI_nn (by omega)) c_86
        · exact absurd (by decide) c_42
    · have c_14 := pb_0.mp c_14
      exact absurd c_14 (by rw [hmp]; decide)
set_option maxHeartbeats 4000000 in
set_option maxRecDepth 20000 in
theorem c_Mo_put_set {l : Launch} {L : Nat} {xs : Nat → Int32} {h : pz_H} {z : Nat} {np nb now tkg lst flt byt : Nat} {sa sx : Int32} (hMo : MOB h np nb now tkg lst flt byt sa sx) (hnp : np ≤ 32) (hnb : nb ≤ 32) {Mop : Nat → Bool} (hOp : AB h 167 6 Mop) {Mmp : Nat → Bool} (hIm : AB h 168 6 Mmp) {Mfi : Nat → Int32} (hFi : AI h 169 6 Mfi) {Mlk : Nat → Int32} (hLi : AI h 170 6 Mlk) {Mho : Nat → Int32} (hHo : AI h 185 32 Mho) {Mwo : Nat → Int32} (hWo : AI h 186 256 Mwo) {Mda : Nat → Int32} (hDa : AI h 187 42 Mda) {Men : Nat → Nat} (hEn : AN h 188 6 Men) {Mke : Nat → Int32} (hKe : AI h 189 168 Mke) {Mva : Nat → Int32} (hVa : AI h 190 168 Mva) {a : Nat} (ha : a < 6) (hop : Mop a = true) (k u : Int32) (hmp : Mmp a = true) (hen : Men a ≤ 28) {q : Nat} (hqe : q = ff (fun j => decide (Mke (a * 28 + j) = k)) (Men a) 0) (hq : q < Men a) : pz_K l L xs M_Mo_put 2 0 0 [.ref 166, .int (nI a), .int k, .int u, .int (pb true)] h z (fun v' h' z' => v' = some (.int (nI 0)) ∧ z = z' ∧ AI h' 190 168 (upd Mva (a * 28 + q) u) ∧ frx [190] h h') := by
  refine pz_K.of rfl (Nat.le_of_ble_eq_true rfl) ?_
  have hf : frx [190] h h := frx.rf
  change pz_E l L xs M_Mo_put 2 0 0 0 [some (.ref 166), some (.int (nI a)), some (.int k), some (.int u), some (.int (pb true)), none, none, none] [] h z _
  refine pe_aload_n d_Mo_put_0 rfl ?_
  refine pe_iload_n d_Mo_put_1 rfl ?_
  -- 2: Mo_shut
  refine pe_callV d_Mo_put_2 m_Mo_126 j_Mo_shut v_Mo_shut (c_Mo_shut hMo hnp hnb hOp _) rfl rfl (by simp [Value.category]) (by decide) hMo rfl rfl ?_
  intro v1 h1 z1 hq1
  obtain ⟨rfl, rfl, rfl⟩ := hq1
  change pz_E _ _ _ _ _ _ _ _ _ (_ :: _) _ _ _
  refine pe_if_ne (tgt := 17) d_Mo_put_5 (by decide) (fun c_5 => ?_) (fun c_5 => ?_)
  · have c_5 := pb_n0.mp c_5
    exact absurd c_5 (by rw [opn_a ha, hop]; decide)
  · have c_5 := pb_0.mp c_5
    refine pe_aload_n d_Mo_put_8 rfl ?_
    refine pe_getf d_Mo_put_9 f_Mo_13 hMo rfl ?_
    refine pe_iload_n d_Mo_put_12 rfl ?_
    refine pe_zaldN d_Mo_put_13 hIm (by omega) (by omega) ?_
    refine pe_if_ne (tgt := 19) d_Mo_put_14 (by decide) (fun c_14 => ?_) (fun c_14 => ?_)
    · have c_14 := pb_n0.mp c_14
      refine pe_aload_n d_Mo_put_19 rfl ?_
      refine pe_iload_n d_Mo_put_20 rfl ?_
      refine pe_iload_n d_Mo_put_21 rfl ?_
      -- 22: Mo_entryOf
      refine pe_callV d_Mo_put_22 m_Mo_151 j_Mo_entryOf v_Mo_entryOf (c_Mo_entryOf hMo hnp hnb hEn hKe (a := a) ha hen k) rfl rfl (by simp [Value.category]) (by decide) hMo rfl rfl ?_
      intro v1 h1 z1 hq1
      obtain ⟨rfl, rfl, rfl⟩ := hq1
      rw [Nat.sub_zero, ← hqe, if_pos hq]
      change pz_E _ _ _ _ _ _ _ _ _ (.int (nI (a * 28 + q)) :: _) _ _ _
      change pz_E _ _ _ _ _ _ _ _ _ (_ :: _) _ _ _
      refine pe_istore d_Mo_put_25 (by decide) rfl ?_
      dsimp only [List.set]
      refine pe_aload_n d_Mo_put_27 rfl ?_
      refine pe_getf d_Mo_put_28 f_Mo_96 hMo rfl ?_
      refine pe_iload_n d_Mo_put_31 rfl ?_
      refine pe_ialdN d_Mo_put_32 hEn (by omega) (by omega) ?_
      refine pe_istore d_Mo_put_33 (by decide) rfl ?_
      dsimp only [List.set]
      refine pe_iload d_Mo_put_35 rfl ?_
      refine pe_if_eq (tgt := 55) d_Mo_put_37 (by decide) (fun c_37 => ?_) (fun c_37 => ?_)
      · have c_37 := pb_0.mp c_37
        exact absurd c_37 (by decide)
      · have c_37 := pb_n0.mp c_37
        refine pe_iload d_Mo_put_40 rfl ?_
        refine pe_if_lt (tgt := 55) d_Mo_put_42 (by decide) (fun c_42 => ?_) (fun c_42 => ?_)
        · exact absurd c_42 (nI_pos (by omega))
        · refine pe_aload_n d_Mo_put_45 rfl ?_
          refine pe_getf d_Mo_put_46 f_Mo_102 hMo rfl ?_
          refine pe_iload d_Mo_put_49 rfl ?_
          refine pe_iload_n d_Mo_put_51 rfl ?_
          refine pe_iastN d_Mo_put_52 hVa (by omega) (by omega) ?_
          refine pe_pu (fun h2 e2 o2 => ?_)
          have hMo := (o2 (166) (by omega)).trans hMo
          have hOp := (o2 (167) (by omega)).trans hOp
          have hIm := (o2 (168) (by omega)).trans hIm
          have hFi := (o2 (169) (by omega)).trans hFi
          have hLi := (o2 (170) (by omega)).trans hLi
          have hHo := (o2 (185) (by omega)).trans hHo
          have hWo := (o2 (186) (by omega)).trans hWo
          have hDa := (o2 (187) (by omega)).trans hDa
          have hEn := (o2 (188) (by omega)).trans hEn
          have hKe := (o2 (189) (by omega)).trans hKe
          have hVa := e2
          have hf := hf.st o2 (by decide)
          refine pe_iconst (v := nI 0) d_Mo_put_53 (by decide) ?_
          refine pe_iret d_Mo_put_54 rfl ?_
          exact ⟨rfl, rfl, hVa, hf⟩
    · have c_14 := pb_0.mp c_14
      exact absurd c_14 (by rw [hmp]; decide)
set_option maxHeartbeats 4000000 in
set_option maxRecDepth 20000 in
theorem c_Mo_put_rem_keep {l : Launch} {L : Nat} {xs : Nat → Int32} {h : pz_H} {z : Nat} {np nb now tkg lst flt byt : Nat} {sa sx : Int32} (hMo : MOB h np nb now tkg lst flt byt sa sx) (hnp : np ≤ 32) (hnb : nb ≤ 32) {Mop : Nat → Bool} (hOp : AB h 167 6 Mop) {Mmp : Nat → Bool} (hIm : AB h 168 6 Mmp) {Mfi : Nat → Int32} (hFi : AI h 169 6 Mfi) {Mlk : Nat → Int32} (hLi : AI h 170 6 Mlk) {Mho : Nat → Int32} (hHo : AI h 185 32 Mho) {Mwo : Nat → Int32} (hWo : AI h 186 256 Mwo) {Mda : Nat → Int32} (hDa : AI h 187 42 Mda) {Men : Nat → Nat} (hEn : AN h 188 6 Men) {Mke : Nat → Int32} (hKe : AI h 189 168 Mke) {Mva : Nat → Int32} (hVa : AI h 190 168 Mva) {a : Nat} (ha : a < 6) (hop : Mop a = true) (k u : Int32) (hmp : Mmp a = true) (hen : Men a ≤ 28) {q : Nat} (hqe : q = ff (fun j => decide (Mke (a * 28 + j) = k)) (Men a) 0) (hq : q < Men a) (h4 : ¬ Men a % 4 = 1) : pz_K l L xs M_Mo_put 2 0 0 [.ref 166, .int (nI a), .int k, .int u, .int (pb false)] h z (fun v' h' z' => v' = some (.int (nI 0)) ∧ z = z' ∧ AN h' 188 6 (va_up Men a (Men a - 1)) ∧ AI h' 189 168 (upd Mke (a * 28 + q) (Mke (a * 28 + Men a - 1))) ∧ AI h' 190 168 (upd Mva (a * 28 + q) (Mva (a * 28 + Men a - 1))) ∧ frx [188, 189, 190] h h') := by
  refine pz_K.of rfl (Nat.le_of_ble_eq_true rfl) ?_
  have hf : frx [188, 189, 190] h h := frx.rf
  change pz_E l L xs M_Mo_put 2 0 0 0 [some (.ref 166), some (.int (nI a)), some (.int k), some (.int u), some (.int (pb false)), none, none, none] [] h z _
  refine pe_aload_n d_Mo_put_0 rfl ?_
  refine pe_iload_n d_Mo_put_1 rfl ?_
  -- 2: Mo_shut
  refine pe_callV d_Mo_put_2 m_Mo_126 j_Mo_shut v_Mo_shut (c_Mo_shut hMo hnp hnb hOp _) rfl rfl (by simp [Value.category]) (by decide) hMo rfl rfl ?_
  intro v1 h1 z1 hq1
  obtain ⟨rfl, rfl, rfl⟩ := hq1
  change pz_E _ _ _ _ _ _ _ _ _ (_ :: _) _ _ _
  refine pe_if_ne (tgt := 17) d_Mo_put_5 (by decide) (fun c_5 => ?_) (fun c_5 => ?_)
  · have c_5 := pb_n0.mp c_5
    exact absurd c_5 (by rw [opn_a ha, hop]; decide)
  · have c_5 := pb_0.mp c_5
    refine pe_aload_n d_Mo_put_8 rfl ?_
    refine pe_getf d_Mo_put_9 f_Mo_13 hMo rfl ?_
    refine pe_iload_n d_Mo_put_12 rfl ?_
    refine pe_zaldN d_Mo_put_13 hIm (by omega) (by omega) ?_
    refine pe_if_ne (tgt := 19) d_Mo_put_14 (by decide) (fun c_14 => ?_) (fun c_14 => ?_)
    · have c_14 := pb_n0.mp c_14
      refine pe_aload_n d_Mo_put_19 rfl ?_
      refine pe_iload_n d_Mo_put_20 rfl ?_
      refine pe_iload_n d_Mo_put_21 rfl ?_
      -- 22: Mo_entryOf
      refine pe_callV d_Mo_put_22 m_Mo_151 j_Mo_entryOf v_Mo_entryOf (c_Mo_entryOf hMo hnp hnb hEn hKe (a := a) ha hen k) rfl rfl (by simp [Value.category]) (by decide) hMo rfl rfl ?_
      intro v1 h1 z1 hq1
      obtain ⟨rfl, rfl, rfl⟩ := hq1
      rw [Nat.sub_zero, ← hqe, if_pos hq]
      change pz_E _ _ _ _ _ _ _ _ _ (.int (nI (a * 28 + q)) :: _) _ _ _
      change pz_E _ _ _ _ _ _ _ _ _ (_ :: _) _ _ _
      refine pe_istore d_Mo_put_25 (by decide) rfl ?_
      dsimp only [List.set]
      refine pe_aload_n d_Mo_put_27 rfl ?_
      refine pe_getf d_Mo_put_28 f_Mo_96 hMo rfl ?_
      refine pe_iload_n d_Mo_put_31 rfl ?_
      refine pe_ialdN d_Mo_put_32 hEn (by omega) (by omega) ?_
      refine pe_istore d_Mo_put_33 (by decide) rfl ?_
      dsimp only [List.set]
      refine pe_iload d_Mo_put_35 rfl ?_
      refine pe_if_eq (tgt := 55) d_Mo_put_37 (by decide) (fun c_37 => ?_) (fun c_37 => ?_)
      · have c_37 := pb_0.mp c_37
        refine pe_iload d_Mo_put_55 rfl ?_
        refine pe_if_eq (tgt := 160) d_Mo_put_57 (by decide) (fun c_57 => ?_) (fun c_57 => ?_)
        · have c_57 := pb_0.mp c_57
          refine pe_iload d_Mo_put_160 rfl ?_
          refine pe_if_ge (tgt := 167) d_Mo_put_162 (by decide) (fun c_162 => ?_) (fun c_162 => ?_)
          · refine pe_aload_n d_Mo_put_167 rfl ?_
            refine pe_getf d_Mo_put_168 f_Mo_99 hMo rfl ?_
            refine pe_iload d_Mo_put_171 rfl ?_
            refine pe_aload_n d_Mo_put_173 rfl ?_
            refine pe_getf d_Mo_put_174 f_Mo_99 hMo rfl ?_
            refine pe_iload_n d_Mo_put_177 rfl ?_
            refine pe_bipush (v := nI 28) d_Mo_put_178 (by decide) ?_
            refine pe_imulN d_Mo_put_180 ?_
            refine pe_iload d_Mo_put_181 rfl ?_
            refine pe_iaddN d_Mo_put_183 ?_
            refine pe_iconst (v := nI 1) d_Mo_put_184 (by decide) ?_
            refine pe_isubN d_Mo_put_185 (by omega) ?_
            refine pe_ialdN d_Mo_put_186 hKe (by omega) (by omega) ?_
            refine pe_iastN d_Mo_put_187 hKe (by omega) (by omega) ?_
            refine pe_pu (fun h2 e2 o2 => ?_)
            have hMo := (o2 (166) (by omega)).trans hMo
            have hOp := (o2 (167) (by omega)).trans hOp
            have hIm := (o2 (168) (by omega)).trans hIm
            have hFi := (o2 (169) (by omega)).trans hFi
            have hLi := (o2 (170) (by omega)).trans hLi
            have hHo := (o2 (185) (by omega)).trans hHo
            have hWo := (o2 (186) (by omega)).trans hWo
            have hDa := (o2 (187) (by omega)).trans hDa
            have hEn := (o2 (188) (by omega)).trans hEn
            have hKe := e2
            have hVa := (o2 (190) (by omega)).trans hVa
            have hf := hf.st o2 (by decide)
            refine pe_aload_n d_Mo_put_188 rfl ?_
            refine pe_getf d_Mo_put_189 f_Mo_102 hMo rfl ?_
            refine pe_iload d_Mo_put_192 rfl ?_
            refine pe_aload_n d_Mo_put_194 rfl ?_
            refine pe_getf d_Mo_put_195 f_Mo_102 hMo rfl ?_
            refine pe_iload_n d_Mo_put_198 rfl ?_
            refine pe_bipush (v := nI 28) d_Mo_put_199 (by decide) ?_
            refine pe_imulN d_Mo_put_201 ?_
            refine pe_iload d_Mo_put_202 rfl ?_
            refine pe_iaddN d_Mo_put_204 ?_
            refine pe_iconst (v := nI 1) d_Mo_put_205 (by decide) ?_
            refine pe_isubN d_Mo_put_206 (by omega) ?_
            refine pe_ialdN d_Mo_put_207 hVa (by omega) (by omega) ?_
            refine pe_iastN d_Mo_put_208 hVa (by omega) (by omega) ?_
            refine pe_pu (fun h2 e2 o2 => ?_)
            have hMo := (o2 (166) (by omega)).trans hMo
            have hOp := (o2 (167) (by omega)).trans hOp
            have hIm := (o2 (168) (by omega)).trans hIm
            have hFi := (o2 (169) (by omega)).trans hFi
            have hLi := (o2 (170) (by omega)).trans hLi
            have hHo := (o2 (185) (by omega)).trans hHo
            have hWo := (o2 (186) (by omega)).trans hWo
            have hDa := (o2 (187) (by omega)).trans hDa
            have hEn := (o2 (188) (by omega)).trans hEn
            have hKe := (o2 (189) (by omega)).trans hKe
            have hVa := e2
            have hf := hf.st o2 (by decide)
            refine pe_aload_n d_Mo_put_209 rfl ?_
            refine pe_getf d_Mo_put_210 f_Mo_96 hMo rfl ?_
            refine pe_iload_n d_Mo_put_213 rfl ?_
            refine pe_dup2 d_Mo_put_214 rfl rfl ?_
            refine pe_ialdN d_Mo_put_215 hEn (by omega) (by omega) ?_
            refine pe_iconst (v := nI 1) d_Mo_put_216 (by decide) ?_
            refine pe_isubN d_Mo_put_217 (by omega) ?_
            refine pe_iastN d_Mo_put_218 hEn (by omega) (by omega) ?_
            rw [upn]
            refine pe_pu (fun h2 e2 o2 => ?_)
            have hMo := (o2 (166) (by omega)).trans hMo
            have hOp := (o2 (167) (by omega)).trans hOp
            have hIm := (o2 (168) (by omega)).trans hIm
            have hFi := (o2 (169) (by omega)).trans hFi
            have hLi := (o2 (170) (by omega)).trans hLi
            have hHo := (o2 (185) (by omega)).trans hHo
            have hWo := (o2 (186) (by omega)).trans hWo
            have hDa := (o2 (187) (by omega)).trans hDa
            have hEn := e2
            have hKe := (o2 (189) (by omega)).trans hKe
            have hVa := (o2 (190) (by omega)).trans hVa
            have hf := hf.st o2 (by decide)
            refine pe_iload d_Mo_put_219 rfl ?_
            refine pe_iconst (v := nI 4) d_Mo_put_221 (by decide) ?_
            refine pe_iremN d_Mo_put_222 (by omega) (by omega) (by omega) ?_
            refine pe_iconst (v := nI 1) d_Mo_put_223 (by decide) ?_
            refine pe_icmpN_ne (tgt := 247) d_Mo_put_224 (by decide) (by omega) (by omega) (fun c_224 => ?_) (fun c_224 => ?_)
            · refine pe_iconst (v := nI 0) d_Mo_put_247 (by decide) ?_
              refine pe_iret d_Mo_put_248 rfl ?_
              exact ⟨rfl, rfl, hEn, hKe, hVa, hf⟩
            · exact absurd c_224 h4
          · exact absurd (nI_nn (by omega)) c_162
        · have c_57 := pb_n0.mp c_57
          exact absurd c_57 (by decide)
      · have c_37 := pb_n0.mp c_37
        exact absurd c_37 (by decide)
    · have c_14 := pb_0.mp c_14
      exact absurd c_14 (by rw [hmp]; decide)
set_option maxHeartbeats 4000000 in
set_option maxRecDepth 20000 in
theorem c_Mo_put_rem_free {l : Launch} {L : Nat} {xs : Nat → Int32} {h : pz_H} {z : Nat} {np nb now tkg lst flt byt : Nat} {sa sx : Int32} (hMo : MOB h np nb now tkg lst flt byt sa sx) (hnp : np ≤ 32) (hnb : nb ≤ 32) {Mop : Nat → Bool} (hOp : AB h 167 6 Mop) {Mmp : Nat → Bool} (hIm : AB h 168 6 Mmp) {Mfi : Nat → Int32} (hFi : AI h 169 6 Mfi) {Mlk : Nat → Int32} (hLi : AI h 170 6 Mlk) {Mho : Nat → Int32} (hHo : AI h 185 32 Mho) {Mwo : Nat → Int32} (hWo : AI h 186 256 Mwo) {Mda : Nat → Int32} (hDa : AI h 187 42 Mda) {Men : Nat → Nat} (hEn : AN h 188 6 Men) {Mke : Nat → Int32} (hKe : AI h 189 168 Mke) {Mva : Nat → Int32} (hVa : AI h 190 168 Mva) {a : Nat} (ha : a < 6) (hop : Mop a = true) (k u : Int32) (hmp : Mmp a = true) (hen : Men a ≤ 28) {q : Nat} (hqe : q = ff (fun j => decide (Mke (a * 28 + j) = k)) (Men a) 0) (hq : q < Men a) (h4 : Men a % 4 = 1) {g : Nat} (hda : Mda (a * 7 + Men a / 4) = nI g) (hg : g < 32) : pz_K l L xs M_Mo_put 2 0 0 [.ref 166, .int (nI a), .int k, .int u, .int (pb false)] h z (fun v' h' z' => v' = some (.int (nI 0)) ∧ z = z' ∧ AI h' 185 32 (upd Mho g (-1)) ∧ AN h' 188 6 (va_up Men a (Men a - 1)) ∧ AI h' 189 168 (upd Mke (a * 28 + q) (Mke (a * 28 + Men a - 1))) ∧ AI h' 190 168 (upd Mva (a * 28 + q) (Mva (a * 28 + Men a - 1))) ∧ frx [185, 188, 189, 190] h h') := by
  refine pz_K.of rfl (Nat.le_of_ble_eq_true rfl) ?_
  have hf : frx [185, 188, 189, 190] h h := frx.rf
  change pz_E l L xs M_Mo_put 2 0 0 0 [some (.ref 166), some (.int (nI a)), some (.int k), some (.int u), some (.int (pb false)), none, none, none] [] h z _
  refine pe_aload_n d_Mo_put_0 rfl ?_
  refine pe_iload_n d_Mo_put_1 rfl ?_
  -- 2: Mo_shut
  refine pe_callV d_Mo_put_2 m_Mo_126 j_Mo_shut v_Mo_shut (c_Mo_shut hMo hnp hnb hOp _) rfl rfl (by simp [Value.category]) (by decide) hMo rfl rfl ?_
  intro v1 h1 z1 hq1
  obtain ⟨rfl, rfl, rfl⟩ := hq1
  change pz_E _ _ _ _ _ _ _ _ _ (_ :: _) _ _ _
  refine pe_if_ne (tgt := 17) d_Mo_put_5 (by decide) (fun c_5 => ?_) (fun c_5 => ?_)
  · have c_5 := pb_n0.mp c_5
    exact absurd c_5 (by rw [opn_a ha, hop]; decide)
  · have c_5 := pb_0.mp c_5
    refine pe_aload_n d_Mo_put_8 rfl ?_
    refine pe_getf d_Mo_put_9 f_Mo_13 hMo rfl ?_
    refine pe_iload_n d_Mo_put_12 rfl ?_
    refine pe_zaldN d_Mo_put_13 hIm (by omega) (by omega) ?_
    refine pe_if_ne (tgt := 19) d_Mo_put_14 (by decide) (fun c_14 => ?_) (fun c_14 => ?_)
    · have c_14 := pb_n0.mp c_14
      refine pe_aload_n d_Mo_put_19 rfl ?_
      refine pe_iload_n d_Mo_put_20 rfl ?_
      refine pe_iload_n d_Mo_put_21 rfl ?_
      -- 22: Mo_entryOf
      refine pe_callV d_Mo_put_22 m_Mo_151 j_Mo_entryOf v_Mo_entryOf (c_Mo_entryOf hMo hnp hnb hEn hKe (a := a) ha hen k) rfl rfl (by simp [Value.category]) (by decide) hMo rfl rfl ?_
      intro v1 h1 z1 hq1
      obtain ⟨rfl, rfl, rfl⟩ := hq1
      rw [Nat.sub_zero, ← hqe, if_pos hq]
      change pz_E _ _ _ _ _ _ _ _ _ (.int (nI (a * 28 + q)) :: _) _ _ _
      change pz_E _ _ _ _ _ _ _ _ _ (_ :: _) _ _ _
      refine pe_istore d_Mo_put_25 (by decide) rfl ?_
      dsimp only [List.set]
      refine pe_aload_n d_Mo_put_27 rfl ?_
      refine pe_getf d_Mo_put_28 f_Mo_96 hMo rfl ?_
      refine pe_iload_n d_Mo_put_31 rfl ?_
      refine pe_ialdN d_Mo_put_32 hEn (by omega) (by omega) ?_
      refine pe_istore d_Mo_put_33 (by decide) rfl ?_
      dsimp only [List.set]
      refine pe_iload d_Mo_put_35 rfl ?_
      refine pe_if_eq (tgt := 55) d_Mo_put_37 (by decide) (fun c_37 => ?_) (fun c_37 => ?_)
      · have c_37 := pb_0.mp c_37
        refine pe_iload d_Mo_put_55 rfl ?_
        refine pe_if_eq (tgt := 160) d_Mo_put_57 (by decide) (fun c_57 => ?_) (fun c_57 => ?_)
        · have c_57 := pb_0.mp c_57
          refine pe_iload d_Mo_put_160 rfl ?_
          refine pe_if_ge (tgt := 167) d_Mo_put_162 (by decide) (fun c_162 => ?_) (fun c_162 => ?_)
          · refine pe_aload_n d_Mo_put_167 rfl ?_
            refine pe_getf d_Mo_put_168 f_Mo_99 hMo rfl ?_
            refine pe_iload d_Mo_put_171 rfl ?_
            refine pe_aload_n d_Mo_put_173 rfl ?_
            refine pe_getf d_Mo_put_174 f_Mo_99 hMo rfl ?_
            refine pe_iload_n d_Mo_put_177 rfl ?_
            refine pe_bipush (v := nI 28) d_Mo_put_178 (by decide) ?_
            refine pe_imulN d_Mo_put_180 ?_
            refine pe_iload d_Mo_put_181 rfl ?_
            refine pe_iaddN d_Mo_put_183 ?_
            refine pe_iconst (v := nI 1) d_Mo_put_184 (by decide) ?_
            refine pe_isubN d_Mo_put_185 (by omega) ?_
            refine pe_ialdN d_Mo_put_186 hKe (by omega) (by omega) ?_
            refine pe_iastN d_Mo_put_187 hKe (by omega) (by omega) ?_
            refine pe_pu (fun h2 e2 o2 => ?_)
            have hMo := (o2 (166) (by omega)).trans hMo
            have hOp := (o2 (167) (by omega)).trans hOp
            have hIm := (o2 (168) (by omega)).trans hIm
            have hFi := (o2 (169) (by omega)).trans hFi
            have hLi := (o2 (170) (by omega)).trans hLi
            have hHo := (o2 (185) (by omega)).trans hHo
            have hWo := (o2 (186) (by omega)).trans hWo
            have hDa := (o2 (187) (by omega)).trans hDa
            have hEn := (o2 (188) (by omega)).trans hEn
            have hKe := e2
            have hVa := (o2 (190) (by omega)).trans hVa
            have hf := hf.st o2 (by decide)
            refine pe_aload_n d_Mo_put_188 rfl ?_
            refine pe_getf d_Mo_put_189 f_Mo_102 hMo rfl ?_
            refine pe_iload d_Mo_put_192 rfl ?_
            refine pe_aload_n d_Mo_put_194 rfl ?_
            refine pe_getf d_Mo_put_195 f_Mo_102 hMo rfl ?_
            refine pe_iload_n d_Mo_put_198 rfl ?_
            refine pe_bipush (v := nI 28) d_Mo_put_199 (by decide) ?_
            refine pe_imulN d_Mo_put_201 ?_
            refine pe_iload d_Mo_put_202 rfl ?_
            refine pe_iaddN d_Mo_put_204 ?_
            refine pe_iconst (v := nI 1) d_Mo_put_205 (by decide) ?_
            refine pe_isubN d_Mo_put_206 (by omega) ?_
            refine pe_ialdN d_Mo_put_207 hVa (by omega) (by omega) ?_
            refine pe_iastN d_Mo_put_208 hVa (by omega) (by omega) ?_
            refine pe_pu (fun h2 e2 o2 => ?_)
            have hMo := (o2 (166) (by omega)).trans hMo
            have hOp := (o2 (167) (by omega)).trans hOp
            have hIm := (o2 (168) (by omega)).trans hIm
            have hFi := (o2 (169) (by omega)).trans hFi
            have hLi := (o2 (170) (by omega)).trans hLi
            have hHo := (o2 (185) (by omega)).trans hHo
            have hWo := (o2 (186) (by omega)).trans hWo
            have hDa := (o2 (187) (by omega)).trans hDa
            have hEn := (o2 (188) (by omega)).trans hEn
            have hKe := (o2 (189) (by omega)).trans hKe
            have hVa := e2
            have hf := hf.st o2 (by decide)
            refine pe_aload_n d_Mo_put_209 rfl ?_
            refine pe_getf d_Mo_put_210 f_Mo_96 hMo rfl ?_
            refine pe_iload_n d_Mo_put_213 rfl ?_
            refine pe_dup2 d_Mo_put_214 rfl rfl ?_
            refine pe_ialdN d_Mo_put_215 hEn (by omega) (by omega) ?_
            refine pe_iconst (v := nI 1) d_Mo_put_216 (by decide) ?_
            refine pe_isubN d_Mo_put_217 (by omega) ?_
            refine pe_iastN d_Mo_put_218 hEn (by omega) (by omega) ?_
            rw [upn]
            refine pe_pu (fun h2 e2 o2 => ?_)
            have hMo := (o2 (166) (by omega)).trans hMo
            have hOp := (o2 (167) (by omega)).trans hOp
            have hIm := (o2 (168) (by omega)).trans hIm
            have hFi := (o2 (169) (by omega)).trans hFi
            have hLi := (o2 (170) (by omega)).trans hLi
            have hHo := (o2 (185) (by omega)).trans hHo
            have hWo := (o2 (186) (by omega)).trans hWo
            have hDa := (o2 (187) (by omega)).trans hDa
            have hEn := e2
            have hKe := (o2 (189) (by omega)).trans hKe
            have hVa := (o2 (190) (by omega)).trans hVa
            have hf := hf.st o2 (by decide)
            refine pe_iload d_Mo_put_219 rfl ?_
            refine pe_iconst (v := nI 4) d_Mo_put_221 (by decide) ?_
            refine pe_iremN d_Mo_put_222 (by omega) (by omega) (by omega) ?_
            refine pe_iconst (v := nI 1) d_Mo_put_223 (by decide) ?_
            refine pe_icmpN_ne (tgt := 247) d_Mo_put_224 (by decide) (by omega) (by omega) (fun c_224 => ?_) (fun c_224 => ?_)
            · exact absurd h4 c_224
            · refine pe_aload_n d_Mo_put_227 rfl ?_
              refine pe_getf d_Mo_put_228 f_Mo_87 hMo rfl ?_
              refine pe_aload_n d_Mo_put_231 rfl ?_
              refine pe_getf d_Mo_put_232 f_Mo_93 hMo rfl ?_
              refine pe_iload_n d_Mo_put_235 rfl ?_
              refine pe_bipush (v := nI 7) d_Mo_put_236 (by decide) ?_
              refine pe_imulN d_Mo_put_238 ?_
              refine pe_iload d_Mo_put_239 rfl ?_
              refine pe_iconst (v := nI 4) d_Mo_put_241 (by decide) ?_
              refine pe_idivN d_Mo_put_242 (by omega) (by omega) (by omega) ?_
              refine pe_iaddN d_Mo_put_243 ?_
              refine pe_ialdN d_Mo_put_244 hDa (by omega) (by omega) ?_
              refine pe_top (y := .int (nI g)) (by rw [hda]) ?_
              refine pe_iconst (v := -1) d_Mo_put_245 (by decide) ?_
              refine pe_iastN d_Mo_put_246 hHo (by omega) (by omega) ?_
              refine pe_pu (fun h2 e2 o2 => ?_)
              have hMo := (o2 (166) (by omega)).trans hMo
              have hOp := (o2 (167) (by omega)).trans hOp
              have hIm := (o2 (168) (by omega)).trans hIm
              have hFi := (o2 (169) (by omega)).trans hFi
              have hLi := (o2 (170) (by omega)).trans hLi
              have hHo := e2
              have hWo := (o2 (186) (by omega)).trans hWo
              have hDa := (o2 (187) (by omega)).trans hDa
              have hEn := (o2 (188) (by omega)).trans hEn
              have hKe := (o2 (189) (by omega)).trans hKe
              have hVa := (o2 (190) (by omega)).trans hVa
              have hf := hf.st o2 (by decide)
              refine pe_iconst (v := nI 0) d_Mo_put_247 (by decide) ?_
              refine pe_iret d_Mo_put_248 rfl ?_
              exact ⟨rfl, rfl, hHo, hEn, hKe, hVa, hf⟩
          · exact absurd (nI_nn (by omega)) c_162
        · have c_57 := pb_n0.mp c_57
          exact absurd c_57 (by decide)
      · have c_37 := pb_n0.mp c_37
        exact absurd c_37 (by decide)
    · have c_14 := pb_0.mp c_14
      exact absurd c_14 (by rw [hmp]; decide)
set_option maxHeartbeats 4000000 in
set_option maxRecDepth 20000 in
theorem c_Mo_get_no {l : Launch} {L : Nat} {xs : Nat → Int32} {h : pz_H} {z : Nat} {np nb now tkg lst flt byt : Nat} {sa sx : Int32} (hMo : MOB h np nb now tkg lst flt byt sa sx) (hnp : np ≤ 32) (hnb : nb ≤ 32) {Mop : Nat → Bool} (hOp : AB h 167 6 Mop) {Mmp : Nat → Bool} (hIm : AB h 168 6 Mmp) {Mho : Nat → Int32} (hHo : AI h 185 32 Mho) {Mwo : Nat → Int32} (hWo : AI h 186 256 Mwo) {Men : Nat → Nat} (hEn : AN h 188 6 Men) {Mke : Nat → Int32} (hKe : AI h 189 168 Mke) {Mva : Nat → Int32} (hVa : AI h 190 168 Mva) (x k : Int32) (hno : opn Mop x = false) : pz_K l L xs M_Mo_get 2 0 0 [.ref 166, .int x, .int k] h z (fun v h' z' => v = some (.long 1000000000000) ∧ h = h' ∧ z = z') := by
  refine pz_K.of rfl (Nat.le_of_ble_eq_true rfl) ?_
  change pz_E l L xs M_Mo_get 2 0 0 0 [some (.ref 166), some (.int x), some (.int k), none] [] h z _
  refine pe_aload_n d_Mo_get_0 rfl ?_
  refine pe_iload_n d_Mo_get_1 rfl ?_
  -- 2: Mo_shut
  refine pe_callV d_Mo_get_2 m_Mo_126 j_Mo_shut v_Mo_shut (c_Mo_shut hMo hnp hnb hOp _) rfl rfl (by simp [Value.category]) (by decide) hMo rfl rfl ?_
  intro v1 h1 z1 hq1
  obtain ⟨rfl, rfl, rfl⟩ := hq1
  change pz_E _ _ _ _ _ _ _ _ _ (_ :: _) _ _ _
  refine pe_if_eq (tgt := 12) d_Mo_get_5 (by decide) (fun c_5 => ?_) (fun c_5 => ?_)
  · have c_5 := pb_0.mp c_5
    exact absurd (nb_f c_5) (by rw [hno]; decide)
  · have c_5 := pb_n0.mp c_5
    refine pe_ldc2 d_Mo_get_8 z_Mo_137 ?_
    refine pe_lret d_Mo_get_11 rfl ?_
    exact ⟨rfl, rfl, rfl⟩
set_option maxHeartbeats 4000000 in
set_option maxRecDepth 20000 in
theorem c_Mo_get_nf {l : Launch} {L : Nat} {xs : Nat → Int32} {h : pz_H} {z : Nat} {np nb now tkg lst flt byt : Nat} {sa sx : Int32} (hMo : MOB h np nb now tkg lst flt byt sa sx) (hnp : np ≤ 32) (hnb : nb ≤ 32) {Mop : Nat → Bool} (hOp : AB h 167 6 Mop) {Mmp : Nat → Bool} (hIm : AB h 168 6 Mmp) {Mho : Nat → Int32} (hHo : AI h 185 32 Mho) {Mwo : Nat → Int32} (hWo : AI h 186 256 Mwo) {Men : Nat → Nat} (hEn : AN h 188 6 Men) {Mke : Nat → Int32} (hKe : AI h 189 168 Mke) {Mva : Nat → Int32} (hVa : AI h 190 168 Mva) {a : Nat} (ha : a < 6) (hop : Mop a = true) (k : Int32) (hmp : Mmp a = true) (hen : Men a ≤ 28) (hnf : ¬ ff (fun j => decide (Mke (a * 28 + j) = k)) (Men a) 0 < Men a) : pz_K l L xs M_Mo_get 2 0 0 [.ref 166, .int (nI a), .int k] h z (fun v h' z' => v = some (.long 1000000000000) ∧ h = h' ∧ z = z') := by
  refine pz_K.of rfl (Nat.le_of_ble_eq_true rfl) ?_
  change pz_E l L xs M_Mo_get 2 0 0 0 [some (.ref 166), some (.int (nI a)), some (.int k), none] [] h z _
  refine pe_aload_n d_Mo_get_0 rfl ?_
  refine pe_iload_n d_Mo_get_1 rfl ?_
  -- 2: Mo_shut
  refine pe_callV d_Mo_get_2 m_Mo_126 j_Mo_shut v_Mo_shut (c_Mo_shut hMo hnp hnb hOp _) rfl rfl (by simp [Value.category]) (by decide) hMo rfl rfl ?_
  intro v1 h1 z1 hq1
  obtain ⟨rfl, rfl, rfl⟩ := hq1
  change pz_E _ _ _ _ _ _ _ _ _ (_ :: _) _ _ _
  refine pe_if_eq (tgt := 12) d_Mo_get_5 (by decide) (fun c_5 => ?_) (fun c_5 => ?_)
  · have c_5 := pb_0.mp c_5
    refine pe_aload_n d_Mo_get_12 rfl ?_
    refine pe_getf d_Mo_get_13 f_Mo_13 hMo rfl ?_
    refine pe_iload_n d_Mo_get_16 rfl ?_
    refine pe_zaldN d_Mo_get_17 hIm (by omega) (by omega) ?_
    refine pe_if_eq (tgt := 46) d_Mo_get_18 (by decide) (fun c_18 => ?_) (fun c_18 => ?_)
    · have c_18 := pb_0.mp c_18
      exact absurd c_18 (by rw [hmp]; decide)
    · have c_18 := pb_n0.mp c_18
      refine pe_aload_n d_Mo_get_21 rfl ?_
      refine pe_iload_n d_Mo_get_22 rfl ?_
      refine pe_iload_n d_Mo_get_23 rfl ?_
      -- 24: Mo_entryOf
      refine pe_callV d_Mo_get_24 m_Mo_151 j_Mo_entryOf v_Mo_entryOf (c_Mo_entryOf hMo hnp hnb hEn hKe (a := a) ha hen k) rfl rfl (by simp [Value.category]) (by decide) hMo rfl rfl ?_
      intro v1 h1 z1 hq1
      obtain ⟨rfl, rfl, rfl⟩ := hq1
      rw [Nat.sub_zero, if_neg hnf]
      change pz_E _ _ _ _ _ _ _ _ _ (.int (-1) :: _) _ _ _
      change pz_E _ _ _ _ _ _ _ _ _ (_ :: _) _ _ _
      refine pe_istore_n d_Mo_get_27 (by decide) rfl ?_
      dsimp only [List.set]
      refine pe_iload_n d_Mo_get_28 rfl ?_
      refine pe_if_ge (tgt := 38) d_Mo_get_29 (by decide) (fun c_29 => ?_) (fun c_29 => ?_)
      · exact absurd c_29 (by decide)
      · refine pe_ldc2 d_Mo_get_32 z_Mo_137 ?_
        refine pe_goto (tgt := 45) d_Mo_get_35 (by decide) ?_
        refine pe_lret d_Mo_get_45 rfl ?_
        exact ⟨rfl, rfl, rfl⟩
  · have c_5 := pb_n0.mp c_5
    exact absurd c_5 (by rw [opn_a ha, hop]; decide)
set_option maxHeartbeats 4000000 in
set_option maxRecDepth 20000 in
theorem c_Mo_get_fd {l : Launch} {L : Nat} {xs : Nat → Int32} {h : pz_H} {z : Nat} {np nb now tkg lst flt byt : Nat} {sa sx : Int32} (hMo : MOB h np nb now tkg lst flt byt sa sx) (hnp : np ≤ 32) (hnb : nb ≤ 32) {Mop : Nat → Bool} (hOp : AB h 167 6 Mop) {Mmp : Nat → Bool} (hIm : AB h 168 6 Mmp) {Mho : Nat → Int32} (hHo : AI h 185 32 Mho) {Mwo : Nat → Int32} (hWo : AI h 186 256 Mwo) {Men : Nat → Nat} (hEn : AN h 188 6 Men) {Mke : Nat → Int32} (hKe : AI h 189 168 Mke) {Mva : Nat → Int32} (hVa : AI h 190 168 Mva) {a : Nat} (ha : a < 6) (hop : Mop a = true) (k : Int32) (hmp : Mmp a = true) (hen : Men a ≤ 28) {q : Nat} (hqe : q = ff (fun j => decide (Mke (a * 28 + j) = k)) (Men a) 0) (hq : q < Men a) : pz_K l L xs M_Mo_get 2 0 0 [.ref 166, .int (nI a), .int k] h z (fun v h' z' => v = some (.long (Mva (a * 28 + q)).toInt64) ∧ h = h' ∧ z = z') := by
  refine pz_K.of rfl (Nat.le_of_ble_eq_true rfl) ?_
  change pz_E l L xs M_Mo_get 2 0 0 0 [some (.ref 166), some (.int (nI a)), some (.int k), none] [] h z _
  refine pe_aload_n d_Mo_get_0 rfl ?_
  refine pe_iload_n d_Mo_get_1 rfl ?_
  -- 2: Mo_shut
  refine pe_callV d_Mo_get_2 m_Mo_126 j_Mo_shut v_Mo_shut (c_Mo_shut hMo hnp hnb hOp _) rfl rfl (by simp [Value.category]) (by decide) hMo rfl rfl ?_
  intro v1 h1 z1 hq1
  obtain ⟨rfl, rfl, rfl⟩ := hq1
  change pz_E _ _ _ _ _ _ _ _ _ (_ :: _) _ _ _
  refine pe_if_eq (tgt := 12) d_Mo_get_5 (by decide) (fun c_5 => ?_) (fun c_5 => ?_)
  · have c_5 := pb_0.mp c_5
    refine pe_aload_n d_Mo_get_12 rfl ?_
    refine pe_getf d_Mo_get_13 f_Mo_13 hMo rfl ?_
    refine pe_iload_n d_Mo_get_16 rfl ?_
    refine pe_zaldN d_Mo_get_17 hIm (by omega) (by omega) ?_
    refine pe_if_eq (tgt := 46) d_Mo_get_18 (by decide) (fun c_18 => ?_) (fun c_18 => ?_)
    · have c_18 := pb_0.mp c_18
      exact absurd c_18 (by rw [hmp]; decide)
    · have c_18 := pb_n0.mp c_18
      refine pe_aload_n d_Mo_get_21 rfl ?_
      refine pe_iload_n d_Mo_get_22 rfl ?_
      refine pe_iload_n d_Mo_get_23 rfl ?_
      -- 24: Mo_entryOf
      refine pe_callV d_Mo_get_24 m_Mo_151 j_Mo_entryOf v_Mo_entryOf (c_Mo_entryOf hMo hnp hnb hEn hKe (a := a) ha hen k) rfl rfl (by simp [Value.category]) (by decide) hMo rfl rfl ?_
      intro v1 h1 z1 hq1
      obtain ⟨rfl, rfl, rfl⟩ := hq1
      rw [Nat.sub_zero, ← hqe, if_pos hq]
      change pz_E _ _ _ _ _ _ _ _ _ (.int (nI (a * 28 + q)) :: _) _ _ _
      change pz_E _ _ _ _ _ _ _ _ _ (_ :: _) _ _ _
      refine pe_istore_n d_Mo_get_27 (by decide) rfl ?_
      dsimp only [List.set]
      refine pe_iload_n d_Mo_get_28 rfl ?_
      refine pe_if_ge (tgt := 38) d_Mo_get_29 (by decide) (fun c_29 => ?_) (fun c_29 => ?_)
      · refine pe_aload_n d_Mo_get_38 rfl ?_
        refine pe_getf d_Mo_get_39 f_Mo_102 hMo rfl ?_
        refine pe_iload_n d_Mo_get_42 rfl ?_
        refine pe_ialdN d_Mo_get_43 hVa (by omega) (by omega) ?_
        refine pe_i2l d_Mo_get_44 ?_
        refine pe_lret d_Mo_get_45 rfl ?_
        exact ⟨rfl, rfl, rfl⟩
      · exact absurd (nI_nn (by omega)) c_29
  · have c_5 := pb_n0.mp c_5
    exact absurd c_5 (by rw [opn_a ha, hop]; decide)
set_option maxHeartbeats 4000000 in
set_option maxRecDepth 20000 in
theorem c_Mo_get_out {l : Launch} {L : Nat} {xs : Nat → Int32} {h : pz_H} {z : Nat} {np nb now tkg lst flt byt : Nat} {sa sx : Int32} (hMo : MOB h np nb now tkg lst flt byt sa sx) (hnp : np ≤ 32) (hnb : nb ≤ 32) {Mop : Nat → Bool} (hOp : AB h 167 6 Mop) {Mmp : Nat → Bool} (hIm : AB h 168 6 Mmp) {Mho : Nat → Int32} (hHo : AI h 185 32 Mho) {Mwo : Nat → Int32} (hWo : AI h 186 256 Mwo) {Men : Nat → Nat} (hEn : AN h 188 6 Men) {Mke : Nat → Int32} (hKe : AI h 189 168 Mke) {Mva : Nat → Int32} (hVa : AI h 190 168 Mva) {a : Nat} (ha : a < 6) (hop : Mop a = true) (k : Int32) (hmp : Mmp a = false) (hno : inn k (8 * nb) = false) : pz_K l L xs M_Mo_get 2 0 0 [.ref 166, .int (nI a), .int k] h z (fun v h' z' => v = some (.long 1000000000000) ∧ h = h' ∧ z = z') := by
  refine pz_K.of rfl (Nat.le_of_ble_eq_true rfl) ?_
  change pz_E l L xs M_Mo_get 2 0 0 0 [some (.ref 166), some (.int (nI a)), some (.int k), none] [] h z _
  refine pe_aload_n d_Mo_get_0 rfl ?_
  refine pe_iload_n d_Mo_get_1 rfl ?_
  -- 2: Mo_shut
  refine pe_callV d_Mo_get_2 m_Mo_126 j_Mo_shut v_Mo_shut (c_Mo_shut hMo hnp hnb hOp _) rfl rfl (by simp [Value.category]) (by decide) hMo rfl rfl ?_
  intro v1 h1 z1 hq1
  obtain ⟨rfl, rfl, rfl⟩ := hq1
  change pz_E _ _ _ _ _ _ _ _ _ (_ :: _) _ _ _
  refine pe_if_eq (tgt := 12) d_Mo_get_5 (by decide) (fun c_5 => ?_) (fun c_5 => ?_)
  · have c_5 := pb_0.mp c_5
    refine pe_aload_n d_Mo_get_12 rfl ?_
    refine pe_getf d_Mo_get_13 f_Mo_13 hMo rfl ?_
    refine pe_iload_n d_Mo_get_16 rfl ?_
    refine pe_zaldN d_Mo_get_17 hIm (by omega) (by omega) ?_
    refine pe_if_eq (tgt := 46) d_Mo_get_18 (by decide) (fun c_18 => ?_) (fun c_18 => ?_)
    · have c_18 := pb_0.mp c_18
      refine pe_iload_n d_Mo_get_46 rfl ?_
      refine pe_if_lt (tgt := 74) d_Mo_get_47 (by decide) (fun c_47 => ?_) (fun c_47 => ?_)
      · refine pe_ldc2 d_Mo_get_74 z_Mo_137 ?_
        refine pe_goto (tgt := 87) d_Mo_get_77 (by decide) ?_
        refine pe_lret d_Mo_get_87 rfl ?_
        exact ⟨rfl, rfl, rfl⟩
      · refine pe_iload_n d_Mo_get_50 rfl ?_
        refine pe_bipush (v := nI 8) d_Mo_get_51 (by decide) ?_
        refine pe_aload_n d_Mo_get_53 rfl ?_
        refine pe_getf d_Mo_get_54 f_Mo_108 hMo rfl ?_
        refine pe_imulN d_Mo_get_57 ?_
        refine pe_icmp_ge (tgt := 74) d_Mo_get_58 (by decide) (fun c_58 => ?_) (fun c_58 => ?_)
        · refine pe_ldc2 d_Mo_get_74 z_Mo_137 ?_
          refine pe_goto (tgt := 87) d_Mo_get_77 (by decide) ?_
          refine pe_lret d_Mo_get_87 rfl ?_
          exact ⟨rfl, rfl, rfl⟩
        · exact absurd (show inn k (8 * nb) = true from decide_eq_true ⟨c_47, c_58⟩) (by rw [hno]; decide)
    · have c_18 := pb_n0.mp c_18
      exact absurd c_18 (by rw [hmp]; decide)
  · have c_5 := pb_n0.mp c_5
    exact absurd c_5 (by rw [opn_a ha, hop]; decide)
set_option maxHeartbeats 4000000 in
set_option maxRecDepth 20000 in
theorem c_Mo_get_other {l : Launch} {L : Nat} {xs : Nat → Int32} {h : pz_H} {z : Nat} {np nb now tkg lst flt byt : Nat} {sa sx : Int32} (hMo : MOB h np nb now tkg lst flt byt sa sx) (hnp : np ≤ 32) (hnb : nb ≤ 32) {Mop : Nat → Bool} (hOp : AB h 167 6 Mop) {Mmp : Nat → Bool} (hIm : AB h 168 6 Mmp) {Mho : Nat → Int32} (hHo : AI h 185 32 Mho) {Mwo : Nat → Int32} (hWo : AI h 186 256 Mwo) {Men : Nat → Nat} (hEn : AN h 188 6 Men) {Mke : Nat → Int32} (hKe : AI h 189 168 Mke) {Mva : Nat → Int32} (hVa : AI h 190 168 Mva) {a : Nat} (ha : a < 6) (hop : Mop a = true) {k : Nat} (hk : k < nb * 8) (hmp : Mmp a = false) (how : ¬ Mho (k / 8) = nI a) : pz_K l L xs M_Mo_get 2 0 0 [.ref 166, .int (nI a), .int (nI k)] h z (fun v h' z' => v = some (.long 1000000000000) ∧ h = h' ∧ z = z') := by
  refine pz_K.of rfl (Nat.le_of_ble_eq_true rfl) ?_
  change pz_E l L xs M_Mo_get 2 0 0 0 [some (.ref 166), some (.int (nI a)), some (.int (nI k)), none] [] h z _
  refine pe_aload_n d_Mo_get_0 rfl ?_
  refine pe_iload_n d_Mo_get_1 rfl ?_
  -- 2: Mo_shut
  refine pe_callV d_Mo_get_2 m_Mo_126 j_Mo_shut v_Mo_shut (c_Mo_shut hMo hnp hnb hOp _) rfl rfl (by simp [Value.category]) (by decide) hMo rfl rfl ?_
  intro v1 h1 z1 hq1
  obtain ⟨rfl, rfl, rfl⟩ := hq1
  change pz_E _ _ _ _ _ _ _ _ _ (_ :: _) _ _ _
  refine pe_if_eq (tgt := 12) d_Mo_get_5 (by decide) (fun c_5 => ?_) (fun c_5 => ?_)
  · have c_5 := pb_0.mp c_5
    refine pe_aload_n d_Mo_get_12 rfl ?_
    refine pe_getf d_Mo_get_13 f_Mo_13 hMo rfl ?_
    refine pe_iload_n d_Mo_get_16 rfl ?_
    refine pe_zaldN d_Mo_get_17 hIm (by omega) (by omega) ?_
    refine pe_if_eq (tgt := 46) d_Mo_get_18 (by decide) (fun c_18 => ?_) (fun c_18 => ?_)
    · have c_18 := pb_0.mp c_18
      refine pe_iload_n d_Mo_get_46 rfl ?_
      refine pe_if_lt (tgt := 74) d_Mo_get_47 (by decide) (fun c_47 => ?_) (fun c_47 => ?_)
      · exact absurd c_47 (nI_pos (by omega))
      · refine pe_iload_n d_Mo_get_50 rfl ?_
        refine pe_bipush (v := nI 8) d_Mo_get_51 (by decide) ?_
        refine pe_aload_n d_Mo_get_53 rfl ?_
        refine pe_getf d_Mo_get_54 f_Mo_108 hMo rfl ?_
        refine pe_imulN d_Mo_get_57 ?_
        refine pe_icmpN_ge (tgt := 74) d_Mo_get_58 (by decide) (by omega) (by omega) (fun c_58 => ?_) (fun c_58 => ?_)
        · exfalso; omega
        · refine pe_aload_n d_Mo_get_61 rfl ?_
          refine pe_getf d_Mo_get_62 f_Mo_87 hMo rfl ?_
          refine pe_iload_n d_Mo_get_65 rfl ?_
          refine pe_bipush (v := nI 8) d_Mo_get_66 (by decide) ?_
          refine pe_idivN d_Mo_get_68 (by omega) (by omega) (by omega) ?_
          refine pe_ialdN d_Mo_get_69 hHo (by omega) (by omega) ?_
          refine pe_iload_n d_Mo_get_70 rfl ?_
          refine pe_icmp_eq (tgt := 80) d_Mo_get_71 (by decide) (fun c_71 => ?_) (fun c_71 => ?_)
          · exact absurd c_71 how
          · refine pe_ldc2 d_Mo_get_74 z_Mo_137 ?_
            refine pe_goto (tgt := 87) d_Mo_get_77 (by decide) ?_
            refine pe_lret d_Mo_get_87 rfl ?_
            exact ⟨rfl, rfl, rfl⟩
    · have c_18 := pb_n0.mp c_18
      exact absurd c_18 (by rw [hmp]; decide)
  · have c_5 := pb_n0.mp c_5
    exact absurd c_5 (by rw [opn_a ha, hop]; decide)
set_option maxHeartbeats 4000000 in
set_option maxRecDepth 20000 in
theorem c_Mo_get_raw {l : Launch} {L : Nat} {xs : Nat → Int32} {h : pz_H} {z : Nat} {np nb now tkg lst flt byt : Nat} {sa sx : Int32} (hMo : MOB h np nb now tkg lst flt byt sa sx) (hnp : np ≤ 32) (hnb : nb ≤ 32) {Mop : Nat → Bool} (hOp : AB h 167 6 Mop) {Mmp : Nat → Bool} (hIm : AB h 168 6 Mmp) {Mho : Nat → Int32} (hHo : AI h 185 32 Mho) {Mwo : Nat → Int32} (hWo : AI h 186 256 Mwo) {Men : Nat → Nat} (hEn : AN h 188 6 Men) {Mke : Nat → Int32} (hKe : AI h 189 168 Mke) {Mva : Nat → Int32} (hVa : AI h 190 168 Mva) {a : Nat} (ha : a < 6) (hop : Mop a = true) {k : Nat} (hk : k < nb * 8) (hmp : Mmp a = false) (how : Mho (k / 8) = nI a) : pz_K l L xs M_Mo_get 2 0 0 [.ref 166, .int (nI a), .int (nI k)] h z (fun v h' z' => v = some (.long (Mwo k).toInt64) ∧ h = h' ∧ z = z') := by
  refine pz_K.of rfl (Nat.le_of_ble_eq_true rfl) ?_
  change pz_E l L xs M_Mo_get 2 0 0 0 [some (.ref 166), some (.int (nI a)), some (.int (nI k)), none] [] h z _
  refine pe_aload_n d_Mo_get_0 rfl ?_
  refine pe_iload_n d_Mo_get_1 rfl ?_
  -- 2: Mo_shut
  refine pe_callV d_Mo_get_2 m_Mo_126 j_Mo_shut v_Mo_shut (c_Mo_shut hMo hnp hnb hOp _) rfl rfl (by simp [Value.category]) (by decide) hMo rfl rfl ?_
  intro v1 h1 z1 hq1
  obtain ⟨rfl, rfl, rfl⟩ := hq1
  change pz_E _ _ _ _ _ _ _ _ _ (_ :: _) _ _ _
  refine pe_if_eq (tgt := 12) d_Mo_get_5 (by decide) (fun c_5 => ?_) (fun c_5 => ?_)
  · have c_5 := pb_0.mp c_5
    refine pe_aload_n d_Mo_get_12 rfl ?_
    refine pe_getf d_Mo_get_13 f_Mo_13 hMo rfl ?_
    refine pe_iload_n d_Mo_get_16 rfl ?_
    refine pe_zaldN d_Mo_get_17 hIm (by omega) (by omega) ?_
    refine pe_if_eq (tgt := 46) d_Mo_get_18 (by decide) (fun c_18 => ?_) (fun c_18 => ?_)
    · have c_18 := pb_0.mp c_18
      refine pe_iload_n d_Mo_get_46 rfl ?_
      refine pe_if_lt (tgt := 74) d_Mo_get_47 (by decide) (fun c_47 => ?_) (fun c_47 => ?_)
      · exact absurd c_47 (nI_pos (by omega))
      · refine pe_iload_n d_Mo_get_50 rfl ?_
        refine pe_bipush (v := nI 8) d_Mo_get_51 (by decide) ?_
        refine pe_aload_n d_Mo_get_53 rfl ?_
        refine pe_getf d_Mo_get_54 f_Mo_108 hMo rfl ?_
        refine pe_imulN d_Mo_get_57 ?_
        refine pe_icmpN_ge (tgt := 74) d_Mo_get_58 (by decide) (by omega) (by omega) (fun c_58 => ?_) (fun c_58 => ?_)
        · exfalso; omega
        · refine pe_aload_n d_Mo_get_61 rfl ?_
          refine pe_getf d_Mo_get_62 f_Mo_87 hMo rfl ?_
          refine pe_iload_n d_Mo_get_65 rfl ?_
          refine pe_bipush (v := nI 8) d_Mo_get_66 (by decide) ?_
          refine pe_idivN d_Mo_get_68 (by omega) (by omega) (by omega) ?_
          refine pe_ialdN d_Mo_get_69 hHo (by omega) (by omega) ?_
          refine pe_iload_n d_Mo_get_70 rfl ?_
          refine pe_icmp_eq (tgt := 80) d_Mo_get_71 (by decide) (fun c_71 => ?_) (fun c_71 => ?_)
          · refine pe_aload_n d_Mo_get_80 rfl ?_
            refine pe_getf d_Mo_get_81 f_Mo_90 hMo rfl ?_
            refine pe_iload_n d_Mo_get_84 rfl ?_
            refine pe_ialdN d_Mo_get_85 hWo (by omega) (by omega) ?_
            refine pe_i2l d_Mo_get_86 ?_
            refine pe_lret d_Mo_get_87 rfl ?_
            exact ⟨rfl, rfl, rfl⟩
          · exact absurd how c_71
    · have c_18 := pb_n0.mp c_18
      exact absurd c_18 (by rw [hmp]; decide)
  · have c_5 := pb_n0.mp c_5
    exact absurd c_5 (by rw [opn_a ha, hop]; decide)
