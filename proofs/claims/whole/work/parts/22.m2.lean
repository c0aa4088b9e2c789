/-! the reference: contracts of BindingKernelModel, second part -/
theorem nI_nn {a : Nat} (h : a < 2147483648) : (0 : Int32) ≤ nI a := nI_pos' h
theorem ot_f {y : Int32} {n : Nat} (h : ot y (nI n) = false) : inn y n = true := by rw [ot_inn] at h; simpa using h
theorem ot_t {y : Int32} {n : Nat} (h : ot y (nI n) = true) : inn y n = false := by rw [ot_inn] at h; simpa using h
theorem ot_n {q n : Nat} (hn : n < 2147483648) (hq : q < n) : ot (nI q) (nI n) = false := by rw [ot_inn, inn_y hn hq]; rfl
theorem nb_f {b : Bool} (h : (!b) = false) : b = true := by simpa using h
theorem nb_t {b : Bool} (h : (!b) = true) : b = false := by simpa using h
theorem own_i {op : Nat → Bool} {mo : Nat → Int32} {np q : Nat} {x : Int32} (hx : opn op x = true) (hq : q < np) (hn : np ≤ 32) (ho : mo q = x) : own op mo np x (nI q) = true := by
  unfold own
  rw [hx, inn_y (by omega) hq, nI_clamp (by omega), decide_eq_true ho]
  rfl
theorem own_e {op : Nat → Bool} {mo : Nat → Int32} {np : Nat} {x y : Int32} (hn : np ≤ 32) (h : own op mo np x y = true) : ∃ a q, a < 6 ∧ op a = true ∧ x = nI a ∧ q < np ∧ y = nI q ∧ mo q = nI a := by
  unfold own at h
  rw [Bool.and_eq_true, Bool.and_eq_true] at h
  obtain ⟨h1, h2, h3⟩ := h
  obtain ⟨a, ha, hop, rfl⟩ := opn_N h1
  obtain ⟨q, hq, rfl⟩ := inn_N (by omega) h2
  rw [nI_clamp (by omega)] at h3
  exact ⟨a, q, ha, hop, rfl, hq, rfl, of_decide_eq_true h3⟩
theorem shg_i {op : Nat → Bool} {mo : Nat → Int32} {np : Nat} {x y t r : Int32} (h1 : inn r 3 = true) (h2 : own op mo np x y = true) (h3 : ¬ t = x) (h4 : opn op t = true) : shg op mo np x y t r = true := by
  unfold shg
  rw [← inn_rng _ (by decide), h1, h2, h4, decide_eq_false h3]
  rfl
theorem shg_e {op : Nat → Bool} {mo : Nat → Int32} {np : Nat} {x y t r : Int32} (h : shg op mo np x y t r = true) : inn r 3 = true ∧ own op mo np x y = true ∧ ¬ t = x ∧ opn op t = true := by
  unfold shg at h
  rw [← inn_rng _ (by decide)] at h
  simp only [Bool.and_eq_true, Bool.not_eq_true', decide_eq_false_iff_not] at h
  exact ⟨h.1, h.2.1, h.2.2.1, h.2.2.2⟩
/-- out of 0 .. 8 - f -/
theorem ot_9 {f : Nat} (hf : f < 8) (c : Int32) : ot c (nI 9 - nI f) = !rng c (nI 0) (nI 8 - nI f) := by
  rw [nI_sub (by omega), nI_sub (by omega), show 9 - f = (8 - f) + 1 by omega, ot_inn, inn_rng _ (by omega)]
theorem opg_i {op : Nat → Bool} {a : Nat} {f c : Int32} {m : Bool} (ha : a < 6) (hcl : op a = false) (hl : m = true ∨ (inn f 8 = true ∧ ot c (nI 9 - f) = false)) : opg op (nI a) m f c = true := by
  unfold opg
  rw [← inn_rng _ (by decide), ← inn_rng _ (by decide), inn_y (by omega) ha, nI_clamp (by omega), hcl]
  rcases hl with q | ⟨q1, q2⟩
  · rw [q]; rfl
  · obtain ⟨f, hf, rfl⟩ := inn_N (by omega) q1
    rw [ot_9 hf] at q2
    rw [q1, nb_f q2]; simp
theorem opg_e {op : Nat → Bool} {x f c : Int32} {m : Bool} (h : opg op x m f c = true) : ∃ a, a < 6 ∧ x = nI a ∧ op a = false ∧ (m = true ∨ ∃ f' c', f' < 8 ∧ f' + c' ≤ 8 ∧ f = nI f' ∧ c = nI c' ∧ (rng f (nI 0) (nI 7) && rng c (nI 0) (nI 8 - f)) = true) := by
  unfold opg at h
  simp only [Bool.and_eq_true, Bool.or_eq_true, Bool.not_eq_true'] at h
  obtain ⟨h1, h2, h3⟩ := h
  obtain ⟨a, -, ha, rfl⟩ := rng_N (by decide) (by decide) h1
  rw [nI_clamp (by omega)] at h3
  refine ⟨a, by omega, rfl, h3, ?_⟩
  rcases h2 with q | ⟨q1, q2⟩
  · exact Or.inl q
  · have q3 := q1
    have q4 := q2
    obtain ⟨f, -, hf, rfl⟩ := rng_N (by decide) (by decide) q1
    rw [nI_sub (by omega)] at q2
    obtain ⟨c, -, hc, rfl⟩ := rng_N (by omega) (by omega) q2
    exact Or.inr ⟨f, c, by omega, by omega, rfl, rfl, by rw [q3, q4]; rfl⟩
set_option maxHeartbeats 4000000 in
set_option maxRecDepth 20000 in
theorem c_Mo_open_no {l : Launch} {L : Nat} {xs : Nat → Int32} {h : pz_H} {z : Nat} {np nb now tkg lst flt byt : Nat} {sa sx : Int32} (hMo : MOB h np nb now tkg lst flt byt sa sx) (hnp : np ≤ 32) (hnb : nb ≤ 32) {Mop : Nat → Bool} (hOp : AB h 167 6 Mop) {Mmp : Nat → Bool} (hIm : AB h 168 6 Mmp) {Mfi : Nat → Int32} (hFi : AI h 169 6 Mfi) {Mlk : Nat → Int32} (hLi : AI h 170 6 Mlk) {Mgm : Nat → Nat} (hGm : AN h 177 6 Mgm) {Mln : Nat → Nat} (hLn : AN h 178 12 Mln) {Mfs : Nat → Nat} (hFs : AN h 182 6 Mfs) {Mho : Nat → Int32} (hHo : AI h 185 32 Mho) {Mwo : Nat → Int32} (hWo : AI h 186 256 Mwo) {Men : Nat → Nat} (hEn : AN h 188 6 Men) (x f c : Int32) (b : Bool) (hno : opg Mop x b f c = false) : pz_K l L xs M_Mo_open 2 0 0 [.ref 166, .int x, .int (pb b), .int f, .int c] h z (fun v h' z' => v = some (.int (-1)) ∧ h = h' ∧ z = z') := by
  refine pz_K.of rfl (Nat.le_of_ble_eq_true rfl) ?_
  change pz_E l L xs M_Mo_open 2 0 0 0 [some (.ref 166), some (.int x), some (.int (pb b)), some (.int f), some (.int c), none] [] h z _
  refine pe_aload_n d_Mo_open_0 rfl ?_
  refine pe_iload_n d_Mo_open_1 rfl ?_
  refine pe_bipush (v := nI 6) d_Mo_open_2 (by decide) ?_
  -- 4: Mo_out
  refine pe_callV d_Mo_open_4 m_Mo_111 j_Mo_out v_Mo_out (c_Mo_out hMo hnp hnb _ _) rfl rfl (by simp [Value.category]) (by decide) hMo rfl rfl ?_
  intro v1 h1 z1 hq1
  obtain ⟨rfl, rfl, rfl⟩ := hq1
  change pz_E _ _ _ _ _ _ _ _ _ (_ :: _) _ _ _
  refine pe_if_eq (tgt := 12) d_Mo_open_7 (by decide) (fun c_7 => ?_) (fun c_7 => ?_)
  · have c_7 := pb_0.mp c_7
    obtain ⟨a, ha, rfl⟩ := inn_N (n := 6) (by omega) (ot_f c_7)
    refine pe_iload_n d_Mo_open_12 rfl ?_
    refine pe_if_ne (tgt := 41) d_Mo_open_13 (by decide) (fun c_13 => ?_) (fun c_13 => ?_)
    · have c_13 := pb_n0.mp c_13
      refine pe_aload_n d_Mo_open_41 rfl ?_
      refine pe_getf d_Mo_open_42 f_Mo_7 hMo rfl ?_
      refine pe_iload_n d_Mo_open_45 rfl ?_
      refine pe_zaldN d_Mo_open_46 hOp (by omega) (by omega) ?_
      refine pe_if_eq (tgt := 52) d_Mo_open_47 (by decide) (fun c_47 => ?_) (fun c_47 => ?_)
      · have c_47 := pb_0.mp c_47
        exact absurd (opg_i ha c_47 (by first | exact Or.inl c_13 | exact Or.inr ⟨ot_f c_23, c_36⟩)) (by rw [hno]; decide)
      · have c_47 := pb_n0.mp c_47
        refine pe_iconst (v := -1) d_Mo_open_50 (by decide) ?_
        refine pe_iret d_Mo_open_51 rfl ?_
        exact ⟨rfl, rfl, rfl⟩
    · have c_13 := pb_0.mp c_13
      refine pe_aload_n d_Mo_open_16 rfl ?_
      refine pe_iload_n d_Mo_open_17 rfl ?_
      refine pe_bipush (v := nI 8) d_Mo_open_18 (by decide) ?_
      -- 20: Mo_out
      refine pe_callV d_Mo_open_20 m_Mo_111 j_Mo_out v_Mo_out (c_Mo_out hMo hnp hnb _ _) rfl rfl (by simp [Value.category]) (by decide) hMo rfl rfl ?_
      intro v1 h1 z1 hq1
      obtain ⟨rfl, rfl, rfl⟩ := hq1
      change pz_E _ _ _ _ _ _ _ _ _ (_ :: _) _ _ _
      refine pe_if_ne (tgt := 39) d_Mo_open_23 (by decide) (fun c_23 => ?_) (fun c_23 => ?_)
      · have c_23 := pb_n0.mp c_23
        refine pe_iconst (v := -1) d_Mo_open_39 (by decide) ?_
        refine pe_iret d_Mo_open_40 rfl ?_
        exact ⟨rfl, rfl, rfl⟩
      · have c_23 := pb_0.mp c_23
        refine pe_aload_n d_Mo_open_26 rfl ?_
        refine pe_iload d_Mo_open_27 rfl ?_
        refine pe_bipush (v := nI 9) d_Mo_open_29 (by decide) ?_
        refine pe_iload_n d_Mo_open_31 rfl ?_
        refine pe_isub d_Mo_open_32 ?_
        -- 33: Mo_out
        refine pe_callV d_Mo_open_33 m_Mo_111 j_Mo_out v_Mo_out (c_Mo_out hMo hnp hnb _ _) rfl rfl (by simp [Value.category]) (by decide) hMo rfl rfl ?_
        intro v1 h1 z1 hq1
        obtain ⟨rfl, rfl, rfl⟩ := hq1
        change pz_E _ _ _ _ _ _ _ _ _ (_ :: _) _ _ _
        refine pe_if_eq (tgt := 41) d_Mo_open_36 (by decide) (fun c_36 => ?_) (fun c_36 => ?_)
        · have c_36 := pb_0.mp c_36
          refine pe_aload_n d_Mo_open_41 rfl ?_
          refine pe_getf d_Mo_open_42 f_Mo_7 hMo rfl ?_
          refine pe_iload_n d_Mo_open_45 rfl ?_
          refine pe_zaldN d_Mo_open_46 hOp (by omega) (by omega) ?_
          refine pe_if_eq (tgt := 52) d_Mo_open_47 (by decide) (fun c_47 => ?_) (fun c_47 => ?_)
          · have c_47 := pb_0.mp c_47
            exact absurd (opg_i ha c_47 (by first | exact Or.inl c_13 | exact Or.inr ⟨ot_f c_23, c_36⟩)) (by rw [hno]; decide)
          · have c_47 := pb_n0.mp c_47
            refine pe_iconst (v := -1) d_Mo_open_50 (by decide) ?_
            refine pe_iret d_Mo_open_51 rfl ?_
            exact ⟨rfl, rfl, rfl⟩
        · have c_36 := pb_n0.mp c_36
          refine pe_iconst (v := -1) d_Mo_open_39 (by decide) ?_
          refine pe_iret d_Mo_open_40 rfl ?_
          exact ⟨rfl, rfl, rfl⟩
  · have c_7 := pb_n0.mp c_7
    refine pe_iconst (v := -1) d_Mo_open_10 (by decide) ?_
    refine pe_iret d_Mo_open_11 rfl ?_
    exact ⟨rfl, rfl, rfl⟩
set_option maxHeartbeats 4000000 in
set_option maxRecDepth 20000 in
theorem c_Mo_open_full_map {l : Launch} {L : Nat} {xs : Nat → Int32} {h : pz_H} {z : Nat} {np nb now tkg lst flt byt : Nat} {sa sx : Int32} (hMo : MOB h np nb now tkg lst flt byt sa sx) (hnp : np ≤ 32) (hnb : nb ≤ 32) {Mop : Nat → Bool} (hOp : AB h 167 6 Mop) {Mmp : Nat → Bool} (hIm : AB h 168 6 Mmp) {Mfi : Nat → Int32} (hFi : AI h 169 6 Mfi) {Mlk : Nat → Int32} (hLi : AI h 170 6 Mlk) {Mgm : Nat → Nat} (hGm : AN h 177 6 Mgm) {Mln : Nat → Nat} (hLn : AN h 178 12 Mln) {Mfs : Nat → Nat} (hFs : AN h 182 6 Mfs) {Mho : Nat → Int32} (hHo : AI h 185 32 Mho) {Mwo : Nat → Int32} (hWo : AI h 186 256 Mwo) {Men : Nat → Nat} (hEn : AN h 188 6 Men) {a : Nat} (ha : a < 6) (hcl : Mop a = false) (f c : Int32) (hfull : ¬ ff (fun j => !decide (0 ≤ Mho j)) nb 0 < nb) : pz_K l L xs M_Mo_open 2 0 0 [.ref 166, .int (nI a), .int (pb true), .int f, .int c] h z (fun v h' z' => v = some (.int (-2)) ∧ h = h' ∧ z = z') := by
  refine pz_K.of rfl (Nat.le_of_ble_eq_true rfl) ?_
  change pz_E l L xs M_Mo_open 2 0 0 0 [some (.ref 166), some (.int (nI a)), some (.int (pb true)), some (.int f), some (.int c), none] [] h z _
  refine pe_aload_n d_Mo_open_0 rfl ?_
  refine pe_iload_n d_Mo_open_1 rfl ?_
  refine pe_bipush (v := nI 6) d_Mo_open_2 (by decide) ?_
  -- 4: Mo_out
  refine pe_callV d_Mo_open_4 m_Mo_111 j_Mo_out v_Mo_out (c_Mo_out hMo hnp hnb _ _) rfl rfl (by simp [Value.category]) (by decide) hMo rfl rfl ?_
  intro v1 h1 z1 hq1
  obtain ⟨rfl, rfl, rfl⟩ := hq1
  change pz_E _ _ _ _ _ _ _ _ _ (_ :: _) _ _ _
  refine pe_if_eq (tgt := 12) d_Mo_open_7 (by decide) (fun c_7 => ?_) (fun c_7 => ?_)
  · have c_7 := pb_0.mp c_7
    refine pe_iload_n d_Mo_open_12 rfl ?_
    refine pe_if_ne (tgt := 41) d_Mo_open_13 (by decide) (fun c_13 => ?_) (fun c_13 => ?_)
    · have c_13 := pb_n0.mp c_13
      refine pe_aload_n d_Mo_open_41 rfl ?_
      refine pe_getf d_Mo_open_42 f_Mo_7 hMo rfl ?_
      refine pe_iload_n d_Mo_open_45 rfl ?_
      refine pe_zaldN d_Mo_open_46 hOp (by omega) (by omega) ?_
      refine pe_if_eq (tgt := 52) d_Mo_open_47 (by decide) (fun c_47 => ?_) (fun c_47 => ?_)
      · have c_47 := pb_0.mp c_47
        refine pe_aload_n d_Mo_open_52 rfl ?_
        -- 53: Mo_freeBlock
        refine pe_callV d_Mo_open_53 m_Mo_118 j_Mo_freeBlock v_Mo_freeBlock (c_Mo_freeBlock hMo hnp hnb hHo ) rfl rfl (by simp [Value.category]) (by decide) hMo rfl rfl ?_
        intro v1 h1 z1 hq1
        obtain ⟨rfl, rfl, rfl⟩ := hq1
        rw [Nat.sub_zero]
        rw [orm_ge hfull]
        change pz_E _ _ _ _ _ _ _ _ _ (_ :: _) _ _ _
        refine pe_istore d_Mo_open_56 (by decide) rfl ?_
        dsimp only [List.set]
        refine pe_iload d_Mo_open_58 rfl ?_
        refine pe_if_ge (tgt := 66) d_Mo_open_60 (by decide) (fun c_60 => ?_) (fun c_60 => ?_)
        · exact absurd c_60 (by decide)
        · refine pe_bipush (v := -2) d_Mo_open_63 (by decide) ?_
          refine pe_iret d_Mo_open_65 rfl ?_
          exact ⟨rfl, rfl, rfl⟩
      · have c_47 := pb_n0.mp c_47
        exact absurd c_47 (by rw [hcl]; decide)
    · have c_13 := pb_0.mp c_13
      exact absurd c_13 (by decide)
  · have c_7 := pb_n0.mp c_7
    exact absurd c_7 (by rw [ot_n (by omega) ha]; decide)
set_option maxHeartbeats 4000000 in
set_option maxRecDepth 20000 in
theorem c_Mo_open_map {l : Launch} {L : Nat} {xs : Nat → Int32} {h : pz_H} {z : Nat} {np nb now tkg lst flt byt : Nat} {sa sx : Int32} (hMo : MOB h np nb now tkg lst flt byt sa sx) (hnp : np ≤ 32) (hnb : nb ≤ 32) {Mop : Nat → Bool} (hOp : AB h 167 6 Mop) {Mmp : Nat → Bool} (hIm : AB h 168 6 Mmp) {Mfi : Nat → Int32} (hFi : AI h 169 6 Mfi) {Mlk : Nat → Int32} (hLi : AI h 170 6 Mlk) {Mgm : Nat → Nat} (hGm : AN h 177 6 Mgm) {Mln : Nat → Nat} (hLn : AN h 178 12 Mln) {Mfs : Nat → Nat} (hFs : AN h 182 6 Mfs) {Mho : Nat → Int32} (hHo : AI h 185 32 Mho) {Mwo : Nat → Int32} (hWo : AI h 186 256 Mwo) {Men : Nat → Nat} (hEn : AN h 188 6 Men) {a : Nat} (ha : a < 6) (hcl : Mop a = false) (f c : Int32) {bb : Nat} (hbe : bb = ff (fun j => !decide (0 ≤ Mho j)) nb 0) (hb : bb < nb) : pz_K l L xs M_Mo_open 2 0 0 [.ref 166, .int (nI a), .int (pb true), .int f, .int c] h z (fun v h' z' => v = some (.int (nI 0)) ∧ z = z' ∧ AB h' 167 6 (updB Mop a true) ∧ AB h' 168 6 (updB Mmp a true) ∧ AI h' 169 6 (upd Mfi a f) ∧ AI h' 170 6 (upd Mlk a c) ∧ AN h' 177 6 (va_up Mgm a 0) ∧ AN h' 178 12 (va_up Mln a 0) ∧ AN h' 182 6 (va_up Mfs a 0) ∧ AI h' 185 32 (upd Mho bb (nI a)) ∧ AI h' 186 256 (fil Mwo (lkw bb 0 0) (bb * 8) 8) ∧ AN h' 188 6 (va_up Men a 0) ∧ frx [167, 168, 169, 170, 177, 178, 182, 185, 186, 188] h h') := by
  refine pz_K.of rfl (Nat.le_of_ble_eq_true rfl) ?_
  have hf : frx [167, 168, 169, 170, 177, 178, 182, 185, 186, 188] h h := frx.rf
  change pz_E l L xs M_Mo_open 2 0 0 0 [some (.ref 166), some (.int (nI a)), some (.int (pb true)), some (.int f), some (.int c), none] [] h z _
  refine pe_aload_n d_Mo_open_0 rfl ?_
  refine pe_iload_n d_Mo_open_1 rfl ?_
  refine pe_bipush (v := nI 6) d_Mo_open_2 (by decide) ?_
  -- 4: Mo_out
  refine pe_callV d_Mo_open_4 m_Mo_111 j_Mo_out v_Mo_out (c_Mo_out hMo hnp hnb _ _) rfl rfl (by simp [Value.category]) (by decide) hMo rfl rfl ?_
  intro v1 h1 z1 hq1
  obtain ⟨rfl, rfl, rfl⟩ := hq1
  change pz_E _ _ _ _ _ _ _ _ _ (_ :: _) _ _ _
  refine pe_if_eq (tgt := 12) d_Mo_open_7 (by decide) (fun c_7 => ?_) (fun c_7 => ?_)
  · have c_7 := pb_0.mp c_7
    refine pe_iload_n d_Mo_open_12 rfl ?_
    refine pe_if_ne (tgt := 41) d_Mo_open_13 (by decide) (fun c_13 => ?_) (fun c_13 => ?_)
    · have c_13 := pb_n0.mp c_13
      refine pe_aload_n d_Mo_open_41 rfl ?_
      refine pe_getf d_Mo_open_42 f_Mo_7 hMo rfl ?_
      refine pe_iload_n d_Mo_open_45 rfl ?_
      refine pe_zaldN d_Mo_open_46 hOp (by omega) (by omega) ?_
      refine pe_if_eq (tgt := 52) d_Mo_open_47 (by decide) (fun c_47 => ?_) (fun c_47 => ?_)
      · have c_47 := pb_0.mp c_47
        refine pe_aload_n d_Mo_open_52 rfl ?_
        -- 53: Mo_freeBlock
        refine pe_callV d_Mo_open_53 m_Mo_118 j_Mo_freeBlock v_Mo_freeBlock (c_Mo_freeBlock hMo hnp hnb hHo ) rfl rfl (by simp [Value.category]) (by decide) hMo rfl rfl ?_
        intro v1 h1 z1 hq1
        obtain ⟨rfl, rfl, rfl⟩ := hq1
        rw [Nat.sub_zero]
        rw [← hbe, orm_lt hb]
        change pz_E _ _ _ _ _ _ _ _ _ (_ :: _) _ _ _
        refine pe_istore d_Mo_open_56 (by decide) rfl ?_
        dsimp only [List.set]
        refine pe_iload d_Mo_open_58 rfl ?_
        refine pe_if_ge (tgt := 66) d_Mo_open_60 (by decide) (fun c_60 => ?_) (fun c_60 => ?_)
        · refine pe_aload_n d_Mo_open_66 rfl ?_
          refine pe_getf d_Mo_open_67 f_Mo_7 hMo rfl ?_
          refine pe_iload_n d_Mo_open_70 rfl ?_
          refine pe_iconst (v := nI 1) d_Mo_open_71 (by decide) ?_
          refine pe_top (y := .int (pb true)) (by decide) ?_
          refine pe_zastN d_Mo_open_72 hOp (by omega) (by omega) ?_
          rw [upb]
          refine pe_pu (fun h2 e2 o2 => ?_)
          have hMo := (o2 (166) (by omega)).trans hMo
          have hOp := e2
          have hIm := (o2 (168) (by omega)).trans hIm
          have hFi := (o2 (169) (by omega)).trans hFi
          have hLi := (o2 (170) (by omega)).trans hLi
          have hGm := (o2 (177) (by omega)).trans hGm
          have hLn := (o2 (178) (by omega)).trans hLn
          have hFs := (o2 (182) (by omega)).trans hFs
          have hHo := (o2 (185) (by omega)).trans hHo
          have hWo := (o2 (186) (by omega)).trans hWo
          have hEn := (o2 (188) (by omega)).trans hEn
          have hf := hf.st o2 (by decide)
          refine pe_aload_n d_Mo_open_73 rfl ?_
          refine pe_getf d_Mo_open_74 f_Mo_13 hMo rfl ?_
          refine pe_iload_n d_Mo_open_77 rfl ?_
          refine pe_iload_n d_Mo_open_78 rfl ?_
          refine pe_zastN d_Mo_open_79 hIm (by omega) (by omega) ?_
          rw [upb]
          refine pe_pu (fun h2 e2 o2 => ?_)
          have hMo := (o2 (166) (by omega)).trans hMo
          have hOp := (o2 (167) (by omega)).trans hOp
          have hIm := e2
          have hFi := (o2 (169) (by omega)).trans hFi
          have hLi := (o2 (170) (by omega)).trans hLi
          have hGm := (o2 (177) (by omega)).trans hGm
          have hLn := (o2 (178) (by omega)).trans hLn
          have hFs := (o2 (182) (by omega)).trans hFs
          have hHo := (o2 (185) (by omega)).trans hHo
          have hWo := (o2 (186) (by omega)).trans hWo
          have hEn := (o2 (188) (by omega)).trans hEn
          have hf := hf.st o2 (by decide)
          refine pe_aload_n d_Mo_open_80 rfl ?_
          refine pe_getf d_Mo_open_81 f_Mo_16 hMo rfl ?_
          refine pe_iload_n d_Mo_open_84 rfl ?_
          refine pe_iload_n d_Mo_open_85 rfl ?_
          refine pe_iastN d_Mo_open_86 hFi (by omega) (by omega) ?_
          refine pe_pu (fun h2 e2 o2 => ?_)
          have hMo := (o2 (166) (by omega)).trans hMo
          have hOp := (o2 (167) (by omega)).trans hOp
          have hIm := (o2 (168) (by omega)).trans hIm
          have hFi := e2
          have hLi := (o2 (170) (by omega)).trans hLi
          have hGm := (o2 (177) (by omega)).trans hGm
          have hLn := (o2 (178) (by omega)).trans hLn
          have hFs := (o2 (182) (by omega)).trans hFs
          have hHo := (o2 (185) (by omega)).trans hHo
          have hWo := (o2 (186) (by omega)).trans hWo
          have hEn := (o2 (188) (by omega)).trans hEn
          have hf := hf.st o2 (by decide)
          refine pe_aload_n d_Mo_open_87 rfl ?_
          refine pe_getf d_Mo_open_88 f_Mo_20 hMo rfl ?_
          refine pe_iload_n d_Mo_open_91 rfl ?_
          refine pe_iload d_Mo_open_92 rfl ?_
          refine pe_iastN d_Mo_open_94 hLi (by omega) (by omega) ?_
          refine pe_pu (fun h2 e2 o2 => ?_)
          have hMo := (o2 (166) (by omega)).trans hMo
          have hOp := (o2 (167) (by omega)).trans hOp
          have hIm := (o2 (168) (by omega)).trans hIm
          have hFi := (o2 (169) (by omega)).trans hFi
          have hLi := e2
          have hGm := (o2 (177) (by omega)).trans hGm
          have hLn := (o2 (178) (by omega)).trans hLn
          have hFs := (o2 (182) (by omega)).trans hFs
          have hHo := (o2 (185) (by omega)).trans hHo
          have hWo := (o2 (186) (by omega)).trans hWo
          have hEn := (o2 (188) (by omega)).trans hEn
          have hf := hf.st o2 (by decide)
          refine pe_aload_n d_Mo_open_95 rfl ?_
          refine pe_iload_n d_Mo_open_96 rfl ?_
          refine pe_iload d_Mo_open_97 rfl ?_
          -- 99: Mo_renew
          refine pe_callV d_Mo_open_99 m_Mo_122 j_Mo_renew v_Mo_renew (c_Mo_renew_map hMo hnp hnb hIm hFi hLi hHo hWo (a := a) (b := bb) ha (by omega) (updB_eq _ _ _)) rfl rfl (by simp [Value.category]) (by decide) hMo rfl rfl ?_
          intro v1 h1 z1 hq1
          obtain ⟨rfl, rfl, hHo, hWo, hf1⟩ := hq1
          have hMo := MOB.mv hMo (hf1 166 (by decide))
          have hOp := (hf1 167 (by decide)).trans hOp
          have hIm := (hf1 168 (by decide)).trans hIm
          have hFi := (hf1 169 (by decide)).trans hFi
          have hLi := (hf1 170 (by decide)).trans hLi
          have hGm := (hf1 177 (by decide)).trans hGm
          have hLn := (hf1 178 (by decide)).trans hLn
          have hFs := (hf1 182 (by decide)).trans hFs
          have hEn := (hf1 188 (by decide)).trans hEn
          have hf := hf.tr (hf1.wd (by decide))
          change pz_E _ _ _ _ _ _ _ _ _ _ _ _ _
          refine pe_aload_n d_Mo_open_102 rfl ?_
          refine pe_getf d_Mo_open_103 f_Mo_54 hMo rfl ?_
          refine pe_iload_n d_Mo_open_106 rfl ?_
          refine pe_iconst (v := nI 0) d_Mo_open_107 (by decide) ?_
          refine pe_iastN d_Mo_open_108 hLn (by omega) (by omega) ?_
          rw [upn]
          refine pe_pu (fun h2 e2 o2 => ?_)
          have hMo := (o2 (166) (by omega)).trans hMo
          have hOp := (o2 (167) (by omega)).trans hOp
          have hIm := (o2 (168) (by omega)).trans hIm
          have hFi := (o2 (169) (by omega)).trans hFi
          have hLi := (o2 (170) (by omega)).trans hLi
          have hGm := (o2 (177) (by omega)).trans hGm
          have hLn := e2
          have hFs := (o2 (182) (by omega)).trans hFs
          have hHo := (o2 (185) (by omega)).trans hHo
          have hWo := (o2 (186) (by omega)).trans hWo
          have hEn := (o2 (188) (by omega)).trans hEn
          have hf := hf.st o2 (by decide)
          refine pe_aload_n d_Mo_open_109 rfl ?_
          refine pe_getf d_Mo_open_110 f_Mo_72 hMo rfl ?_
          refine pe_iload_n d_Mo_open_113 rfl ?_
          refine pe_iconst (v := nI 0) d_Mo_open_114 (by decide) ?_
          refine pe_iastN d_Mo_open_115 hFs (by omega) (by omega) ?_
          rw [upn]
          refine pe_pu (fun h2 e2 o2 => ?_)
          have hMo := (o2 (166) (by omega)).trans hMo
          have hOp := (o2 (167) (by omega)).trans hOp
          have hIm := (o2 (168) (by omega)).trans hIm
          have hFi := (o2 (169) (by omega)).trans hFi
          have hLi := (o2 (170) (by omega)).trans hLi
          have hGm := (o2 (177) (by omega)).trans hGm
          have hLn := (o2 (178) (by omega)).trans hLn
          have hFs := e2
          have hHo := (o2 (185) (by omega)).trans hHo
          have hWo := (o2 (186) (by omega)).trans hWo
          have hEn := (o2 (188) (by omega)).trans hEn
          have hf := hf.st o2 (by decide)
          refine pe_aload_n d_Mo_open_116 rfl ?_
          refine pe_getf d_Mo_open_117 f_Mo_96 hMo rfl ?_
          refine pe_iload_n d_Mo_open_120 rfl ?_
          refine pe_iconst (v := nI 0) d_Mo_open_121 (by decide) ?_
          refine pe_iastN d_Mo_open_122 hEn (by omega) (by omega) ?_
          rw [upn]
          refine pe_pu (fun h2 e2 o2 => ?_)
          have hMo := (o2 (166) (by omega)).trans hMo
          have hOp := (o2 (167) (by omega)).trans hOp
          have hIm := (o2 (168) (by omega)).trans hIm
          have hFi := (o2 (169) (by omega)).trans hFi
          have hLi := (o2 (170) (by omega)).trans hLi
          have hGm := (o2 (177) (by omega)).trans hGm
          have hLn := (o2 (178) (by omega)).trans hLn
          have hFs := (o2 (182) (by omega)).trans hFs
          have hHo := (o2 (185) (by omega)).trans hHo
          have hWo := (o2 (186) (by omega)).trans hWo
          have hEn := e2
          have hf := hf.st o2 (by decide)
          refine pe_aload_n d_Mo_open_123 rfl ?_
          refine pe_getf d_Mo_open_124 f_Mo_51 hMo rfl ?_
          refine pe_iload_n d_Mo_open_127 rfl ?_
          refine pe_iconst (v := nI 0) d_Mo_open_128 (by decide) ?_
          refine pe_iastN d_Mo_open_129 hGm (by omega) (by omega) ?_
          rw [upn]
          refine pe_pu (fun h2 e2 o2 => ?_)
          have hMo := (o2 (166) (by omega)).trans hMo
          have hOp := (o2 (167) (by omega)).trans hOp
          have hIm := (o2 (168) (by omega)).trans hIm
          have hFi := (o2 (169) (by omega)).trans hFi
          have hLi := (o2 (170) (by omega)).trans hLi
          have hGm := e2
          have hLn := (o2 (178) (by omega)).trans hLn
          have hFs := (o2 (182) (by omega)).trans hFs
          have hHo := (o2 (185) (by omega)).trans hHo
          have hWo := (o2 (186) (by omega)).trans hWo
          have hEn := (o2 (188) (by omega)).trans hEn
          have hf := hf.st o2 (by decide)
          refine pe_iconst (v := nI 0) d_Mo_open_130 (by decide) ?_
          refine pe_iret d_Mo_open_131 rfl ?_
          exact ⟨rfl, rfl, hOp, hIm, hFi, hLi, hGm, hLn, hFs, hHo, hWo, hEn, hf⟩
        · exact absurd (nI_nn (by omega)) c_60
      · have c_47 := pb_n0.mp c_47
        exact absurd c_47 (by rw [hcl]; decide)
    · have c_13 := pb_0.mp c_13
      exact absurd c_13 (by decide)
  · have c_7 := pb_n0.mp c_7
    exact absurd c_7 (by rw [ot_n (by omega) ha]; decide)
set_option maxHeartbeats 4000000 in
set_option maxRecDepth 20000 in
theorem c_Mo_open_full_raw {l : Launch} {L : Nat} {xs : Nat → Int32} {h : pz_H} {z : Nat} {np nb now tkg lst flt byt : Nat} {sa sx : Int32} (hMo : MOB h np nb now tkg lst flt byt sa sx) (hnp : np ≤ 32) (hnb : nb ≤ 32) {Mop : Nat → Bool} (hOp : AB h 167 6 Mop) {Mmp : Nat → Bool} (hIm : AB h 168 6 Mmp) {Mfi : Nat → Int32} (hFi : AI h 169 6 Mfi) {Mlk : Nat → Int32} (hLi : AI h 170 6 Mlk) {Mgm : Nat → Nat} (hGm : AN h 177 6 Mgm) {Mln : Nat → Nat} (hLn : AN h 178 12 Mln) {Mfs : Nat → Nat} (hFs : AN h 182 6 Mfs) {Mho : Nat → Int32} (hHo : AI h 185 32 Mho) {Mwo : Nat → Int32} (hWo : AI h 186 256 Mwo) {Men : Nat → Nat} (hEn : AN h 188 6 Men) {a : Nat} (ha : a < 6) (hcl : Mop a = false) {f c : Nat} (hf8 : f < 8) (hfc : f + c ≤ 8) (hfull : ¬ ff (fun j => !decide (0 ≤ Mho j)) nb 0 < nb) : pz_K l L xs M_Mo_open 2 0 0 [.ref 166, .int (nI a), .int (pb false), .int (nI f), .int (nI c)] h z (fun v h' z' => v = some (.int (-2)) ∧ h = h' ∧ z = z') := by
  refine pz_K.of rfl (Nat.le_of_ble_eq_true rfl) ?_
  change pz_E l L xs M_Mo_open 2 0 0 0 [some (.ref 166), some (.int (nI a)), some (.int (pb false)), some (.int (nI f)), some (.int (nI c)), none] [] h z _
  refine pe_aload_n d_Mo_open_0 rfl ?_
  refine pe_iload_n d_Mo_open_1 rfl ?_
  refine pe_bipush (v := nI 6) d_Mo_open_2 (by decide) ?_
  -- 4: Mo_out
  refine pe_callV d_Mo_open_4 m_Mo_111 j_Mo_out v_Mo_out (c_Mo_out hMo hnp hnb _ _) rfl rfl (by simp [Value.category]) (by decide) hMo rfl rfl ?_
  intro v1 h1 z1 hq1
  obtain ⟨rfl, rfl, rfl⟩ := hq1
  change pz_E _ _ _ _ _ _ _ _ _ (_ :: _) _ _ _
  refine pe_if_eq (tgt := 12) d_Mo_open_7 (by decide) (fun c_7 => ?_) (fun c_7 => ?_)
  · have c_7 := pb_0.mp c_7
    refine pe_iload_n d_Mo_open_12 rfl ?_
    refine pe_if_ne (tgt := 41) d_Mo_open_13 (by decide) (fun c_13 => ?_) (fun c_13 => ?_)
    · have c_13 := pb_n0.mp c_13
      exact absurd c_13 (by decide)
    · have c_13 := pb_0.mp c_13
      refine pe_aload_n d_Mo_open_16 rfl ?_
      refine pe_iload_n d_Mo_open_17 rfl ?_
      refine pe_bipush (v := nI 8) d_Mo_open_18 (by decide) ?_
      -- 20: Mo_out
      refine pe_callV d_Mo_open_20 m_Mo_111 j_Mo_out v_Mo_out (c_Mo_out hMo hnp hnb _ _) rfl rfl (by simp [Value.category]) (by decide) hMo rfl rfl ?_
      intro v1 h1 z1 hq1
      obtain ⟨rfl, rfl, rfl⟩ := hq1
      change pz_E _ _ _ _ _ _ _ _ _ (_ :: _) _ _ _
      refine pe_if_ne (tgt := 39) d_Mo_open_23 (by decide) (fun c_23 => ?_) (fun c_23 => ?_)
      · have c_23 := pb_n0.mp c_23
        exact absurd c_23 (by rw [ot_n (by omega) hf8]; decide)
      · have c_23 := pb_0.mp c_23
        refine pe_aload_n d_Mo_open_26 rfl ?_
        refine pe_iload d_Mo_open_27 rfl ?_
        refine pe_bipush (v := nI 9) d_Mo_open_29 (by decide) ?_
        refine pe_iload_n d_Mo_open_31 rfl ?_
        refine pe_isubN d_Mo_open_32 (by omega) ?_
        -- 33: Mo_out
        refine pe_callV d_Mo_open_33 m_Mo_111 j_Mo_out v_Mo_out (c_Mo_out hMo hnp hnb _ _) rfl rfl (by simp [Value.category]) (by decide) hMo rfl rfl ?_
        intro v1 h1 z1 hq1
        obtain ⟨rfl, rfl, rfl⟩ := hq1
        change pz_E _ _ _ _ _ _ _ _ _ (_ :: _) _ _ _
        refine pe_if_eq (tgt := 41) d_Mo_open_36 (by decide) (fun c_36 => ?_) (fun c_36 => ?_)
        · have c_36 := pb_0.mp c_36
          refine pe_aload_n d_Mo_open_41 rfl ?_
          refine pe_getf d_Mo_open_42 f_Mo_7 hMo rfl ?_
          refine pe_iload_n d_Mo_open_45 rfl ?_
          refine pe_zaldN d_Mo_open_46 hOp (by omega) (by omega) ?_
          refine pe_if_eq (tgt := 52) d_Mo_open_47 (by decide) (fun c_47 => ?_) (fun c_47 => ?_)
          · have c_47 := pb_0.mp c_47
            refine pe_aload_n d_Mo_open_52 rfl ?_
            -- 53: Mo_freeBlock
            refine pe_callV d_Mo_open_53 m_Mo_118 j_Mo_freeBlock v_Mo_freeBlock (c_Mo_freeBlock hMo hnp hnb hHo ) rfl rfl (by simp [Value.category]) (by decide) hMo rfl rfl ?_
            intro v1 h1 z1 hq1
            obtain ⟨rfl, rfl, rfl⟩ := hq1
            rw [Nat.sub_zero]
            rw [orm_ge hfull]
            change pz_E _ _ _ _ _ _ _ _ _ (_ :: _) _ _ _
            refine pe_istore d_Mo_open_56 (by decide) rfl ?_
            dsimp only [List.set]
            refine pe_iload d_Mo_open_58 rfl ?_
            refine pe_if_ge (tgt := 66) d_Mo_open_60 (by decide) (fun c_60 => ?_) (fun c_60 => ?_)
            · exact absurd c_60 (by decide)
            · refine pe_bipush (v := -2) d_Mo_open_63 (by decide) ?_
              refine pe_iret d_Mo_open_65 rfl ?_
              exact ⟨rfl, rfl, rfl⟩
          · have c_47 := pb_n0.mp c_47
            exact absurd c_47 (by rw [hcl]; decide)
        · have c_36 := pb_n0.mp c_36
          exact absurd c_36 (by rw [ot_n (by omega) (by omega)]; decide)
  · have c_7 := pb_n0.mp c_7
    exact absurd c_7 (by rw [ot_n (by omega) ha]; decide)
set_option maxHeartbeats 4000000 in
set_option maxRecDepth 20000 in
theorem c_Mo_open_raw {l : Launch} {L : Nat} {xs : Nat → Int32} {h : pz_H} {z : Nat} {np nb now tkg lst flt byt : Nat} {sa sx : Int32} (hMo : MOB h np nb now tkg lst flt byt sa sx) (hnp : np ≤ 32) (hnb : nb ≤ 32) {Mop : Nat → Bool} (hOp : AB h 167 6 Mop) {Mmp : Nat → Bool} (hIm : AB h 168 6 Mmp) {Mfi : Nat → Int32} (hFi : AI h 169 6 Mfi) {Mlk : Nat → Int32} (hLi : AI h 170 6 Mlk) {Mgm : Nat → Nat} (hGm : AN h 177 6 Mgm) {Mln : Nat → Nat} (hLn : AN h 178 12 Mln) {Mfs : Nat → Nat} (hFs : AN h 182 6 Mfs) {Mho : Nat → Int32} (hHo : AI h 185 32 Mho) {Mwo : Nat → Int32} (hWo : AI h 186 256 Mwo) {Men : Nat → Nat} (hEn : AN h 188 6 Men) {a : Nat} (ha : a < 6) (hcl : Mop a = false) {f c : Nat} (hf8 : f < 8) (hfc : f + c ≤ 8) {bb : Nat} (hbe : bb = ff (fun j => !decide (0 ≤ Mho j)) nb 0) (hb : bb < nb) : pz_K l L xs M_Mo_open 2 0 0 [.ref 166, .int (nI a), .int (pb false), .int (nI f), .int (nI c)] h z (fun v h' z' => v = some (.int (nI 0)) ∧ z = z' ∧ AB h' 167 6 (updB Mop a true) ∧ AB h' 168 6 (updB Mmp a false) ∧ AI h' 169 6 (upd Mfi a (nI f)) ∧ AI h' 170 6 (upd Mlk a (nI c)) ∧ AN h' 177 6 (va_up Mgm a 0) ∧ AN h' 178 12 (va_up Mln a 0) ∧ AN h' 182 6 (va_up Mfs a 0) ∧ AI h' 185 32 (upd Mho bb (nI a)) ∧ AI h' 186 256 (fil Mwo (lkw bb f c) (bb * 8) 8) ∧ AN h' 188 6 (va_up Men a 0) ∧ frx [167, 168, 169, 170, 177, 178, 182, 185, 186, 188] h h') := by
  refine pz_K.of rfl (Nat.le_of_ble_eq_true rfl) ?_
  have hf : frx [167, 168, 169, 170, 177, 178, 182, 185, 186, 188] h h := frx.rf
  change pz_E l L xs M_Mo_open 2 0 0 0 [some (.ref 166), some (.int (nI a)), some (.int (pb false)), some (.int (nI f)), some (.int (nI c)), none] [] h z _
  refine pe_aload_n d_Mo_open_0 rfl ?_
  refine pe_iload_n d_Mo_open_1 rfl ?_
  refine pe_bipush (v := nI 6) d_Mo_open_2 (by decide) ?_
  -- 4: Mo_out
  refine pe_callV d_Mo_open_4 m_Mo_111 j_Mo_out v_Mo_out (c_Mo_out hMo hnp hnb _ _) rfl rfl (by simp [Value.category]) (by decide) hMo rfl rfl ?_
  intro v1 h1 z1 hq1
  obtain ⟨rfl, rfl, rfl⟩ := hq1
  change pz_E _ _ _ _ _ _ _ _ _ (_ :: _) _ _ _
  refine pe_if_eq (tgt := 12) d_Mo_open_7 (by decide) (fun c_7 => ?_) (fun c_7 => ?_)
  · have c_7 := pb_0.mp c_7
    refine pe_iload_n d_Mo_open_12 rfl ?_
    refine pe_if_ne (tgt := 41) d_Mo_open_13 (by decide) (fun c_13 => ?_) (fun c_13 => ?_)
    · have c_13 := pb_n0.mp c_13
      exact absurd c_13 (by decide)
    · have c_13 := pb_0.mp c_13
      refine pe_aload_n d_Mo_open_16 rfl ?_
      refine pe_iload_n d_Mo_open_17 rfl ?_
      refine pe_bipush (v := nI 8) d_Mo_open_18 (by decide) ?_
      -- 20: Mo_out
      refine pe_callV d_Mo_open_20 m_Mo_111 j_Mo_out v_Mo_out (c_Mo_out hMo hnp hnb _ _) rfl rfl (by simp [Value.category]) (by decide) hMo rfl rfl ?_
      intro v1 h1 z1 hq1
      obtain ⟨rfl, rfl, rfl⟩ := hq1
      change pz_E _ _ _ _ _ _ _ _ _ (_ :: _) _ _ _
      refine pe_if_ne (tgt := 39) d_Mo_open_23 (by decide) (fun c_23 => ?_) (fun c_23 => ?_)
      · have c_23 := pb_n0.mp c_23
        exact absurd c_23 (by rw [ot_n (by omega) hf8]; decide)
      · have c_23 := pb_0.mp c_23
        refine pe_aload_n d_Mo_open_26 rfl ?_
        refine pe_iload d_Mo_open_27 rfl ?_
        refine pe_bipush (v := nI 9) d_Mo_open_29 (by decide) ?_
        refine pe_iload_n d_Mo_open_31 rfl ?_
        refine pe_isubN d_Mo_open_32 (by omega) ?_
        -- 33: Mo_out
        refine pe_callV d_Mo_open_33 m_Mo_111 j_Mo_out v_Mo_out (c_Mo_out hMo hnp hnb _ _) rfl rfl (by simp [Value.category]) (by decide) hMo rfl rfl ?_
        intro v1 h1 z1 hq1
        obtain ⟨rfl, rfl, rfl⟩ := hq1
        change pz_E _ _ _ _ _ _ _ _ _ (_ :: _) _ _ _
        refine pe_if_eq (tgt := 41) d_Mo_open_36 (by decide) (fun c_36 => ?_) (fun c_36 => ?_)
        · have c_36 := pb_0.mp c_36
          refine pe_aload_n d_Mo_open_41 rfl ?_
          refine pe_getf d_Mo_open_42 f_Mo_7 hMo rfl ?_
          refine pe_iload_n d_Mo_open_45 rfl ?_
          refine pe_zaldN d_Mo_open_46 hOp (by omega) (by omega) ?_
          refine pe_if_eq (tgt := 52) d_Mo_open_47 (by decide) (fun c_47 => ?_) (fun c_47 => ?_)
          · have c_47 := pb_0.mp c_47
            refine pe_aload_n d_Mo_open_52 rfl ?_
            -- 53: Mo_freeBlock
            refine pe_callV d_Mo_open_53 m_Mo_118 j_Mo_freeBlock v_Mo_freeBlock (c_Mo_freeBlock hMo hnp hnb hHo ) rfl rfl (by simp [Value.category]) (by decide) hMo rfl rfl ?_
            intro v1 h1 z1 hq1
            obtain ⟨rfl, rfl, rfl⟩ := hq1
            rw [Nat.sub_zero]
            rw [← hbe, orm_lt hb]
            change pz_E _ _ _ _ _ _ _ _ _ (_ :: _) _ _ _
            refine pe_istore d_Mo_open_56 (by decide) rfl ?_
            dsimp only [List.set]
            refine pe_iload d_Mo_open_58 rfl ?_
            refine pe_if_ge (tgt := 66) d_Mo_open_60 (by decide) (fun c_60 => ?_) (fun c_60 => ?_)
            · refine pe_aload_n d_Mo_open_66 rfl ?_
              refine pe_getf d_Mo_open_67 f_Mo_7 hMo rfl ?_
              refine pe_iload_n d_Mo_open_70 rfl ?_
              refine pe_iconst (v := nI 1) d_Mo_open_71 (by decide) ?_
              refine pe_top (y := .int (pb true)) (by decide) ?_
              refine pe_zastN d_Mo_open_72 hOp (by omega) (by omega) ?_
              rw [upb]
              refine pe_pu (fun h2 e2 o2 => ?_)
              have hMo := (o2 (166) (by omega)).trans hMo
              have hOp := e2
              have hIm := (o2 (168) (by omega)).trans hIm
              have hFi := (o2 (169) (by omega)).trans hFi
              have hLi := (o2 (170) (by omega)).trans hLi
              have hGm := (o2 (177) (by omega)).trans hGm
              have hLn := (o2 (178) (by omega)).trans hLn
              have hFs := (o2 (182) (by omega)).trans hFs
              have hHo := (o2 (185) (by omega)).trans hHo
              have hWo := (o2 (186) (by omega)).trans hWo
              have hEn := (o2 (188) (by omega)).trans hEn
              have hf := hf.st o2 (by decide)
              refine pe_aload_n d_Mo_open_73 rfl ?_
              refine pe_getf d_Mo_open_74 f_Mo_13 hMo rfl ?_
              refine pe_iload_n d_Mo_open_77 rfl ?_
              refine pe_iload_n d_Mo_open_78 rfl ?_
              refine pe_zastN d_Mo_open_79 hIm (by omega) (by omega) ?_
              rw [upb]
              refine pe_pu (fun h2 e2 o2 => ?_)
              have hMo := (o2 (166) (by omega)).trans hMo
              have hOp := (o2 (167) (by omega)).trans hOp
              have hIm := e2
              have hFi := (o2 (169) (by omega)).trans hFi
              have hLi := (o2 (170) (by omega)).trans hLi
              have hGm := (o2 (177) (by omega)).trans hGm
              have hLn := (o2 (178) (by omega)).trans hLn
              have hFs := (o2 (182) (by omega)).trans hFs
              have hHo := (o2 (185) (by omega)).trans hHo
              have hWo := (o2 (186) (by omega)).trans hWo
              have hEn := (o2 (188) (by omega)).trans hEn
              have hf := hf.st o2 (by decide)
              refine pe_aload_n d_Mo_open_80 rfl ?_
              refine pe_getf d_Mo_open_81 f_Mo_16 hMo rfl ?_
              refine pe_iload_n d_Mo_open_84 rfl ?_
              refine pe_iload_n d_Mo_open_85 rfl ?_
              refine pe_iastN d_Mo_open_86 hFi (by omega) (by omega) ?_
              refine pe_pu (fun h2 e2 o2 => ?_)
              have hMo := (o2 (166) (by omega)).trans hMo
              have hOp := (o2 (167) (by omega)).trans hOp
              have hIm := (o2 (168) (by omega)).trans hIm
              have hFi := e2
              have hLi := (o2 (170) (by omega)).trans hLi
              have hGm := (o2 (177) (by omega)).trans hGm
              have hLn := (o2 (178) (by omega)).trans hLn
              have hFs := (o2 (182) (by omega)).trans hFs
              have hHo := (o2 (185) (by omega)).trans hHo
              have hWo := (o2 (186) (by omega)).trans hWo
              have hEn := (o2 (188) (by omega)).trans hEn
              have hf := hf.st o2 (by decide)
              refine pe_aload_n d_Mo_open_87 rfl ?_
              refine pe_getf d_Mo_open_88 f_Mo_20 hMo rfl ?_
              refine pe_iload_n d_Mo_open_91 rfl ?_
              refine pe_iload d_Mo_open_92 rfl ?_
              refine pe_iastN d_Mo_open_94 hLi (by omega) (by omega) ?_
              refine pe_pu (fun h2 e2 o2 => ?_)
              have hMo := (o2 (166) (by omega)).trans hMo
              have hOp := (o2 (167) (by omega)).trans hOp
              have hIm := (o2 (168) (by omega)).trans hIm
              have hFi := (o2 (169) (by omega)).trans hFi
              have hLi := e2
              have hGm := (o2 (177) (by omega)).trans hGm
              have hLn := (o2 (178) (by omega)).trans hLn
              have hFs := (o2 (182) (by omega)).trans hFs
              have hHo := (o2 (185) (by omega)).trans hHo
              have hWo := (o2 (186) (by omega)).trans hWo
              have hEn := (o2 (188) (by omega)).trans hEn
              have hf := hf.st o2 (by decide)
              refine pe_aload_n d_Mo_open_95 rfl ?_
              refine pe_iload_n d_Mo_open_96 rfl ?_
              refine pe_iload d_Mo_open_97 rfl ?_
              -- 99: Mo_renew
              refine pe_callV d_Mo_open_99 m_Mo_122 j_Mo_renew v_Mo_renew (c_Mo_renew_raw hMo hnp hnb hIm hFi hLi hHo hWo (a := a) (b := bb) ha (by omega) (updB_eq _ _ _) (f := f) (c := c) (upd_eq _ _ _) (upd_eq _ _ _) hfc) rfl rfl (by simp [Value.category]) (by decide) hMo rfl rfl ?_
              intro v1 h1 z1 hq1
              obtain ⟨rfl, rfl, hHo, hWo, hf1⟩ := hq1
              have hMo := MOB.mv hMo (hf1 166 (by decide))
              have hOp := (hf1 167 (by decide)).trans hOp
              have hIm := (hf1 168 (by decide)).trans hIm
              have hFi := (hf1 169 (by decide)).trans hFi
              have hLi := (hf1 170 (by decide)).trans hLi
              have hGm := (hf1 177 (by decide)).trans hGm
              have hLn := (hf1 178 (by decide)).trans hLn
              have hFs := (hf1 182 (by decide)).trans hFs
              have hEn := (hf1 188 (by decide)).trans hEn
              have hf := hf.tr (hf1.wd (by decide))
              change pz_E _ _ _ _ _ _ _ _ _ _ _ _ _
              refine pe_aload_n d_Mo_open_102 rfl ?_
              refine pe_getf d_Mo_open_103 f_Mo_54 hMo rfl ?_
              refine pe_iload_n d_Mo_open_106 rfl ?_
              refine pe_iconst (v := nI 0) d_Mo_open_107 (by decide) ?_
              refine pe_iastN d_Mo_open_108 hLn (by omega) (by omega) ?_
              rw [upn]
              refine pe_pu (fun h2 e2 o2 => ?_)
              have hMo := (o2 (166) (by omega)).trans hMo
              have hOp := (o2 (167) (by omega)).trans hOp
              have hIm := (o2 (168) (by omega)).trans hIm
              have hFi := (o2 (169) (by omega)).trans hFi
              have hLi := (o2 (170) (by omega)).trans hLi
              have hGm := (o2 (177) (by omega)).trans hGm
              have hLn := e2
              have hFs := (o2 (182) (by omega)).trans hFs
              have hHo := (o2 (185) (by omega)).trans hHo
              have hWo := (o2 (186) (by omega)).trans hWo
              have hEn := (o2 (188) (by omega)).trans hEn
              have hf := hf.st o2 (by decide)
              refine pe_aload_n d_Mo_open_109 rfl ?_
              refine pe_getf d_Mo_open_110 f_Mo_72 hMo rfl ?_
              refine pe_iload_n d_Mo_open_113 rfl ?_
              refine pe_iconst (v := nI 0) d_Mo_open_114 (by decide) ?_
              refine pe_iastN d_Mo_open_115 hFs (by omega) (by omega) ?_
              rw [upn]
              refine pe_pu (fun h2 e2 o2 => ?_)
              have hMo := (o2 (166) (by omega)).trans hMo
              have hOp := (o2 (167) (by omega)).trans hOp
              have hIm := (o2 (168) (by omega)).trans hIm
              have hFi := (o2 (169) (by omega)).trans hFi
              have hLi := (o2 (170) (by omega)).trans hLi
              have hGm := (o2 (177) (by omega)).trans hGm
              have hLn := (o2 (178) (by omega)).trans hLn
              have hFs := e2
              have hHo := (o2 (185) (by omega)).trans hHo
              have hWo := (o2 (186) (by omega)).trans hWo
              have hEn := (o2 (188) (by omega)).trans hEn
              have hf := hf.st o2 (by decide)
              refine pe_aload_n d_Mo_open_116 rfl ?_
              refine pe_getf d_Mo_open_117 f_Mo_96 hMo rfl ?_
              refine pe_iload_n d_Mo_open_120 rfl ?_
              refine pe_iconst (v := nI 0) d_Mo_open_121 (by decide) ?_
              refine pe_iastN d_Mo_open_122 hEn (by omega) (by omega) ?_
              rw [upn]
              refine pe_pu (fun h2 e2 o2 => ?_)
              have hMo := (o2 (166) (by omega)).trans hMo
              have hOp := (o2 (167) (by omega)).trans hOp
              have hIm := (o2 (168) (by omega)).trans hIm
              have hFi := (o2 (169) (by omega)).trans hFi
              have hLi := (o2 (170) (by omega)).trans hLi
              have hGm := (o2 (177) (by omega)).trans hGm
              have hLn := (o2 (178) (by omega)).trans hLn
              have hFs := (o2 (182) (by omega)).trans hFs
              have hHo := (o2 (185) (by omega)).trans hHo
              have hWo := (o2 (186) (by omega)).trans hWo
              have hEn := e2
              have hf := hf.st o2 (by decide)
              refine pe_aload_n d_Mo_open_123 rfl ?_
              refine pe_getf d_Mo_open_124 f_Mo_51 hMo rfl ?_
              refine pe_iload_n d_Mo_open_127 rfl ?_
              refine pe_iconst (v := nI 0) d_Mo_open_128 (by decide) ?_
              refine pe_iastN d_Mo_open_129 hGm (by omega) (by omega) ?_
              rw [upn]
              refine pe_pu (fun h2 e2 o2 => ?_)
              have hMo := (o2 (166) (by omega)).trans hMo
              have hOp := (o2 (167) (by omega)).trans hOp
              have hIm := (o2 (168) (by omega)).trans hIm
              have hFi := (o2 (169) (by omega)).trans hFi
              have hLi := (o2 (170) (by omega)).trans hLi
              have hGm := e2
              have hLn := (o2 (178) (by omega)).trans hLn
              have hFs := (o2 (182) (by omega)).trans hFs
              have hHo := (o2 (185) (by omega)).trans hHo
              have hWo := (o2 (186) (by omega)).trans hWo
              have hEn := (o2 (188) (by omega)).trans hEn
              have hf := hf.st o2 (by decide)
              refine pe_iconst (v := nI 0) d_Mo_open_130 (by decide) ?_
              refine pe_iret d_Mo_open_131 rfl ?_
              exact ⟨rfl, rfl, hOp, hIm, hFi, hLi, hGm, hLn, hFs, hHo, hWo, hEn, hf⟩
            · exact absurd (nI_nn (by omega)) c_60
          · have c_47 := pb_n0.mp c_47
            exact absurd c_47 (by rw [hcl]; decide)
        · have c_36 := pb_n0.mp c_36
          exact absurd c_36 (by rw [ot_n (by omega) (by omega)]; decide)
  · have c_7 := pb_n0.mp c_7
    exact absurd c_7 (by rw [ot_n (by omega) ha]; decide)
set_option maxHeartbeats 4000000 in
set_option maxRecDepth 20000 in
theorem c_Mo_take_no {l : Launch} {L : Nat} {xs : Nat → Int32} {h : pz_H} {z : Nat} {np nb now tkg lst flt byt : Nat} {sa sx : Int32} (hMo : MOB h np nb now tkg lst flt byt sa sx) (hnp : np ≤ 32) (hnb : nb ≤ 32) {Mop : Nat → Bool} (hOp : AB h 167 6 Mop) {Mow : Nat → Int32} (hOw : AI h 171 32 Mow) {Mtk : Nat → Int32} (hTk : AI h 172 32 Mtk) {Mwd : Nat → Int32} (hWd : AI h 175 128 Mwd) (x : Int32) (hno : opn Mop x = false) : pz_K l L xs M_Mo_take 2 0 0 [.ref 166, .int x] h z (fun v h' z' => v = some (.int (-1)) ∧ h = h' ∧ z = z') := by
  refine pz_K.of rfl (Nat.le_of_ble_eq_true rfl) ?_
  change pz_E l L xs M_Mo_take 2 0 0 0 [some (.ref 166), some (.int x), none, none] [] h z _
  refine pe_aload_n d_Mo_take_0 rfl ?_
  refine pe_iload_n d_Mo_take_1 rfl ?_
  -- 2: Mo_shut
  refine pe_callV d_Mo_take_2 m_Mo_126 j_Mo_shut v_Mo_shut (c_Mo_shut hMo hnp hnb hOp _) rfl rfl (by simp [Value.category]) (by decide) hMo rfl rfl ?_
  intro v1 h1 z1 hq1
  obtain ⟨rfl, rfl, rfl⟩ := hq1
  change pz_E _ _ _ _ _ _ _ _ _ (_ :: _) _ _ _
  refine pe_if_eq (tgt := 10) d_Mo_take_5 (by decide) (fun c_5 => ?_) (fun c_5 => ?_)
  · have c_5 := pb_0.mp c_5
    exact absurd (nb_f c_5) (by rw [hno]; decide)
  · have c_5 := pb_n0.mp c_5
    refine pe_iconst (v := -1) d_Mo_take_8 (by decide) ?_
    refine pe_iret d_Mo_take_9 rfl ?_
    exact ⟨rfl, rfl, rfl⟩
set_option maxHeartbeats 4000000 in
set_option maxRecDepth 20000 in
theorem c_Mo_take_full {l : Launch} {L : Nat} {xs : Nat → Int32} {h : pz_H} {z : Nat} {np nb now tkg lst flt byt : Nat} {sa sx : Int32} (hMo : MOB h np nb now tkg lst flt byt sa sx) (hnp : np ≤ 32) (hnb : nb ≤ 32) {Mop : Nat → Bool} (hOp : AB h 167 6 Mop) {Mow : Nat → Int32} (hOw : AI h 171 32 Mow) {Mtk : Nat → Int32} (hTk : AI h 172 32 Mtk) {Mwd : Nat → Int32} (hWd : AI h 175 128 Mwd) {a : Nat} (ha : a < 6) (hop : Mop a = true) (hfull : ¬ ff (fun j => !decide (0 ≤ Mow j)) np 0 < np) : pz_K l L xs M_Mo_take 2 0 0 [.ref 166, .int (nI a)] h z (fun v h' z' => v = some (.int (-2)) ∧ h = h' ∧ z = z') := by
  refine pz_K.of rfl (Nat.le_of_ble_eq_true rfl) ?_
  have loop : ∀ (n : Nat) (i : Nat), i ≤ np → np + 1 ≤ i + n → ff (fun j => !decide (0 ≤ Mow j)) (np - i) i = ff (fun j => !decide (0 ≤ Mow j)) np 0 → pz_E l L xs M_Mo_take 2 0 0 12 [some (.ref 166), some (.int (nI a)), some (.int (nI i)), none] [] h z (fun v h' z' => v = some (.int (-2)) ∧ h = h' ∧ z = z') := by
    intro n
    induction n with
    | zero => intros; omega
    | succ n ih =>
      intro i hi hin he
      refine pe_iload_n d_Mo_take_12 rfl ?_
      refine pe_aload_n d_Mo_take_13 rfl ?_
      refine pe_getf d_Mo_take_14 f_Mo_105 hMo rfl ?_
      refine pe_icmpN_ge (tgt := 35) d_Mo_take_17 (by decide) (by omega) (by omega) (fun c_17 => ?_) (fun c_17 => ?_)
      · refine pe_iload_n d_Mo_take_35 rfl ?_
        refine pe_aload_n d_Mo_take_36 rfl ?_
        refine pe_getf d_Mo_take_37 f_Mo_105 hMo rfl ?_
        refine pe_icmpN_ne (tgt := 46) d_Mo_take_40 (by decide) (by omega) (by omega) (fun c_40 => ?_) (fun c_40 => ?_)
        · exact absurd (by omega) c_40
        · refine pe_bipush (v := -2) d_Mo_take_43 (by decide) ?_
          refine pe_iret d_Mo_take_45 rfl ?_
          exact ⟨rfl, rfl, rfl⟩
      · have c_17 : i < np := by omega
        refine pe_aload_n d_Mo_take_20 rfl ?_
        refine pe_getf d_Mo_take_21 f_Mo_33 hMo rfl ?_
        refine pe_iload_n d_Mo_take_24 rfl ?_
        refine pe_ialdN d_Mo_take_25 hOw (by omega) (by omega) ?_
        refine pe_if_lt (tgt := 35) d_Mo_take_26 (by decide) (fun c_26 => ?_) (fun c_26 => ?_)
        · rw [ff_yes c_17 (by simp [Int32.not_le.mpr c_26])] at he; exact absurd (he ▸ c_17) hfull
        · refine pe_iincN d_Mo_take_29 rfl (by decide) rfl ?_
          dsimp only [List.set]
          refine pe_goto (tgt := 12) d_Mo_take_32 (by decide) ?_
          exact ih (i + 1) (by omega) (by omega) ((ff_no c_17 (by simp [c_26])).symm.trans he)
  change pz_E l L xs M_Mo_take 2 0 0 0 [some (.ref 166), some (.int (nI a)), none, none] [] h z _
  refine pe_aload_n d_Mo_take_0 rfl ?_
  refine pe_iload_n d_Mo_take_1 rfl ?_
  -- 2: Mo_shut
  refine pe_callV d_Mo_take_2 m_Mo_126 j_Mo_shut v_Mo_shut (c_Mo_shut hMo hnp hnb hOp _) rfl rfl (by simp [Value.category]) (by decide) hMo rfl rfl ?_
  intro v1 h1 z1 hq1
  obtain ⟨rfl, rfl, rfl⟩ := hq1
  change pz_E _ _ _ _ _ _ _ _ _ (_ :: _) _ _ _
  refine pe_if_eq (tgt := 10) d_Mo_take_5 (by decide) (fun c_5 => ?_) (fun c_5 => ?_)
  · have c_5 := pb_0.mp c_5
    refine pe_iconst (v := nI 0) d_Mo_take_10 (by decide) ?_
    refine pe_istore_n d_Mo_take_11 (by decide) rfl ?_
    dsimp only [List.set]
    exact loop (np + 1) 0 (by omega) (by omega) (by rw [Nat.sub_zero])
  · have c_5 := pb_n0.mp c_5
    exact absurd c_5 (by rw [opn_a ha, hop]; decide)
set_option maxHeartbeats 4000000 in
set_option maxRecDepth 20000 in
theorem c_Mo_take_ok {l : Launch} {L : Nat} {xs : Nat → Int32} {h : pz_H} {z : Nat} {np nb now tkg lst flt byt : Nat} {sa sx : Int32} (hMo : MOB h np nb now tkg lst flt byt sa sx) (hnp : np ≤ 32) (hnb : nb ≤ 32) {Mop : Nat → Bool} (hOp : AB h 167 6 Mop) {Mow : Nat → Int32} (hOw : AI h 171 32 Mow) {Mtk : Nat → Int32} (hTk : AI h 172 32 Mtk) {Mwd : Nat → Int32} (hWd : AI h 175 128 Mwd) {a : Nat} (ha : a < 6) (hop : Mop a = true) {q : Nat} (hqe : q = ff (fun j => !decide (0 ≤ Mow j)) np 0) (hq : q < np) : pz_K l L xs M_Mo_take 2 0 0 [.ref 166, .int (nI a)] h z (fun v h' z' => v = some (.int (nI q)) ∧ z = z' ∧ MOB h' np nb now (tkg + 1) lst flt byt sa sx ∧ AI h' 171 32 (upd Mow q (nI a)) ∧ AI h' 172 32 (upd Mtk q (nI (tkg + 1))) ∧ AI h' 175 128 (fil Mwd (fun _ => 0) (q * 4) 4) ∧ frx [166, 171, 172, 175] h h') := by
  refine pz_K.of rfl (Nat.le_of_ble_eq_true rfl) ?_
  have hf : frx [166, 171, 172, 175] h h := frx.rf
  have loop3 : ∀ (n : Nat) (i : Nat) (k : pz_H), i ≤ 4 → 5 ≤ i + n → MOB k np nb now (tkg + 1) lst flt byt sa sx → AI k 171 32 (upd Mow q (nI a)) → AI k 172 32 (upd Mtk q (nI (tkg + 1))) → AI k 175 128 (fil Mwd (fun _ => 0) (q * 4) i) → frx [166, 171, 172, 175] h k → pz_E l L xs M_Mo_take 2 0 0 75 [some (.ref 166), some (.int (nI a)), some (.int (nI q)), some (.int (nI i))] [] k z (fun v h' z' => v = some (.int (nI q)) ∧ z = z' ∧ MOB h' np nb now (tkg + 1) lst flt byt sa sx ∧ AI h' 171 32 (upd Mow q (nI a)) ∧ AI h' 172 32 (upd Mtk q (nI (tkg + 1))) ∧ AI h' 175 128 (fil Mwd (fun _ => 0) (q * 4) 4) ∧ frx [166, 171, 172, 175] h h') := by
    intro n
    induction n with
    | zero => intros; omega
    | succ n ih =>
      intro i k hi hin hMo hOw hTk hWd hf
      refine pe_iload_n d_Mo_take_75 rfl ?_
      refine pe_iconst (v := nI 4) d_Mo_take_76 (by decide) ?_
      refine pe_icmpN_ge (tgt := 97) d_Mo_take_77 (by decide) (by omega) (by omega) (fun c_77 => ?_) (fun c_77 => ?_)
      · refine pe_iload_n d_Mo_take_97 rfl ?_
        refine pe_iret d_Mo_take_98 rfl ?_
        have e : i = 4 := by omega
        subst e
        exact ⟨rfl, rfl, hMo, hOw, hTk, hWd, hf⟩
      · refine pe_aload_n d_Mo_take_80 rfl ?_
        refine pe_getf d_Mo_take_81 f_Mo_45 hMo rfl ?_
        refine pe_iload_n d_Mo_take_84 rfl ?_
        refine pe_iconst (v := nI 4) d_Mo_take_85 (by decide) ?_
        refine pe_imulN d_Mo_take_86 ?_
        refine pe_iload_n d_Mo_take_87 rfl ?_
        refine pe_iaddN d_Mo_take_88 ?_
        refine pe_iconst (v := nI 0) d_Mo_take_89 (by decide) ?_
        refine pe_iastN d_Mo_take_90 hWd (by omega) (by omega) ?_
        refine pe_pu (fun h2 e2 o2 => ?_)
        have hMo := (o2 (166) (by omega)).trans hMo
        have hOw := (o2 (171) (by omega)).trans hOw
        have hTk := (o2 (172) (by omega)).trans hTk
        have hWd := e2
        have hf := hf.st o2 (by decide)
        refine pe_iincN d_Mo_take_91 rfl (by decide) rfl ?_
        dsimp only [List.set]
        refine pe_goto (tgt := 75) d_Mo_take_94 (by decide) ?_
        rw [show nI 0 = (fun _ => (0 : Int32)) (q * 4 + i) from rfl, fil_s] at hWd
        exact ih (i + 1) _ (by omega) (by omega) hMo hOw hTk hWd hf
  have loop : ∀ (n : Nat) (i : Nat), i ≤ np → np + 1 ≤ i + n → ff (fun j => !decide (0 ≤ Mow j)) (np - i) i = ff (fun j => !decide (0 ≤ Mow j)) np 0 → pz_E l L xs M_Mo_take 2 0 0 12 [some (.ref 166), some (.int (nI a)), some (.int (nI i)), none] [] h z (fun v h' z' => v = some (.int (nI q)) ∧ z = z' ∧ MOB h' np nb now (tkg + 1) lst flt byt sa sx ∧ AI h' 171 32 (upd Mow q (nI a)) ∧ AI h' 172 32 (upd Mtk q (nI (tkg + 1))) ∧ AI h' 175 128 (fil Mwd (fun _ => 0) (q * 4) 4) ∧ frx [166, 171, 172, 175] h h') := by
    intro n
    induction n with
    | zero => intros; omega
    | succ n ih =>
      intro i hi hin he
      refine pe_iload_n d_Mo_take_12 rfl ?_
      refine pe_aload_n d_Mo_take_13 rfl ?_
      refine pe_getf d_Mo_take_14 f_Mo_105 hMo rfl ?_
      refine pe_icmpN_ge (tgt := 35) d_Mo_take_17 (by decide) (by omega) (by omega) (fun c_17 => ?_) (fun c_17 => ?_)
      · rw [ff_end (by omega), ← hqe] at he; omega
      · have c_17 : i < np := by omega
        refine pe_aload_n d_Mo_take_20 rfl ?_
        refine pe_getf d_Mo_take_21 f_Mo_33 hMo rfl ?_
        refine pe_iload_n d_Mo_take_24 rfl ?_
        refine pe_ialdN d_Mo_take_25 hOw (by omega) (by omega) ?_
        refine pe_if_lt (tgt := 35) d_Mo_take_26 (by decide) (fun c_26 => ?_) (fun c_26 => ?_)
        · have e : i = q := by rw [hqe, ← he]; exact (ff_yes c_17 (by simp [Int32.not_le.mpr c_26])).symm
          subst e
          refine pe_iload_n d_Mo_take_35 rfl ?_
          refine pe_aload_n d_Mo_take_36 rfl ?_
          refine pe_getf d_Mo_take_37 f_Mo_105 hMo rfl ?_
          refine pe_icmpN_ne (tgt := 46) d_Mo_take_40 (by decide) (by omega) (by omega) (fun c_40 => ?_) (fun c_40 => ?_)
          · refine pe_aload_n d_Mo_take_46 rfl ?_
            refine pe_getf d_Mo_take_47 f_Mo_33 hMo rfl ?_
            refine pe_iload_n d_Mo_take_50 rfl ?_
            refine pe_iload_n d_Mo_take_51 rfl ?_
            refine pe_iastN d_Mo_take_52 hOw (by omega) (by omega) ?_
            refine pe_pu (fun h2 e2 o2 => ?_)
            have hMo := (o2 (166) (by omega)).trans hMo
            have hOp := (o2 (167) (by omega)).trans hOp
            have hOw := e2
            have hTk := (o2 (172) (by omega)).trans hTk
            have hWd := (o2 (175) (by omega)).trans hWd
            have hf := hf.st o2 (by decide)
            refine pe_aload_n d_Mo_take_53 rfl ?_
            refine pe_dup d_Mo_take_54 rfl ?_
            refine pe_getf d_Mo_take_55 f_Mo_27 hMo rfl ?_
            refine pe_iconst (v := nI 1) d_Mo_take_58 (by decide) ?_
            refine pe_iaddN d_Mo_take_59 ?_
            refine pe_put d_Mo_take_60 g_Mo_27 hMo (Nat.le_of_ble_eq_true rfl) rfl ?_
            refine pe_pu (fun h2 e2 o2 => ?_)
            have hMo := e2
            have hOp := (o2 (167) (by omega)).trans hOp
            have hOw := (o2 (171) (by omega)).trans hOw
            have hTk := (o2 (172) (by omega)).trans hTk
            have hWd := (o2 (175) (by omega)).trans hWd
            have hf := hf.st o2 (by decide)
            refine pe_aload_n d_Mo_take_63 rfl ?_
            refine pe_getf d_Mo_take_64 f_Mo_36 hMo rfl ?_
            refine pe_iload_n d_Mo_take_67 rfl ?_
            refine pe_aload_n d_Mo_take_68 rfl ?_
            refine pe_getf d_Mo_take_69 f_Mo_27 hMo rfl ?_
            refine pe_iastN d_Mo_take_72 hTk (by omega) (by omega) ?_
            refine pe_pu (fun h2 e2 o2 => ?_)
            have hMo := (o2 (166) (by omega)).trans hMo
            have hOp := (o2 (167) (by omega)).trans hOp
            have hOw := (o2 (171) (by omega)).trans hOw
            have hTk := e2
            have hWd := (o2 (175) (by omega)).trans hWd
            have hf := hf.st o2 (by decide)
            refine pe_iconst (v := nI 0) d_Mo_take_73 (by decide) ?_
            refine pe_istore_n d_Mo_take_74 (by decide) rfl ?_
            dsimp only [List.set]
            exact loop3 5 0 _ (by omega) (by omega) hMo hOw hTk (by rw [fil_0]; exact hWd) hf
          · exfalso; omega
        · refine pe_iincN d_Mo_take_29 rfl (by decide) rfl ?_
          dsimp only [List.set]
          refine pe_goto (tgt := 12) d_Mo_take_32 (by decide) ?_
          exact ih (i + 1) (by omega) (by omega) ((ff_no c_17 (by simp [c_26])).symm.trans he)
  change pz_E l L xs M_Mo_take 2 0 0 0 [some (.ref 166), some (.int (nI a)), none, none] [] h z _
  refine pe_aload_n d_Mo_take_0 rfl ?_
  refine pe_iload_n d_Mo_take_1 rfl ?_
  -- 2: Mo_shut
  refine pe_callV d_Mo_take_2 m_Mo_126 j_Mo_shut v_Mo_shut (c_Mo_shut hMo hnp hnb hOp _) rfl rfl (by simp [Value.category]) (by decide) hMo rfl rfl ?_
  intro v1 h1 z1 hq1
  obtain ⟨rfl, rfl, rfl⟩ := hq1
  change pz_E _ _ _ _ _ _ _ _ _ (_ :: _) _ _ _
  refine pe_if_eq (tgt := 10) d_Mo_take_5 (by decide) (fun c_5 => ?_) (fun c_5 => ?_)
  · have c_5 := pb_0.mp c_5
    refine pe_iconst (v := nI 0) d_Mo_take_10 (by decide) ?_
    refine pe_istore_n d_Mo_take_11 (by decide) rfl ?_
    dsimp only [List.set]
    exact loop (np + 1) 0 (by omega) (by omega) (by rw [Nat.sub_zero])
  · have c_5 := pb_n0.mp c_5
    exact absurd c_5 (by rw [opn_a ha, hop]; decide)
set_option maxHeartbeats 4000000 in
set_option maxRecDepth 20000 in
theorem c_Mo_release_no {l : Launch} {L : Nat} {xs : Nat → Int32} {h : pz_H} {z : Nat} {np nb now tkg lst flt byt : Nat} {sa sx : Int32} (hMo : MOB h np nb now tkg lst flt byt sa sx) (hnp : np ≤ 32) (hnb : nb ≤ 32) {Mop : Nat → Bool} (hOp : AB h 167 6 Mop) {Mow : Nat → Int32} (hOw : AI h 171 32 Mow) {Mdl : Nat → Int32} (hDl : AI h 173 32 Mdl) {Mrt : Nat → Int32} (hRt : AI h 174 192 Mrt) (x y : Int32) (hno : own Mop Mow np x y = false) : pz_K l L xs M_Mo_release 2 0 0 [.ref 166, .int x, .int y] h z (fun v h' z' => v = some (.int (-1)) ∧ h = h' ∧ z = z') := by
  refine pz_K.of rfl (Nat.le_of_ble_eq_true rfl) ?_
  change pz_E l L xs M_Mo_release 2 0 0 0 [some (.ref 166), some (.int x), some (.int y)] [] h z _
  refine pe_aload_n d_Mo_release_0 rfl ?_
  refine pe_iload_n d_Mo_release_1 rfl ?_
  refine pe_aload_n d_Mo_release_2 rfl ?_
  refine pe_getf d_Mo_release_3 f_Mo_105 hMo rfl ?_
  -- 6: Mo_out
  refine pe_callV d_Mo_release_6 m_Mo_111 j_Mo_out v_Mo_out (c_Mo_out hMo hnp hnb _ _) rfl rfl (by simp [Value.category]) (by decide) hMo rfl rfl ?_
  intro v1 h1 z1 hq1
  obtain ⟨rfl, rfl, rfl⟩ := hq1
  change pz_E _ _ _ _ _ _ _ _ _ (_ :: _) _ _ _
  refine pe_if_ne (tgt := 30) d_Mo_release_9 (by decide) (fun c_9 => ?_) (fun c_9 => ?_)
  · have c_9 := pb_n0.mp c_9
    refine pe_iconst (v := -1) d_Mo_release_30 (by decide) ?_
    refine pe_iret d_Mo_release_31 rfl ?_
    exact ⟨rfl, rfl, rfl⟩
  · have c_9 := pb_0.mp c_9
    obtain ⟨q, hq, rfl⟩ := inn_N (n := np) (by omega) (ot_f c_9)
    refine pe_aload_n d_Mo_release_12 rfl ?_
    refine pe_iload_n d_Mo_release_13 rfl ?_
    -- 14: Mo_shut
    refine pe_callV d_Mo_release_14 m_Mo_126 j_Mo_shut v_Mo_shut (c_Mo_shut hMo hnp hnb hOp _) rfl rfl (by simp [Value.category]) (by decide) hMo rfl rfl ?_
    intro v1 h1 z1 hq1
    obtain ⟨rfl, rfl, rfl⟩ := hq1
    change pz_E _ _ _ _ _ _ _ _ _ (_ :: _) _ _ _
    refine pe_if_ne (tgt := 30) d_Mo_release_17 (by decide) (fun c_17 => ?_) (fun c_17 => ?_)
    · have c_17 := pb_n0.mp c_17
      refine pe_iconst (v := -1) d_Mo_release_30 (by decide) ?_
      refine pe_iret d_Mo_release_31 rfl ?_
      exact ⟨rfl, rfl, rfl⟩
    · have c_17 := pb_0.mp c_17
      refine pe_aload_n d_Mo_release_20 rfl ?_
      refine pe_getf d_Mo_release_21 f_Mo_33 hMo rfl ?_
      refine pe_iload_n d_Mo_release_24 rfl ?_
      refine pe_ialdN d_Mo_release_25 hOw (by omega) (by omega) ?_
      refine pe_iload_n d_Mo_release_26 rfl ?_
      refine pe_icmp_eq (tgt := 32) d_Mo_release_27 (by decide) (fun c_27 => ?_) (fun c_27 => ?_)
      · exact absurd (own_i (nb_f c_17) hq hnp c_27) (by rw [hno]; decide)
      · refine pe_iconst (v := -1) d_Mo_release_30 (by decide) ?_
        refine pe_iret d_Mo_release_31 rfl ?_
        exact ⟨rfl, rfl, rfl⟩
set_option maxHeartbeats 4000000 in
set_option maxRecDepth 20000 in
theorem c_Mo_release_ok {l : Launch} {L : Nat} {xs : Nat → Int32} {h : pz_H} {z : Nat} {np nb now tkg lst flt byt : Nat} {sa sx : Int32} (hMo : MOB h np nb now tkg lst flt byt sa sx) (hnp : np ≤ 32) (hnb : nb ≤ 32) {Mop : Nat → Bool} (hOp : AB h 167 6 Mop) {Mow : Nat → Int32} (hOw : AI h 171 32 Mow) {Mdl : Nat → Int32} (hDl : AI h 173 32 Mdl) {Mrt : Nat → Int32} (hRt : AI h 174 192 Mrt) {a : Nat} (ha : a < 6) (hop : Mop a = true) {q : Nat} (hq : q < np) (how : Mow q = nI a) : pz_K l L xs M_Mo_release 2 0 0 [.ref 166, .int (nI a), .int (nI q)] h z (fun v h' z' => v = some (.int (nI 0)) ∧ z = z' ∧ AI h' 171 32 (upd Mow q (-1)) ∧ AI h' 173 32 (upd Mdl q (nI 0)) ∧ AI h' 174 192 (fil Mrt (fun _ => 0) (q * 6) 6) ∧ frx [171, 173, 174] h h') := by
  refine pz_K.of rfl (Nat.le_of_ble_eq_true rfl) ?_
  have hf : frx [171, 173, 174] h h := frx.rf
  change pz_E l L xs M_Mo_release 2 0 0 0 [some (.ref 166), some (.int (nI a)), some (.int (nI q))] [] h z _
  refine pe_aload_n d_Mo_release_0 rfl ?_
  refine pe_iload_n d_Mo_release_1 rfl ?_
  refine pe_aload_n d_Mo_release_2 rfl ?_
  refine pe_getf d_Mo_release_3 f_Mo_105 hMo rfl ?_
  -- 6: Mo_out
  refine pe_callV d_Mo_release_6 m_Mo_111 j_Mo_out v_Mo_out (c_Mo_out hMo hnp hnb _ _) rfl rfl (by simp [Value.category]) (by decide) hMo rfl rfl ?_
  intro v1 h1 z1 hq1
  obtain ⟨rfl, rfl, rfl⟩ := hq1
  change pz_E _ _ _ _ _ _ _ _ _ (_ :: _) _ _ _
  refine pe_if_ne (tgt := 30) d_Mo_release_9 (by decide) (fun c_9 => ?_) (fun c_9 => ?_)
  · have c_9 := pb_n0.mp c_9
    exact absurd c_9 (by rw [ot_n (by omega) hq]; decide)
  · have c_9 := pb_0.mp c_9
    refine pe_aload_n d_Mo_release_12 rfl ?_
    refine pe_iload_n d_Mo_release_13 rfl ?_
    -- 14: Mo_shut
    refine pe_callV d_Mo_release_14 m_Mo_126 j_Mo_shut v_Mo_shut (c_Mo_shut hMo hnp hnb hOp _) rfl rfl (by simp [Value.category]) (by decide) hMo rfl rfl ?_
    intro v1 h1 z1 hq1
    obtain ⟨rfl, rfl, rfl⟩ := hq1
    change pz_E _ _ _ _ _ _ _ _ _ (_ :: _) _ _ _
    refine pe_if_ne (tgt := 30) d_Mo_release_17 (by decide) (fun c_17 => ?_) (fun c_17 => ?_)
    · have c_17 := pb_n0.mp c_17
      exact absurd c_17 (by rw [opn_a ha, hop]; decide)
    · have c_17 := pb_0.mp c_17
      refine pe_aload_n d_Mo_release_20 rfl ?_
      refine pe_getf d_Mo_release_21 f_Mo_33 hMo rfl ?_
      refine pe_iload_n d_Mo_release_24 rfl ?_
      refine pe_ialdN d_Mo_release_25 hOw (by omega) (by omega) ?_
      refine pe_iload_n d_Mo_release_26 rfl ?_
      refine pe_icmp_eq (tgt := 32) d_Mo_release_27 (by decide) (fun c_27 => ?_) (fun c_27 => ?_)
      · refine pe_aload_n d_Mo_release_32 rfl ?_
        refine pe_iload_n d_Mo_release_33 rfl ?_
        -- 34: Mo_free
        refine pe_callV d_Mo_release_34 m_Mo_130 j_Mo_free v_Mo_free (c_Mo_free hMo hnp hnb hOw hDl hRt (p := q) (by omega)) rfl rfl (by simp [Value.category]) (by decide) hMo rfl rfl ?_
        intro v1 h1 z1 hq1
        obtain ⟨rfl, rfl, hOw, hDl, hRt, hf1⟩ := hq1
        have hMo := MOB.mv hMo (hf1 166 (by decide))
        have hOp := (hf1 167 (by decide)).trans hOp
        have hf := hf.tr (hf1.wd (by decide))
        change pz_E _ _ _ _ _ _ _ _ _ _ _ _ _
        refine pe_iconst (v := nI 0) d_Mo_release_37 (by decide) ?_
        refine pe_iret d_Mo_release_38 rfl ?_
        exact ⟨rfl, rfl, hOw, hDl, hRt, hf⟩
      · exact absurd how c_27
set_option maxHeartbeats 4000000 in
set_option maxRecDepth 20000 in
theorem c_Mo_share_no {l : Launch} {L : Nat} {xs : Nat → Int32} {h : pz_H} {z : Nat} {np nb now tkg lst flt byt : Nat} {sa sx : Int32} (hMo : MOB h np nb now tkg lst flt byt sa sx) (hnp : np ≤ 32) (hnb : nb ≤ 32) {Mop : Nat → Bool} (hOp : AB h 167 6 Mop) {Mow : Nat → Int32} (hOw : AI h 171 32 Mow) {Mrt : Nat → Int32} (hRt : AI h 174 192 Mrt) (x y t r : Int32) (hno : shg Mop Mow np x y t r = false) : pz_K l L xs M_Mo_share 2 0 0 [.ref 166, .int x, .int y, .int t, .int r] h z (fun v h' z' => v = some (.int (-1)) ∧ h = h' ∧ z = z') := by
  refine pz_K.of rfl (Nat.le_of_ble_eq_true rfl) ?_
  change pz_E l L xs M_Mo_share 2 0 0 0 [some (.ref 166), some (.int x), some (.int y), some (.int t), some (.int r)] [] h z _
  refine pe_aload_n d_Mo_share_0 rfl ?_
  refine pe_iload_n d_Mo_share_1 rfl ?_
  refine pe_aload_n d_Mo_share_2 rfl ?_
  refine pe_getf d_Mo_share_3 f_Mo_105 hMo rfl ?_
  -- 6: Mo_out
  refine pe_callV d_Mo_share_6 m_Mo_111 j_Mo_out v_Mo_out (c_Mo_out hMo hnp hnb _ _) rfl rfl (by simp [Value.category]) (by decide) hMo rfl rfl ?_
  intro v1 h1 z1 hq1
  obtain ⟨rfl, rfl, rfl⟩ := hq1
  change pz_E _ _ _ _ _ _ _ _ _ (_ :: _) _ _ _
  refine pe_if_ne (tgt := 40) d_Mo_share_9 (by decide) (fun c_9 => ?_) (fun c_9 => ?_)
  · have c_9 := pb_n0.mp c_9
    refine pe_iconst (v := -1) d_Mo_share_40 (by decide) ?_
    refine pe_iret d_Mo_share_41 rfl ?_
    exact ⟨rfl, rfl, rfl⟩
  · have c_9 := pb_0.mp c_9
    obtain ⟨q, hq, rfl⟩ := inn_N (n := np) (by omega) (ot_f c_9)
    refine pe_aload_n d_Mo_share_12 rfl ?_
    refine pe_iload_n d_Mo_share_13 rfl ?_
    refine pe_bipush (v := nI 6) d_Mo_share_14 (by decide) ?_
    -- 16: Mo_out
    refine pe_callV d_Mo_share_16 m_Mo_111 j_Mo_out v_Mo_out (c_Mo_out hMo hnp hnb _ _) rfl rfl (by simp [Value.category]) (by decide) hMo rfl rfl ?_
    intro v1 h1 z1 hq1
    obtain ⟨rfl, rfl, rfl⟩ := hq1
    change pz_E _ _ _ _ _ _ _ _ _ (_ :: _) _ _ _
    refine pe_if_ne (tgt := 40) d_Mo_share_19 (by decide) (fun c_19 => ?_) (fun c_19 => ?_)
    · have c_19 := pb_n0.mp c_19
      refine pe_iconst (v := -1) d_Mo_share_40 (by decide) ?_
      refine pe_iret d_Mo_share_41 rfl ?_
      exact ⟨rfl, rfl, rfl⟩
    · have c_19 := pb_0.mp c_19
      obtain ⟨b, hb, rfl⟩ := inn_N (n := 6) (by omega) (ot_f c_19)
      refine pe_aload_n d_Mo_share_22 rfl ?_
      refine pe_iload d_Mo_share_23 rfl ?_
      refine pe_iconst (v := nI 3) d_Mo_share_25 (by decide) ?_
      -- 26: Mo_out
      refine pe_callV d_Mo_share_26 m_Mo_111 j_Mo_out v_Mo_out (c_Mo_out hMo hnp hnb _ _) rfl rfl (by simp [Value.category]) (by decide) hMo rfl rfl ?_
      intro v1 h1 z1 hq1
      obtain ⟨rfl, rfl, rfl⟩ := hq1
      change pz_E _ _ _ _ _ _ _ _ _ (_ :: _) _ _ _
      refine pe_if_ne (tgt := 40) d_Mo_share_29 (by decide) (fun c_29 => ?_) (fun c_29 => ?_)
      · have c_29 := pb_n0.mp c_29
        refine pe_iconst (v := -1) d_Mo_share_40 (by decide) ?_
        refine pe_iret d_Mo_share_41 rfl ?_
        exact ⟨rfl, rfl, rfl⟩
      · have c_29 := pb_0.mp c_29
        refine pe_aload_n d_Mo_share_32 rfl ?_
        refine pe_iload_n d_Mo_share_33 rfl ?_
        -- 34: Mo_shut
        refine pe_callV d_Mo_share_34 m_Mo_126 j_Mo_shut v_Mo_shut (c_Mo_shut hMo hnp hnb hOp _) rfl rfl (by simp [Value.category]) (by decide) hMo rfl rfl ?_
        intro v1 h1 z1 hq1
        obtain ⟨rfl, rfl, rfl⟩ := hq1
        change pz_E _ _ _ _ _ _ _ _ _ (_ :: _) _ _ _
        refine pe_if_eq (tgt := 42) d_Mo_share_37 (by decide) (fun c_37 => ?_) (fun c_37 => ?_)
        · have c_37 := pb_0.mp c_37
          refine pe_aload_n d_Mo_share_42 rfl ?_
          refine pe_getf d_Mo_share_43 f_Mo_33 hMo rfl ?_
          refine pe_iload_n d_Mo_share_46 rfl ?_
          refine pe_ialdN d_Mo_share_47 hOw (by omega) (by omega) ?_
          refine pe_iload_n d_Mo_share_48 rfl ?_
          refine pe_icmp_ne (tgt := 66) d_Mo_share_49 (by decide) (fun c_49 => ?_) (fun c_49 => ?_)
          · refine pe_iconst (v := -1) d_Mo_share_66 (by decide) ?_
            refine pe_iret d_Mo_share_67 rfl ?_
            exact ⟨rfl, rfl, rfl⟩
          · refine pe_iload_n d_Mo_share_52 rfl ?_
            refine pe_iload_n d_Mo_share_53 rfl ?_
            refine pe_icmp_eq (tgt := 66) d_Mo_share_54 (by decide) (fun c_54 => ?_) (fun c_54 => ?_)
            · refine pe_iconst (v := -1) d_Mo_share_66 (by decide) ?_
              refine pe_iret d_Mo_share_67 rfl ?_
              exact ⟨rfl, rfl, rfl⟩
            · refine pe_aload_n d_Mo_share_57 rfl ?_
              refine pe_getf d_Mo_share_58 f_Mo_7 hMo rfl ?_
              refine pe_iload_n d_Mo_share_61 rfl ?_
              refine pe_zaldN d_Mo_share_62 hOp (by omega) (by omega) ?_
              refine pe_if_ne (tgt := 68) d_Mo_share_63 (by decide) (fun c_63 => ?_) (fun c_63 => ?_)
              · have c_63 := pb_n0.mp c_63
                exact absurd (shg_i (ot_f c_29) (own_i (nb_f c_37) hq hnp c_49) c_54 (by rw [opn_a hb]; exact c_63)) (by rw [hno]; decide)
              · have c_63 := pb_0.mp c_63
                refine pe_iconst (v := -1) d_Mo_share_66 (by decide) ?_
                refine pe_iret d_Mo_share_67 rfl ?_
                exact ⟨rfl, rfl, rfl⟩
        · have c_37 := pb_n0.mp c_37
          refine pe_iconst (v := -1) d_Mo_share_40 (by decide) ?_
          refine pe_iret d_Mo_share_41 rfl ?_
          exact ⟨rfl, rfl, rfl⟩
set_option maxHeartbeats 4000000 in
set_option maxRecDepth 20000 in
theorem c_Mo_share_ok {l : Launch} {L : Nat} {xs : Nat → Int32} {h : pz_H} {z : Nat} {np nb now tkg lst flt byt : Nat} {sa sx : Int32} (hMo : MOB h np nb now tkg lst flt byt sa sx) (hnp : np ≤ 32) (hnb : nb ≤ 32) {Mop : Nat → Bool} (hOp : AB h 167 6 Mop) {Mow : Nat → Int32} (hOw : AI h 171 32 Mow) {Mrt : Nat → Int32} (hRt : AI h 174 192 Mrt) {a : Nat} (ha : a < 6) (hop : Mop a = true) {q b : Nat} {r : Int32} (hq : q < np) (how : Mow q = nI a) (hb : b < 6) (hr : inn r 3 = true) (hba : ¬ b = a) (hob : Mop b = true) : pz_K l L xs M_Mo_share 2 0 0 [.ref 166, .int (nI a), .int (nI q), .int (nI b), .int r] h z (fun v h' z' => v = some (.int (nI 0)) ∧ z = z' ∧ AI h' 174 192 (upd Mrt (q * 6 + b) r) ∧ frx [174] h h') := by
  refine pz_K.of rfl (Nat.le_of_ble_eq_true rfl) ?_
  have hf : frx [174] h h := frx.rf
  change pz_E l L xs M_Mo_share 2 0 0 0 [some (.ref 166), some (.int (nI a)), some (.int (nI q)), some (.int (nI b)), some (.int r)] [] h z _
  refine pe_aload_n d_Mo_share_0 rfl ?_
  refine pe_iload_n d_Mo_share_1 rfl ?_
  refine pe_aload_n d_Mo_share_2 rfl ?_
  refine pe_getf d_Mo_share_3 f_Mo_105 hMo rfl ?_
  -- 6: Mo_out
  refine pe_callV d_Mo_share_6 m_Mo_111 j_Mo_out v_Mo_out (c_Mo_out hMo hnp hnb _ _) rfl rfl (by simp [Value.category]) (by decide) hMo rfl rfl ?_
  intro v1 h1 z1 hq1
  obtain ⟨rfl, rfl, rfl⟩ := hq1
  change pz_E _ _ _ _ _ _ _ _ _ (_ :: _) _ _ _
  refine pe_if_ne (tgt := 40) d_Mo_share_9 (by decide) (fun c_9 => ?_) (fun c_9 => ?_)
  · have c_9 := pb_n0.mp c_9
    exact absurd c_9 (by rw [ot_n (by omega) hq]; decide)
  · have c_9 := pb_0.mp c_9
    refine pe_aload_n d_Mo_share_12 rfl ?_
    refine pe_iload_n d_Mo_share_13 rfl ?_
    refine pe_bipush (v := nI 6) d_Mo_share_14 (by decide) ?_
    -- 16: Mo_out
    refine pe_callV d_Mo_share_16 m_Mo_111 j_Mo_out v_Mo_out (c_Mo_out hMo hnp hnb _ _) rfl rfl (by simp [Value.category]) (by decide) hMo rfl rfl ?_
    intro v1 h1 z1 hq1
    obtain ⟨rfl, rfl, rfl⟩ := hq1
    change pz_E _ _ _ _ _ _ _ _ _ (_ :: _) _ _ _
    refine pe_if_ne (tgt := 40) d_Mo_share_19 (by decide) (fun c_19 => ?_) (fun c_19 => ?_)
    · have c_19 := pb_n0.mp c_19
      exact absurd c_19 (by rw [ot_n (by omega) hb]; decide)
    · have c_19 := pb_0.mp c_19
      refine pe_aload_n d_Mo_share_22 rfl ?_
      refine pe_iload d_Mo_share_23 rfl ?_
      refine pe_iconst (v := nI 3) d_Mo_share_25 (by decide) ?_
      -- 26: Mo_out
      refine pe_callV d_Mo_share_26 m_Mo_111 j_Mo_out v_Mo_out (c_Mo_out hMo hnp hnb _ _) rfl rfl (by simp [Value.category]) (by decide) hMo rfl rfl ?_
      intro v1 h1 z1 hq1
      obtain ⟨rfl, rfl, rfl⟩ := hq1
      change pz_E _ _ _ _ _ _ _ _ _ (_ :: _) _ _ _
      refine pe_if_ne (tgt := 40) d_Mo_share_29 (by decide) (fun c_29 => ?_) (fun c_29 => ?_)
      · have c_29 := pb_n0.mp c_29
        exact absurd c_29 (by rw [ot_inn, hr]; decide)
      · have c_29 := pb_0.mp c_29
        refine pe_aload_n d_Mo_share_32 rfl ?_
        refine pe_iload_n d_Mo_share_33 rfl ?_
        -- 34: Mo_shut
        refine pe_callV d_Mo_share_34 m_Mo_126 j_Mo_shut v_Mo_shut (c_Mo_shut hMo hnp hnb hOp _) rfl rfl (by simp [Value.category]) (by decide) hMo rfl rfl ?_
        intro v1 h1 z1 hq1
        obtain ⟨rfl, rfl, rfl⟩ := hq1
        change pz_E _ _ _ _ _ _ _ _ _ (_ :: _) _ _ _
        refine pe_if_eq (tgt := 42) d_Mo_share_37 (by decide) (fun c_37 => ?_) (fun c_37 => ?_)
        · have c_37 := pb_0.mp c_37
          refine pe_aload_n d_Mo_share_42 rfl ?_
          refine pe_getf d_Mo_share_43 f_Mo_33 hMo rfl ?_
          refine pe_iload_n d_Mo_share_46 rfl ?_
          refine pe_ialdN d_Mo_share_47 hOw (by omega) (by omega) ?_
          refine pe_iload_n d_Mo_share_48 rfl ?_
          refine pe_icmp_ne (tgt := 66) d_Mo_share_49 (by decide) (fun c_49 => ?_) (fun c_49 => ?_)
          · exact absurd how c_49
          · refine pe_iload_n d_Mo_share_52 rfl ?_
            refine pe_iload_n d_Mo_share_53 rfl ?_
            refine pe_icmpN_eq (tgt := 66) d_Mo_share_54 (by decide) (by omega) (by omega) (fun c_54 => ?_) (fun c_54 => ?_)
            · exact absurd c_54 hba
            · refine pe_aload_n d_Mo_share_57 rfl ?_
              refine pe_getf d_Mo_share_58 f_Mo_7 hMo rfl ?_
              refine pe_iload_n d_Mo_share_61 rfl ?_
              refine pe_zaldN d_Mo_share_62 hOp (by omega) (by omega) ?_
              refine pe_if_ne (tgt := 68) d_Mo_share_63 (by decide) (fun c_63 => ?_) (fun c_63 => ?_)
              · have c_63 := pb_n0.mp c_63
                refine pe_aload_n d_Mo_share_68 rfl ?_
                refine pe_getf d_Mo_share_69 f_Mo_42 hMo rfl ?_
                refine pe_iload_n d_Mo_share_72 rfl ?_
                refine pe_bipush (v := nI 6) d_Mo_share_73 (by decide) ?_
                refine pe_imulN d_Mo_share_75 ?_
                refine pe_iload_n d_Mo_share_76 rfl ?_
                refine pe_iaddN d_Mo_share_77 ?_
                refine pe_iload d_Mo_share_78 rfl ?_
                refine pe_iastN d_Mo_share_80 hRt (by omega) (by omega) ?_
                refine pe_pu (fun h2 e2 o2 => ?_)
                have hMo := (o2 (166) (by omega)).trans hMo
                have hOp := (o2 (167) (by omega)).trans hOp
                have hOw := (o2 (171) (by omega)).trans hOw
                have hRt := e2
                have hf := hf.st o2 (by decide)
                refine pe_iconst (v := nI 0) d_Mo_share_81 (by decide) ?_
                refine pe_iret d_Mo_share_82 rfl ?_
                exact ⟨rfl, rfl, hRt, hf⟩
              · have c_63 := pb_0.mp c_63
                exact absurd c_63 (by rw [hob]; decide)
        · have c_37 := pb_n0.mp c_37
          exact absurd c_37 (by rw [opn_a ha, hop]; decide)
theorem may_e {op : Nat → Bool} {mo mr : Nat → Int32} {np : Nat} {x y w r : Int32} (hn : np ≤ 32) (h : may op mo mr np x y w r = true) : ∃ a q b, a < 6 ∧ op a = true ∧ x = nI a ∧ q < np ∧ y = nI q ∧ b < 4 ∧ w = nI b ∧ (mo q = nI a ∨ ¬ mr (q * 6 + a) < r) := by
  unfold may at h
  rw [← inn_rng _ (by decide)] at h
  simp only [Bool.and_eq_true] at h
  obtain ⟨⟨h1, h2, h3⟩, h4⟩ := h
  obtain ⟨a, ha, hop, rfl⟩ := opn_N h1
  obtain ⟨q, hq, rfl⟩ := inn_N (by omega) h2
  obtain ⟨b, hb, rfl⟩ := inn_N (by omega) h3
  rw [nI_clamp (by omega), nI_clamp (by omega)] at h4
  refine ⟨a, q, b, ha, hop, rfl, hq, rfl, hb, rfl, ?_⟩
  rcases Bool.or_eq_true _ _ ▸ h4 with q | q
  · exact Or.inl (of_decide_eq_true q)
  · exact Or.inr (of_decide_eq_false (by simpa using q))
theorem may_i {op : Nat → Bool} {mo mr : Nat → Int32} {np a q b : Nat} {r : Int32} (hn : np ≤ 32) (ha : a < 6) (hop : op a = true) (hq : q < np) (hb : b < 4) (h : mo q = nI a ∨ ¬ mr (q * 6 + a) < r) : may op mo mr np (nI a) (nI q) (nI b) r = true := by
  unfold may
  rw [← inn_rng _ (by decide), opn_a ha, hop, inn_y (by omega) hq, inn_y (by omega) hb, nI_clamp (by omega), nI_clamp (by omega)]
  rcases h with q | q
  · rw [decide_eq_true q]; rfl
  · rw [decide_eq_false q]; simp
set_option maxHeartbeats 4000000 in
set_option maxRecDepth 20000 in
theorem c_Mo_store_no {l : Launch} {L : Nat} {xs : Nat → Int32} {h : pz_H} {z : Nat} {np nb now tkg lst flt byt : Nat} {sa sx : Int32} (hMo : MOB h np nb now tkg lst flt byt sa sx) (hnp : np ≤ 32) (hnb : nb ≤ 32) {Mop : Nat → Bool} (hOp : AB h 167 6 Mop) {Mow : Nat → Int32} (hOw : AI h 171 32 Mow) {Mrt : Nat → Int32} (hRt : AI h 174 192 Mrt) {Mwd : Nat → Int32} (hWd : AI h 175 128 Mwd) (x y w u : Int32) (hr : ∀ t, t < np * 6 → Mrt t = nI 0 ∨ Mrt t = nI 1 ∨ Mrt t = nI 2) (hno : may Mop Mow Mrt np x y w (nI 2) = false) : pz_K l L xs M_Mo_store 2 0 0 [.ref 166, .int x, .int y, .int w, .int u] h z (fun v h' z' => v = some (.int (-1)) ∧ h = h' ∧ z = z') := by
  refine pz_K.of rfl (Nat.le_of_ble_eq_true rfl) ?_
  change pz_E l L xs M_Mo_store 2 0 0 0 [some (.ref 166), some (.int x), some (.int y), some (.int w), some (.int u)] [] h z _
  refine pe_aload_n d_Mo_store_0 rfl ?_
  refine pe_iload_n d_Mo_store_1 rfl ?_
  refine pe_aload_n d_Mo_store_2 rfl ?_
  refine pe_getf d_Mo_store_3 f_Mo_105 hMo rfl ?_
  -- 6: Mo_out
  refine pe_callV d_Mo_store_6 m_Mo_111 j_Mo_out v_Mo_out (c_Mo_out hMo hnp hnb _ _) rfl rfl (by simp [Value.category]) (by decide) hMo rfl rfl ?_
  intro v1 h1 z1 hq1
  obtain ⟨rfl, rfl, rfl⟩ := hq1
  change pz_E _ _ _ _ _ _ _ _ _ (_ :: _) _ _ _
  refine pe_if_ne (tgt := 29) d_Mo_store_9 (by decide) (fun c_9 => ?_) (fun c_9 => ?_)
  · have c_9 := pb_n0.mp c_9
    refine pe_iconst (v := -1) d_Mo_store_29 (by decide) ?_
    refine pe_iret d_Mo_store_30 rfl ?_
    exact ⟨rfl, rfl, rfl⟩
  · have c_9 := pb_0.mp c_9
    obtain ⟨q, hq, rfl⟩ := inn_N (n := np) (by omega) (ot_f c_9)
    refine pe_aload_n d_Mo_store_12 rfl ?_
    refine pe_iload_n d_Mo_store_13 rfl ?_
    refine pe_iconst (v := nI 4) d_Mo_store_14 (by decide) ?_
    -- 15: Mo_out
    refine pe_callV d_Mo_store_15 m_Mo_111 j_Mo_out v_Mo_out (c_Mo_out hMo hnp hnb _ _) rfl rfl (by simp [Value.category]) (by decide) hMo rfl rfl ?_
    intro v1 h1 z1 hq1
    obtain ⟨rfl, rfl, rfl⟩ := hq1
    change pz_E _ _ _ _ _ _ _ _ _ (_ :: _) _ _ _
    refine pe_if_ne (tgt := 29) d_Mo_store_18 (by decide) (fun c_18 => ?_) (fun c_18 => ?_)
    · have c_18 := pb_n0.mp c_18
      refine pe_iconst (v := -1) d_Mo_store_29 (by decide) ?_
      refine pe_iret d_Mo_store_30 rfl ?_
      exact ⟨rfl, rfl, rfl⟩
    · have c_18 := pb_0.mp c_18
      obtain ⟨b, hb, rfl⟩ := inn_N (n := 4) (by omega) (ot_f c_18)
      refine pe_aload_n d_Mo_store_21 rfl ?_
      refine pe_iload_n d_Mo_store_22 rfl ?_
      -- 23: Mo_shut
      refine pe_callV d_Mo_store_23 m_Mo_126 j_Mo_shut v_Mo_shut (c_Mo_shut hMo hnp hnb hOp _) rfl rfl (by simp [Value.category]) (by decide) hMo rfl rfl ?_
      intro v1 h1 z1 hq1
      obtain ⟨rfl, rfl, rfl⟩ := hq1
      change pz_E _ _ _ _ _ _ _ _ _ (_ :: _) _ _ _
      refine pe_if_eq (tgt := 31) d_Mo_store_26 (by decide) (fun c_26 => ?_) (fun c_26 => ?_)
      · have c_26 := pb_0.mp c_26
        obtain ⟨a, ha, hop, rfl⟩ := opn_N (nb_f c_26)
        refine pe_aload_n d_Mo_store_31 rfl ?_
        refine pe_getf d_Mo_store_32 f_Mo_33 hMo rfl ?_
        refine pe_iload_n d_Mo_store_35 rfl ?_
        refine pe_ialdN d_Mo_store_36 hOw (by omega) (by omega) ?_
        refine pe_iload_n d_Mo_store_37 rfl ?_
        refine pe_icmp_eq (tgt := 58) d_Mo_store_38 (by decide) (fun c_38 => ?_) (fun c_38 => ?_)
        · exact absurd (may_i (mr := Mrt) (r := nI 2) hnp ha hop hq hb (Or.inl c_38)) (by rw [hno]; decide)
        · refine pe_aload_n d_Mo_store_41 rfl ?_
          refine pe_getf d_Mo_store_42 f_Mo_42 hMo rfl ?_
          refine pe_iload_n d_Mo_store_45 rfl ?_
          refine pe_bipush (v := nI 6) d_Mo_store_46 (by decide) ?_
          refine pe_imulN d_Mo_store_48 ?_
          refine pe_iload_n d_Mo_store_49 rfl ?_
          refine pe_iaddN d_Mo_store_50 ?_
          refine pe_ialdN d_Mo_store_51 hRt (by omega) (by omega) ?_
          refine pe_iconst (v := nI 2) d_Mo_store_52 (by decide) ?_
          refine pe_icmp_eq (tgt := 58) d_Mo_store_53 (by decide) (fun c_53 => ?_) (fun c_53 => ?_)
          · exact absurd (may_i (mr := Mrt) (r := nI 2) hnp ha hop hq hb (Or.inr (by rw [c_53]; decide))) (by rw [hno]; decide)
          · refine pe_iconst (v := -1) d_Mo_store_56 (by decide) ?_
            refine pe_iret d_Mo_store_57 rfl ?_
            exact ⟨rfl, rfl, rfl⟩
      · have c_26 := pb_n0.mp c_26
        refine pe_iconst (v := -1) d_Mo_store_29 (by decide) ?_
        refine pe_iret d_Mo_store_30 rfl ?_
        exact ⟨rfl, rfl, rfl⟩
set_option maxHeartbeats 4000000 in
set_option maxRecDepth 20000 in
theorem c_Mo_store_ok {l : Launch} {L : Nat} {xs : Nat → Int32} {h : pz_H} {z : Nat} {np nb now tkg lst flt byt : Nat} {sa sx : Int32} (hMo : MOB h np nb now tkg lst flt byt sa sx) (hnp : np ≤ 32) (hnb : nb ≤ 32) {Mop : Nat → Bool} (hOp : AB h 167 6 Mop) {Mow : Nat → Int32} (hOw : AI h 171 32 Mow) {Mrt : Nat → Int32} (hRt : AI h 174 192 Mrt) {Mwd : Nat → Int32} (hWd : AI h 175 128 Mwd) {a : Nat} (ha : a < 6) (hop : Mop a = true) {q b : Nat} (hq : q < np) (hb : b < 4) (hr : ∀ t, t < np * 6 → Mrt t = nI 0 ∨ Mrt t = nI 1 ∨ Mrt t = nI 2) (hmy : Mow q = nI a ∨ ¬ Mrt (q * 6 + a) < nI 2) (u : Int32) : pz_K l L xs M_Mo_store 2 0 0 [.ref 166, .int (nI a), .int (nI q), .int (nI b), .int u] h z (fun v h' z' => v = some (.int (nI 0)) ∧ z = z' ∧ AI h' 175 128 (upd Mwd (q * 4 + b) u) ∧ frx [175] h h') := by
  refine pz_K.of rfl (Nat.le_of_ble_eq_true rfl) ?_
  have hf : frx [175] h h := frx.rf
  change pz_E l L xs M_Mo_store 2 0 0 0 [some (.ref 166), some (.int (nI a)), some (.int (nI q)), some (.int (nI b)), some (.int u)] [] h z _
  refine pe_aload_n d_Mo_store_0 rfl ?_
  refine pe_iload_n d_Mo_store_1 rfl ?_
  refine pe_aload_n d_Mo_store_2 rfl ?_
  refine pe_getf d_Mo_store_3 f_Mo_105 hMo rfl ?_
  -- 6: Mo_out
  refine pe_callV d_Mo_store_6 m_Mo_111 j_Mo_out v_Mo_out (c_Mo_out hMo hnp hnb _ _) rfl rfl (by simp [Value.category]) (by decide) hMo rfl rfl ?_
  intro v1 h1 z1 hq1
  obtain ⟨rfl, rfl, rfl⟩ := hq1
  change pz_E _ _ _ _ _ _ _ _ _ (_ :: _) _ _ _
  refine pe_if_ne (tgt := 29) d_Mo_store_9 (by decide) (fun c_9 => ?_) (fun c_9 => ?_)
  · have c_9 := pb_n0.mp c_9
    exact absurd c_9 (by rw [ot_n (by omega) hq]; decide)
  · have c_9 := pb_0.mp c_9
    refine pe_aload_n d_Mo_store_12 rfl ?_
    refine pe_iload_n d_Mo_store_13 rfl ?_
    refine pe_iconst (v := nI 4) d_Mo_store_14 (by decide) ?_
    -- 15: Mo_out
    refine pe_callV d_Mo_store_15 m_Mo_111 j_Mo_out v_Mo_out (c_Mo_out hMo hnp hnb _ _) rfl rfl (by simp [Value.category]) (by decide) hMo rfl rfl ?_
    intro v1 h1 z1 hq1
    obtain ⟨rfl, rfl, rfl⟩ := hq1
    change pz_E _ _ _ _ _ _ _ _ _ (_ :: _) _ _ _
    refine pe_if_ne (tgt := 29) d_Mo_store_18 (by decide) (fun c_18 => ?_) (fun c_18 => ?_)
    · have c_18 := pb_n0.mp c_18
      exact absurd c_18 (by rw [ot_n (by omega) hb]; decide)
    · have c_18 := pb_0.mp c_18
      refine pe_aload_n d_Mo_store_21 rfl ?_
      refine pe_iload_n d_Mo_store_22 rfl ?_
      -- 23: Mo_shut
      refine pe_callV d_Mo_store_23 m_Mo_126 j_Mo_shut v_Mo_shut (c_Mo_shut hMo hnp hnb hOp _) rfl rfl (by simp [Value.category]) (by decide) hMo rfl rfl ?_
      intro v1 h1 z1 hq1
      obtain ⟨rfl, rfl, rfl⟩ := hq1
      change pz_E _ _ _ _ _ _ _ _ _ (_ :: _) _ _ _
      refine pe_if_eq (tgt := 31) d_Mo_store_26 (by decide) (fun c_26 => ?_) (fun c_26 => ?_)
      · have c_26 := pb_0.mp c_26
        refine pe_aload_n d_Mo_store_31 rfl ?_
        refine pe_getf d_Mo_store_32 f_Mo_33 hMo rfl ?_
        refine pe_iload_n d_Mo_store_35 rfl ?_
        refine pe_ialdN d_Mo_store_36 hOw (by omega) (by omega) ?_
        refine pe_iload_n d_Mo_store_37 rfl ?_
        refine pe_icmp_eq (tgt := 58) d_Mo_store_38 (by decide) (fun c_38 => ?_) (fun c_38 => ?_)
        · refine pe_aload_n d_Mo_store_58 rfl ?_
          refine pe_getf d_Mo_store_59 f_Mo_45 hMo rfl ?_
          refine pe_iload_n d_Mo_store_62 rfl ?_
          refine pe_iconst (v := nI 4) d_Mo_store_63 (by decide) ?_
          refine pe_imulN d_Mo_store_64 ?_
          refine pe_iload_n d_Mo_store_65 rfl ?_
          refine pe_iaddN d_Mo_store_66 ?_
          refine pe_iload d_Mo_store_67 rfl ?_
          refine pe_iastN d_Mo_store_69 hWd (by omega) (by omega) ?_
          refine pe_pu (fun h2 e2 o2 => ?_)
          have hMo := (o2 (166) (by omega)).trans hMo
          have hOp := (o2 (167) (by omega)).trans hOp
          have hOw := (o2 (171) (by omega)).trans hOw
          have hRt := (o2 (174) (by omega)).trans hRt
          have hWd := e2
          have hf := hf.st o2 (by decide)
          refine pe_iconst (v := nI 0) d_Mo_store_70 (by decide) ?_
          refine pe_iret d_Mo_store_71 rfl ?_
          exact ⟨rfl, rfl, hWd, hf⟩
        · refine pe_aload_n d_Mo_store_41 rfl ?_
          refine pe_getf d_Mo_store_42 f_Mo_42 hMo rfl ?_
          refine pe_iload_n d_Mo_store_45 rfl ?_
          refine pe_bipush (v := nI 6) d_Mo_store_46 (by decide) ?_
          refine pe_imulN d_Mo_store_48 ?_
          refine pe_iload_n d_Mo_store_49 rfl ?_
          refine pe_iaddN d_Mo_store_50 ?_
          refine pe_ialdN d_Mo_store_51 hRt (by omega) (by omega) ?_
          refine pe_iconst (v := nI 2) d_Mo_store_52 (by decide) ?_
          refine pe_icmp_eq (tgt := 58) d_Mo_store_53 (by decide) (fun c_53 => ?_) (fun c_53 => ?_)
          · refine pe_aload_n d_Mo_store_58 rfl ?_
            refine pe_getf d_Mo_store_59 f_Mo_45 hMo rfl ?_
            refine pe_iload_n d_Mo_store_62 rfl ?_
            refine pe_iconst (v := nI 4) d_Mo_store_63 (by decide) ?_
            refine pe_imulN d_Mo_store_64 ?_
            refine pe_iload_n d_Mo_store_65 rfl ?_
            refine pe_iaddN d_Mo_store_66 ?_
            refine pe_iload d_Mo_store_67 rfl ?_
            refine pe_iastN d_Mo_store_69 hWd (by omega) (by omega) ?_
            refine pe_pu (fun h2 e2 o2 => ?_)
            have hMo := (o2 (166) (by omega)).trans hMo
            have hOp := (o2 (167) (by omega)).trans hOp
            have hOw := (o2 (171) (by omega)).trans hOw
            have hRt := (o2 (174) (by omega)).trans hRt
            have hWd := e2
            have hf := hf.st o2 (by decide)
            refine pe_iconst (v := nI 0) d_Mo_store_70 (by decide) ?_
            refine pe_iret d_Mo_store_71 rfl ?_
            exact ⟨rfl, rfl, hWd, hf⟩
          · exact hmy.elim (fun e9 => absurd e9 c_38) (fun e9 => by rcases hr (q * 6 + a) (by omega) with e8 | e8 | e8 <;> rw [e8] at c_53 e9 <;> first | exact absurd rfl c_53 | exact absurd (by decide) e9)
      · have c_26 := pb_n0.mp c_26
        exact absurd c_26 (by rw [opn_a ha, hop]; decide)
set_option maxHeartbeats 4000000 in
set_option maxRecDepth 20000 in
theorem c_Mo_fetch_no {l : Launch} {L : Nat} {xs : Nat → Int32} {h : pz_H} {z : Nat} {np nb now tkg lst flt byt : Nat} {sa sx : Int32} (hMo : MOB h np nb now tkg lst flt byt sa sx) (hnp : np ≤ 32) (hnb : nb ≤ 32) {Mop : Nat → Bool} (hOp : AB h 167 6 Mop) {Mow : Nat → Int32} (hOw : AI h 171 32 Mow) {Mrt : Nat → Int32} (hRt : AI h 174 192 Mrt) {Mwd : Nat → Int32} (hWd : AI h 175 128 Mwd) (x y w : Int32) (hr : ∀ t, t < np * 6 → Mrt t = nI 0 ∨ Mrt t = nI 1 ∨ Mrt t = nI 2) (hno : may Mop Mow Mrt np x y w (nI 1) = false) : pz_K l L xs M_Mo_fetch 2 0 0 [.ref 166, .int x, .int y, .int w] h z (fun v h' z' => v = some (.long 1000000000000) ∧ h = h' ∧ z = z') := by
  refine pz_K.of rfl (Nat.le_of_ble_eq_true rfl) ?_
  change pz_E l L xs M_Mo_fetch 2 0 0 0 [some (.ref 166), some (.int x), some (.int y), some (.int w)] [] h z _
  refine pe_aload_n d_Mo_fetch_0 rfl ?_
  refine pe_iload_n d_Mo_fetch_1 rfl ?_
  refine pe_aload_n d_Mo_fetch_2 rfl ?_
  refine pe_getf d_Mo_fetch_3 f_Mo_105 hMo rfl ?_
  -- 6: Mo_out
  refine pe_callV d_Mo_fetch_6 m_Mo_111 j_Mo_out v_Mo_out (c_Mo_out hMo hnp hnb _ _) rfl rfl (by simp [Value.category]) (by decide) hMo rfl rfl ?_
  intro v1 h1 z1 hq1
  obtain ⟨rfl, rfl, rfl⟩ := hq1
  change pz_E _ _ _ _ _ _ _ _ _ (_ :: _) _ _ _
  refine pe_if_ne (tgt := 29) d_Mo_fetch_9 (by decide) (fun c_9 => ?_) (fun c_9 => ?_)
  · have c_9 := pb_n0.mp c_9
    refine pe_ldc2 d_Mo_fetch_29 z_Mo_137 ?_
    refine pe_lret d_Mo_fetch_32 rfl ?_
    exact ⟨rfl, rfl, rfl⟩
  · have c_9 := pb_0.mp c_9
    obtain ⟨q, hq, rfl⟩ := inn_N (n := np) (by omega) (ot_f c_9)
    refine pe_aload_n d_Mo_fetch_12 rfl ?_
    refine pe_iload_n d_Mo_fetch_13 rfl ?_
    refine pe_iconst (v := nI 4) d_Mo_fetch_14 (by decide) ?_
    -- 15: Mo_out
    refine pe_callV d_Mo_fetch_15 m_Mo_111 j_Mo_out v_Mo_out (c_Mo_out hMo hnp hnb _ _) rfl rfl (by simp [Value.category]) (by decide) hMo rfl rfl ?_
    intro v1 h1 z1 hq1
    obtain ⟨rfl, rfl, rfl⟩ := hq1
    change pz_E _ _ _ _ _ _ _ _ _ (_ :: _) _ _ _
    refine pe_if_ne (tgt := 29) d_Mo_fetch_18 (by decide) (fun c_18 => ?_) (fun c_18 => ?_)
    · have c_18 := pb_n0.mp c_18
      refine pe_ldc2 d_Mo_fetch_29 z_Mo_137 ?_
      refine pe_lret d_Mo_fetch_32 rfl ?_
      exact ⟨rfl, rfl, rfl⟩
    · have c_18 := pb_0.mp c_18
      obtain ⟨b, hb, rfl⟩ := inn_N (n := 4) (by omega) (ot_f c_18)
      refine pe_aload_n d_Mo_fetch_21 rfl ?_
      refine pe_iload_n d_Mo_fetch_22 rfl ?_
      -- 23: Mo_shut
      refine pe_callV d_Mo_fetch_23 m_Mo_126 j_Mo_shut v_Mo_shut (c_Mo_shut hMo hnp hnb hOp _) rfl rfl (by simp [Value.category]) (by decide) hMo rfl rfl ?_
      intro v1 h1 z1 hq1
      obtain ⟨rfl, rfl, rfl⟩ := hq1
      change pz_E _ _ _ _ _ _ _ _ _ (_ :: _) _ _ _
      refine pe_if_eq (tgt := 33) d_Mo_fetch_26 (by decide) (fun c_26 => ?_) (fun c_26 => ?_)
      · have c_26 := pb_0.mp c_26
        obtain ⟨a, ha, hop, rfl⟩ := opn_N (nb_f c_26)
        refine pe_aload_n d_Mo_fetch_33 rfl ?_
        refine pe_getf d_Mo_fetch_34 f_Mo_33 hMo rfl ?_
        refine pe_iload_n d_Mo_fetch_37 rfl ?_
        refine pe_ialdN d_Mo_fetch_38 hOw (by omega) (by omega) ?_
        refine pe_iload_n d_Mo_fetch_39 rfl ?_
        refine pe_icmp_eq (tgt := 61) d_Mo_fetch_40 (by decide) (fun c_40 => ?_) (fun c_40 => ?_)
        · exact absurd (may_i (mr := Mrt) (r := nI 1) hnp ha hop hq hb (Or.inl c_40)) (by rw [hno]; decide)
        · refine pe_aload_n d_Mo_fetch_43 rfl ?_
          refine pe_getf d_Mo_fetch_44 f_Mo_42 hMo rfl ?_
          refine pe_iload_n d_Mo_fetch_47 rfl ?_
          refine pe_bipush (v := nI 6) d_Mo_fetch_48 (by decide) ?_
          refine pe_imulN d_Mo_fetch_50 ?_
          refine pe_iload_n d_Mo_fetch_51 rfl ?_
          refine pe_iaddN d_Mo_fetch_52 ?_
          refine pe_ialdN d_Mo_fetch_53 hRt (by omega) (by omega) ?_
          refine pe_if_ne (tgt := 61) d_Mo_fetch_54 (by decide) (fun c_54 => ?_) (fun c_54 => ?_)
          · exact absurd (may_i (mr := Mrt) (r := nI 1) hnp ha hop hq hb (Or.inr (by rcases hr (q * 6 + a) (by omega) with e9 | e9 | e9 <;> rw [e9] at c_54 ⊢ <;> first | decide | exact absurd rfl c_54))) (by rw [hno]; decide)
          · refine pe_ldc2 d_Mo_fetch_57 z_Mo_137 ?_
            refine pe_lret d_Mo_fetch_60 rfl ?_
            exact ⟨rfl, rfl, rfl⟩
      · have c_26 := pb_n0.mp c_26
        refine pe_ldc2 d_Mo_fetch_29 z_Mo_137 ?_
        refine pe_lret d_Mo_fetch_32 rfl ?_
        exact ⟨rfl, rfl, rfl⟩
set_option maxHeartbeats 4000000 in
set_option maxRecDepth 20000 in
theorem c_Mo_fetch_ok {l : Launch} {L : Nat} {xs : Nat → Int32} {h : pz_H} {z : Nat} {np nb now tkg lst flt byt : Nat} {sa sx : Int32} (hMo : MOB h np nb now tkg lst flt byt sa sx) (hnp : np ≤ 32) (hnb : nb ≤ 32) {Mop : Nat → Bool} (hOp : AB h 167 6 Mop) {Mow : Nat → Int32} (hOw : AI h 171 32 Mow) {Mrt : Nat → Int32} (hRt : AI h 174 192 Mrt) {Mwd : Nat → Int32} (hWd : AI h 175 128 Mwd) {a : Nat} (ha : a < 6) (hop : Mop a = true) {q b : Nat} (hq : q < np) (hb : b < 4) (hr : ∀ t, t < np * 6 → Mrt t = nI 0 ∨ Mrt t = nI 1 ∨ Mrt t = nI 2) (hmy : Mow q = nI a ∨ ¬ Mrt (q * 6 + a) < nI 1) : pz_K l L xs M_Mo_fetch 2 0 0 [.ref 166, .int (nI a), .int (nI q), .int (nI b)] h z (fun v h' z' => v = some (.long (Mwd (q * 4 + b)).toInt64) ∧ h = h' ∧ z = z') := by
  refine pz_K.of rfl (Nat.le_of_ble_eq_true rfl) ?_
  change pz_E l L xs M_Mo_fetch 2 0 0 0 [some (.ref 166), some (.int (nI a)), some (.int (nI q)), some (.int (nI b))] [] h z _
  refine pe_aload_n d_Mo_fetch_0 rfl ?_
  refine pe_iload_n d_Mo_fetch_1 rfl ?_
  refine pe_aload_n d_Mo_fetch_2 rfl ?_
  refine pe_getf d_Mo_fetch_3 f_Mo_105 hMo rfl ?_
  -- 6: Mo_out
  refine pe_callV d_Mo_fetch_6 m_Mo_111 j_Mo_out v_Mo_out (c_Mo_out hMo hnp hnb _ _) rfl rfl (by simp [Value.category]) (by decide) hMo rfl rfl ?_
  intro v1 h1 z1 hq1
  obtain ⟨rfl, rfl, rfl⟩ := hq1
  change pz_E _ _ _ _ _ _ _ _ _ (_ :: _) _ _ _
  refine pe_if_ne (tgt := 29) d_Mo_fetch_9 (by decide) (fun c_9 => ?_) (fun c_9 => ?_)
  · have c_9 := pb_n0.mp c_9
    exact absurd c_9 (by rw [ot_n (by omega) hq]; decide)
  · have c_9 := pb_0.mp c_9
    refine pe_aload_n d_Mo_fetch_12 rfl ?_
    refine pe_iload_n d_Mo_fetch_13 rfl ?_
    refine pe_iconst (v := nI 4) d_Mo_fetch_14 (by decide) ?_
    -- 15: Mo_out
    refine pe_callV d_Mo_fetch_15 m_Mo_111 j_Mo_out v_Mo_out (c_Mo_out hMo hnp hnb _ _) rfl rfl (by simp [Value.category]) (by decide) hMo rfl rfl ?_
    intro v1 h1 z1 hq1
    obtain ⟨rfl, rfl, rfl⟩ := hq1
    change pz_E _ _ _ _ _ _ _ _ _ (_ :: _) _ _ _
    refine pe_if_ne (tgt := 29) d_Mo_fetch_18 (by decide) (fun c_18 => ?_) (fun c_18 => ?_)
    · have c_18 := pb_n0.mp c_18
      exact absurd c_18 (by rw [ot_n (by omega) hb]; decide)
    · have c_18 := pb_0.mp c_18
      refine pe_aload_n d_Mo_fetch_21 rfl ?_
      refine pe_iload_n d_Mo_fetch_22 rfl ?_
      -- 23: Mo_shut
      refine pe_callV d_Mo_fetch_23 m_Mo_126 j_Mo_shut v_Mo_shut (c_Mo_shut hMo hnp hnb hOp _) rfl rfl (by simp [Value.category]) (by decide) hMo rfl rfl ?_
      intro v1 h1 z1 hq1
      obtain ⟨rfl, rfl, rfl⟩ := hq1
      change pz_E _ _ _ _ _ _ _ _ _ (_ :: _) _ _ _
      refine pe_if_eq (tgt := 33) d_Mo_fetch_26 (by decide) (fun c_26 => ?_) (fun c_26 => ?_)
      · have c_26 := pb_0.mp c_26
        refine pe_aload_n d_Mo_fetch_33 rfl ?_
        refine pe_getf d_Mo_fetch_34 f_Mo_33 hMo rfl ?_
        refine pe_iload_n d_Mo_fetch_37 rfl ?_
        refine pe_ialdN d_Mo_fetch_38 hOw (by omega) (by omega) ?_
        refine pe_iload_n d_Mo_fetch_39 rfl ?_
        refine pe_icmp_eq (tgt := 61) d_Mo_fetch_40 (by decide) (fun c_40 => ?_) (fun c_40 => ?_)
        · refine pe_aload_n d_Mo_fetch_61 rfl ?_
          refine pe_getf d_Mo_fetch_62 f_Mo_45 hMo rfl ?_
          refine pe_iload_n d_Mo_fetch_65 rfl ?_
          refine pe_iconst (v := nI 4) d_Mo_fetch_66 (by decide) ?_
          refine pe_imulN d_Mo_fetch_67 ?_
          refine pe_iload_n d_Mo_fetch_68 rfl ?_
          refine pe_iaddN d_Mo_fetch_69 ?_
          refine pe_ialdN d_Mo_fetch_70 hWd (by omega) (by omega) ?_
          refine pe_i2l d_Mo_fetch_71 ?_
          refine pe_lret d_Mo_fetch_72 rfl ?_
          exact ⟨rfl, rfl, rfl⟩
        · refine pe_aload_n d_Mo_fetch_43 rfl ?_
          refine pe_getf d_Mo_fetch_44 f_Mo_42 hMo rfl ?_
          refine pe_iload_n d_Mo_fetch_47 rfl ?_
          refine pe_bipush (v := nI 6) d_Mo_fetch_48 (by decide) ?_
          refine pe_imulN d_Mo_fetch_50 ?_
          refine pe_iload_n d_Mo_fetch_51 rfl ?_
          refine pe_iaddN d_Mo_fetch_52 ?_
          refine pe_ialdN d_Mo_fetch_53 hRt (by omega) (by omega) ?_
          refine pe_if_ne (tgt := 61) d_Mo_fetch_54 (by decide) (fun c_54 => ?_) (fun c_54 => ?_)
          · refine pe_aload_n d_Mo_fetch_61 rfl ?_
            refine pe_getf d_Mo_fetch_62 f_Mo_45 hMo rfl ?_
            refine pe_iload_n d_Mo_fetch_65 rfl ?_
            refine pe_iconst (v := nI 4) d_Mo_fetch_66 (by decide) ?_
            refine pe_imulN d_Mo_fetch_67 ?_
            refine pe_iload_n d_Mo_fetch_68 rfl ?_
            refine pe_iaddN d_Mo_fetch_69 ?_
            refine pe_ialdN d_Mo_fetch_70 hWd (by omega) (by omega) ?_
            refine pe_i2l d_Mo_fetch_71 ?_
            refine pe_lret d_Mo_fetch_72 rfl ?_
            exact ⟨rfl, rfl, rfl⟩
          · exact hmy.elim (fun e9 => absurd e9 c_40) (fun e9 => by rw [c_54] at e9; exact absurd (by decide) e9)
      · have c_26 := pb_n0.mp c_26
        exact absurd c_26 (by rw [opn_a ha, hop]; decide)
set_option maxHeartbeats 4000000 in
set_option maxRecDepth 20000 in
theorem c_Mo_push_no {l : Launch} {L : Nat} {xs : Nat → Int32} {h : pz_H} {z : Nat} {np nb now tkg lst flt byt : Nat} {sa sx : Int32} (hMo : MOB h np nb now tkg lst flt byt sa sx) (hnp : np ≤ 32) (hnb : nb ≤ 32) {Mfm : Nat → Int32} (hFm : AI h 181 16 Mfm) (x : Int32) (hno : rng x (nI 0) (nI 255) = false) : pz_K l L xs M_Mo_push 1 0 0 [.ref 166, .int x] h z (fun v h' z' => v = some (.int (-1)) ∧ h = h' ∧ z = z') := by
  refine pz_K.of rfl (Nat.le_of_ble_eq_true rfl) ?_
  change pz_E l L xs M_Mo_push 1 0 0 0 [some (.ref 166), some (.int x)] [] h z _
  refine pe_aload_n d_Mo_push_0 rfl ?_
  refine pe_iload_n d_Mo_push_1 rfl ?_
  refine pe_sipush (v := nI 256) d_Mo_push_2 (by decide) ?_
  -- 5: Mo_out
  refine pe_callV d_Mo_push_5 m_Mo_111 j_Mo_out v_Mo_out (c_Mo_out hMo hnp hnb _ _) rfl rfl (by simp [Value.category]) (by decide) hMo rfl rfl ?_
  intro v1 h1 z1 hq1
  obtain ⟨rfl, rfl, rfl⟩ := hq1
  change pz_E _ _ _ _ _ _ _ _ _ (_ :: _) _ _ _
  refine pe_if_eq (tgt := 13) d_Mo_push_8 (by decide) (fun c_8 => ?_) (fun c_8 => ?_)
  · have c_8 := pb_0.mp c_8
    exact absurd (ot_f c_8) (by rw [inn_rng _ (by decide), hno]; decide)
  · have c_8 := pb_n0.mp c_8
    refine pe_iconst (v := -1) d_Mo_push_11 (by decide) ?_
    refine pe_iret d_Mo_push_12 rfl ?_
    exact ⟨rfl, rfl, rfl⟩
set_option maxHeartbeats 4000000 in
set_option maxRecDepth 20000 in
theorem c_Mo_push_full {l : Launch} {L : Nat} {xs : Nat → Int32} {h : pz_H} {z : Nat} {np nb now tkg lst flt byt : Nat} {sa sx : Int32} (hMo : MOB h np nb now tkg lst flt byt sa sx) (hnp : np ≤ 32) (hnb : nb ≤ 32) {Mfm : Nat → Int32} (hFm : AI h 181 16 Mfm) (x : Int32) (hyes : rng x (nI 0) (nI 255) = true) (hfull : byt = 16) : pz_K l L xs M_Mo_push 1 0 0 [.ref 166, .int x] h z (fun v h' z' => v = some (.int (-2)) ∧ h = h' ∧ z = z') := by
  refine pz_K.of rfl (Nat.le_of_ble_eq_true rfl) ?_
  have hb16 : byt ≤ 16 := by omega
  change pz_E l L xs M_Mo_push 1 0 0 0 [some (.ref 166), some (.int x)] [] h z _
  refine pe_aload_n d_Mo_push_0 rfl ?_
  refine pe_iload_n d_Mo_push_1 rfl ?_
  refine pe_sipush (v := nI 256) d_Mo_push_2 (by decide) ?_
  -- 5: Mo_out
  refine pe_callV d_Mo_push_5 m_Mo_111 j_Mo_out v_Mo_out (c_Mo_out hMo hnp hnb _ _) rfl rfl (by simp [Value.category]) (by decide) hMo rfl rfl ?_
  intro v1 h1 z1 hq1
  obtain ⟨rfl, rfl, rfl⟩ := hq1
  change pz_E _ _ _ _ _ _ _ _ _ (_ :: _) _ _ _
  refine pe_if_eq (tgt := 13) d_Mo_push_8 (by decide) (fun c_8 => ?_) (fun c_8 => ?_)
  · have c_8 := pb_0.mp c_8
    refine pe_aload_n d_Mo_push_13 rfl ?_
    refine pe_getf d_Mo_push_14 f_Mo_66 hMo rfl ?_
    refine pe_bipush (v := nI 16) d_Mo_push_17 (by decide) ?_
    refine pe_icmpN_ne (tgt := 25) d_Mo_push_19 (by decide) (by omega) (by omega) (fun c_19 => ?_) (fun c_19 => ?_)
    · exact absurd hfull c_19
    · refine pe_bipush (v := -2) d_Mo_push_22 (by decide) ?_
      refine pe_iret d_Mo_push_24 rfl ?_
      exact ⟨rfl, rfl, rfl⟩
  · have c_8 := pb_n0.mp c_8
    exact absurd (ot_t c_8) (by rw [inn_rng _ (by decide), hyes]; decide)
set_option maxHeartbeats 4000000 in
set_option maxRecDepth 20000 in
theorem c_Mo_push_ok {l : Launch} {L : Nat} {xs : Nat → Int32} {h : pz_H} {z : Nat} {np nb now tkg lst flt byt : Nat} {sa sx : Int32} (hMo : MOB h np nb now tkg lst flt byt sa sx) (hnp : np ≤ 32) (hnb : nb ≤ 32) {Mfm : Nat → Int32} (hFm : AI h 181 16 Mfm) (x : Int32) (hyes : rng x (nI 0) (nI 255) = true) (hlt : byt < 16) : pz_K l L xs M_Mo_push 1 0 0 [.ref 166, .int x] h z (fun v h' z' => v = some (.int (nI (byt + 1))) ∧ z = z' ∧ MOB h' np nb now tkg lst flt (byt + 1) sa sx ∧ AI h' 181 16 (upd Mfm byt x) ∧ frx [166, 181] h h') := by
  refine pz_K.of rfl (Nat.le_of_ble_eq_true rfl) ?_
  have hf : frx [166, 181] h h := frx.rf
  change pz_E l L xs M_Mo_push 1 0 0 0 [some (.ref 166), some (.int x)] [] h z _
  refine pe_aload_n d_Mo_push_0 rfl ?_
  refine pe_iload_n d_Mo_push_1 rfl ?_
  refine pe_sipush (v := nI 256) d_Mo_push_2 (by decide) ?_
  -- 5: Mo_out
  refine pe_callV d_Mo_push_5 m_Mo_111 j_Mo_out v_Mo_out (c_Mo_out hMo hnp hnb _ _) rfl rfl (by simp [Value.category]) (by decide) hMo rfl rfl ?_
  intro v1 h1 z1 hq1
  obtain ⟨rfl, rfl, rfl⟩ := hq1
  change pz_E _ _ _ _ _ _ _ _ _ (_ :: _) _ _ _
  refine pe_if_eq (tgt := 13) d_Mo_push_8 (by decide) (fun c_8 => ?_) (fun c_8 => ?_)
  · have c_8 := pb_0.mp c_8
    refine pe_aload_n d_Mo_push_13 rfl ?_
    refine pe_getf d_Mo_push_14 f_Mo_66 hMo rfl ?_
    refine pe_bipush (v := nI 16) d_Mo_push_17 (by decide) ?_
    refine pe_icmpN_ne (tgt := 25) d_Mo_push_19 (by decide) (by omega) (by omega) (fun c_19 => ?_) (fun c_19 => ?_)
    · refine pe_aload_n d_Mo_push_25 rfl ?_
      refine pe_getf d_Mo_push_26 f_Mo_69 hMo rfl ?_
      refine pe_aload_n d_Mo_push_29 rfl ?_
      refine pe_getf d_Mo_push_30 f_Mo_66 hMo rfl ?_
      refine pe_iload_n d_Mo_push_33 rfl ?_
      refine pe_iastN d_Mo_push_34 hFm (by omega) (by omega) ?_
      refine pe_pu (fun h2 e2 o2 => ?_)
      have hMo := (o2 (166) (by omega)).trans hMo
      have hFm := e2
      have hf := hf.st o2 (by decide)
      refine pe_aload_n d_Mo_push_35 rfl ?_
      refine pe_dup d_Mo_push_36 rfl ?_
      refine pe_getf d_Mo_push_37 f_Mo_66 hMo rfl ?_
      refine pe_iconst (v := nI 1) d_Mo_push_40 (by decide) ?_
      refine pe_iaddN d_Mo_push_41 ?_
      refine pe_put d_Mo_push_42 g_Mo_66 hMo (Nat.le_of_ble_eq_true rfl) rfl ?_
      refine pe_pu (fun h2 e2 o2 => ?_)
      have hMo := e2
      have hFm := (o2 (181) (by omega)).trans hFm
      have hf := hf.st o2 (by decide)
      refine pe_aload_n d_Mo_push_45 rfl ?_
      refine pe_getf d_Mo_push_46 f_Mo_66 hMo rfl ?_
      refine pe_iret d_Mo_push_49 rfl ?_
      exact ⟨rfl, rfl, hMo, hFm, hf⟩
    · exfalso; omega
  · have c_8 := pb_n0.mp c_8
    exact absurd (ot_t c_8) (by rw [inn_rng _ (by decide), hyes]; decide)
theorem le_m1 {i : Int32} (h : ¬ i < -1) (h0 : i < 0) : i = -1 := by
  apply Int32.toInt_inj.mp
  have h1 : ¬ i.toInt < -1 := fun q => h (Int32.lt_iff_toInt_lt.mpr q)
  have h2 : i.toInt < 0 := Int32.lt_iff_toInt_lt.mp h0
  have h3 : (-1 : Int32).toInt = -1 := by decide
  omega
set_option maxHeartbeats 4000000 in
set_option maxRecDepth 20000 in
theorem c_Mo_got_no {l : Launch} {L : Nat} {xs : Nat → Int32} {h : pz_H} {z : Nat} {np nb now tkg lst flt byt : Nat} {sa sx : Int32} (hMo : MOB h np nb now tkg lst flt byt sa sx) (hnp : np ≤ 32) (hnb : nb ≤ 32) {Mop : Nat → Bool} (hOp : AB h 167 6 Mop) {Mfs : Nat → Nat} (hFs : AN h 182 6 Mfs) {Mfl : Nat → Nat} (hFl : AN h 183 24 Mfl) {Mfb : Nat → Int32} (hFb : AI h 184 384 Mfb) (x i : Int32) (hno : opn Mop x = false) : pz_K l L xs M_Mo_got 2 0 0 [.ref 166, .int x, .int i] h z (fun v h' z' => v = some (.int (-1)) ∧ h = h' ∧ z = z') := by
  refine pz_K.of rfl (Nat.le_of_ble_eq_true rfl) ?_
  change pz_E l L xs M_Mo_got 2 0 0 0 [some (.ref 166), some (.int x), some (.int i)] [] h z _
  refine pe_iload_n d_Mo_got_0 rfl ?_
  refine pe_iconst (v := -1) d_Mo_got_1 (by decide) ?_
  refine pe_icmp_lt (tgt := 34) d_Mo_got_2 (by decide) (fun c_2 => ?_) (fun c_2 => ?_)
  · refine pe_iconst (v := -1) d_Mo_got_34 (by decide) ?_
    refine pe_iret d_Mo_got_35 rfl ?_
    exact ⟨rfl, rfl, rfl⟩
  · refine pe_aload_n d_Mo_got_5 rfl ?_
    refine pe_iload_n d_Mo_got_6 rfl ?_
    -- 7: Mo_shut
    refine pe_callV d_Mo_got_7 m_Mo_126 j_Mo_shut v_Mo_shut (c_Mo_shut hMo hnp hnb hOp _) rfl rfl (by simp [Value.category]) (by decide) hMo rfl rfl ?_
    intro v1 h1 z1 hq1
    obtain ⟨rfl, rfl, rfl⟩ := hq1
    change pz_E _ _ _ _ _ _ _ _ _ (_ :: _) _ _ _
    refine pe_if_ne (tgt := 34) d_Mo_got_10 (by decide) (fun c_10 => ?_) (fun c_10 => ?_)
    · have c_10 := pb_n0.mp c_10
      refine pe_iconst (v := -1) d_Mo_got_34 (by decide) ?_
      refine pe_iret d_Mo_got_35 rfl ?_
      exact ⟨rfl, rfl, rfl⟩
    · have c_10 := pb_0.mp c_10
      exact absurd (nb_f c_10) (by rw [hno]; decide)
set_option maxHeartbeats 4000000 in
set_option maxRecDepth 20000 in
theorem c_Mo_got_none {l : Launch} {L : Nat} {xs : Nat → Int32} {h : pz_H} {z : Nat} {np nb now tkg lst flt byt : Nat} {sa sx : Int32} (hMo : MOB h np nb now tkg lst flt byt sa sx) (hnp : np ≤ 32) (hnb : nb ≤ 32) {Mop : Nat → Bool} (hOp : AB h 167 6 Mop) {Mfs : Nat → Nat} (hFs : AN h 182 6 Mfs) {Mfl : Nat → Nat} (hFl : AN h 183 24 Mfl) {Mfb : Nat → Int32} (hFb : AI h 184 384 Mfb) {a : Nat} (ha : a < 6) (hop : Mop a = true) (i : Int32) (h0 : Mfs a = 0) : pz_K l L xs M_Mo_got 2 0 0 [.ref 166, .int (nI a), .int i] h z (fun v h' z' => v = some (.int (-1)) ∧ h = h' ∧ z = z') := by
  refine pz_K.of rfl (Nat.le_of_ble_eq_true rfl) ?_
  change pz_E l L xs M_Mo_got 2 0 0 0 [some (.ref 166), some (.int (nI a)), some (.int i)] [] h z _
  refine pe_iload_n d_Mo_got_0 rfl ?_
  refine pe_iconst (v := -1) d_Mo_got_1 (by decide) ?_
  refine pe_icmp_lt (tgt := 34) d_Mo_got_2 (by decide) (fun c_2 => ?_) (fun c_2 => ?_)
  · refine pe_iconst (v := -1) d_Mo_got_34 (by decide) ?_
    refine pe_iret d_Mo_got_35 rfl ?_
    exact ⟨rfl, rfl, rfl⟩
  · refine pe_aload_n d_Mo_got_5 rfl ?_
    refine pe_iload_n d_Mo_got_6 rfl ?_
    -- 7: Mo_shut
    refine pe_callV d_Mo_got_7 m_Mo_126 j_Mo_shut v_Mo_shut (c_Mo_shut hMo hnp hnb hOp _) rfl rfl (by simp [Value.category]) (by decide) hMo rfl rfl ?_
    intro v1 h1 z1 hq1
    obtain ⟨rfl, rfl, rfl⟩ := hq1
    change pz_E _ _ _ _ _ _ _ _ _ (_ :: _) _ _ _
    refine pe_if_ne (tgt := 34) d_Mo_got_10 (by decide) (fun c_10 => ?_) (fun c_10 => ?_)
    · have c_10 := pb_n0.mp c_10
      exact absurd c_10 (by rw [opn_a ha, hop]; decide)
    · have c_10 := pb_0.mp c_10
      refine pe_aload_n d_Mo_got_13 rfl ?_
      refine pe_getf d_Mo_got_14 f_Mo_72 hMo rfl ?_
      refine pe_iload_n d_Mo_got_17 rfl ?_
      refine pe_ialdN d_Mo_got_18 hFs (by omega) (by omega) ?_
      refine pe_if_eq (tgt := 34) d_Mo_got_19 (by decide) (fun c_19 => ?_) (fun c_19 => ?_)
      · refine pe_iconst (v := -1) d_Mo_got_34 (by decide) ?_
        refine pe_iret d_Mo_got_35 rfl ?_
        exact ⟨rfl, rfl, rfl⟩
      · exact absurd (by rw [h0]; rfl) c_19
set_option maxHeartbeats 4000000 in
set_option maxRecDepth 20000 in
theorem c_Mo_got_len {l : Launch} {L : Nat} {xs : Nat → Int32} {h : pz_H} {z : Nat} {np nb now tkg lst flt byt : Nat} {sa sx : Int32} (hMo : MOB h np nb now tkg lst flt byt sa sx) (hnp : np ≤ 32) (hnb : nb ≤ 32) {Mop : Nat → Bool} (hOp : AB h 167 6 Mop) {Mfs : Nat → Nat} (hFs : AN h 182 6 Mfs) {Mfl : Nat → Nat} (hFl : AN h 183 24 Mfl) {Mfb : Nat → Int32} (hFb : AI h 184 384 Mfb) {a : Nat} (ha : a < 6) (hop : Mop a = true) (i : Int32) (hl : Mfl (a * 4) ≤ 16) (h0 : 0 < Mfs a) (hf4 : Mfs a ≤ 4) (hi : i = -1) : pz_K l L xs M_Mo_got 2 0 0 [.ref 166, .int (nI a), .int i] h z (fun v h' z' => v = some (.int (nI (Mfl (a * 4)))) ∧ h = h' ∧ z = z') := by
  refine pz_K.of rfl (Nat.le_of_ble_eq_true rfl) ?_
  change pz_E l L xs M_Mo_got 2 0 0 0 [some (.ref 166), some (.int (nI a)), some (.int i)] [] h z _
  refine pe_iload_n d_Mo_got_0 rfl ?_
  refine pe_iconst (v := -1) d_Mo_got_1 (by decide) ?_
  refine pe_icmp_lt (tgt := 34) d_Mo_got_2 (by decide) (fun c_2 => ?_) (fun c_2 => ?_)
  · exact absurd c_2 (by rw [hi]; decide)
  · refine pe_aload_n d_Mo_got_5 rfl ?_
    refine pe_iload_n d_Mo_got_6 rfl ?_
    -- 7: Mo_shut
    refine pe_callV d_Mo_got_7 m_Mo_126 j_Mo_shut v_Mo_shut (c_Mo_shut hMo hnp hnb hOp _) rfl rfl (by simp [Value.category]) (by decide) hMo rfl rfl ?_
    intro v1 h1 z1 hq1
    obtain ⟨rfl, rfl, rfl⟩ := hq1
    change pz_E _ _ _ _ _ _ _ _ _ (_ :: _) _ _ _
    refine pe_if_ne (tgt := 34) d_Mo_got_10 (by decide) (fun c_10 => ?_) (fun c_10 => ?_)
    · have c_10 := pb_n0.mp c_10
      exact absurd c_10 (by rw [opn_a ha, hop]; decide)
    · have c_10 := pb_0.mp c_10
      refine pe_aload_n d_Mo_got_13 rfl ?_
      refine pe_getf d_Mo_got_14 f_Mo_72 hMo rfl ?_
      refine pe_iload_n d_Mo_got_17 rfl ?_
      refine pe_ialdN d_Mo_got_18 hFs (by omega) (by omega) ?_
      refine pe_if_eq (tgt := 34) d_Mo_got_19 (by decide) (fun c_19 => ?_) (fun c_19 => ?_)
      · exact absurd (nI_inj (a := Mfs a) (b := 0) (by omega) (by omega) c_19) (by omega)
      · refine pe_iload_n d_Mo_got_22 rfl ?_
        refine pe_aload_n d_Mo_got_23 rfl ?_
        refine pe_getf d_Mo_got_24 f_Mo_75 hMo rfl ?_
        refine pe_iload_n d_Mo_got_27 rfl ?_
        refine pe_iconst (v := nI 4) d_Mo_got_28 (by decide) ?_
        refine pe_imulN d_Mo_got_29 ?_
        refine pe_ialdN d_Mo_got_30 hFl (by omega) (by omega) ?_
        refine pe_icmp_lt (tgt := 36) d_Mo_got_31 (by decide) (fun c_31 => ?_) (fun c_31 => ?_)
        · refine pe_iload_n d_Mo_got_36 rfl ?_
          refine pe_if_ge (tgt := 51) d_Mo_got_37 (by decide) (fun c_37 => ?_) (fun c_37 => ?_)
          · exact absurd c_37 (by rw [hi]; decide)
          · refine pe_aload_n d_Mo_got_40 rfl ?_
            refine pe_getf d_Mo_got_41 f_Mo_75 hMo rfl ?_
            refine pe_iload_n d_Mo_got_44 rfl ?_
            refine pe_iconst (v := nI 4) d_Mo_got_45 (by decide) ?_
            refine pe_imulN d_Mo_got_46 ?_
            refine pe_ialdN d_Mo_got_47 hFl (by omega) (by omega) ?_
            refine pe_goto (tgt := 62) d_Mo_got_48 (by decide) ?_
            refine pe_iret d_Mo_got_62 rfl ?_
            exact ⟨rfl, rfl, rfl⟩
        · exact absurd (Int32.lt_of_lt_of_le (show i < 0 by rw [hi]; decide) (nI_nn (by omega))) c_31
set_option maxHeartbeats 4000000 in
set_option maxRecDepth 20000 in
theorem c_Mo_got_nob {l : Launch} {L : Nat} {xs : Nat → Int32} {h : pz_H} {z : Nat} {np nb now tkg lst flt byt : Nat} {sa sx : Int32} (hMo : MOB h np nb now tkg lst flt byt sa sx) (hnp : np ≤ 32) (hnb : nb ≤ 32) {Mop : Nat → Bool} (hOp : AB h 167 6 Mop) {Mfs : Nat → Nat} (hFs : AN h 182 6 Mfs) {Mfl : Nat → Nat} (hFl : AN h 183 24 Mfl) {Mfb : Nat → Int32} (hFb : AI h 184 384 Mfb) {a : Nat} (ha : a < 6) (hop : Mop a = true) (i : Int32) (hl : Mfl (a * 4) ≤ 16) (h0 : 0 < Mfs a) (hf4 : Mfs a ≤ 4) (hi : ¬ i = -1) (hb : inn i (Mfl (a * 4)) = false) : pz_K l L xs M_Mo_got 2 0 0 [.ref 166, .int (nI a), .int i] h z (fun v h' z' => v = some (.int (-1)) ∧ h = h' ∧ z = z') := by
  refine pz_K.of rfl (Nat.le_of_ble_eq_true rfl) ?_
  change pz_E l L xs M_Mo_got 2 0 0 0 [some (.ref 166), some (.int (nI a)), some (.int i)] [] h z _
  refine pe_iload_n d_Mo_got_0 rfl ?_
  refine pe_iconst (v := -1) d_Mo_got_1 (by decide) ?_
  refine pe_icmp_lt (tgt := 34) d_Mo_got_2 (by decide) (fun c_2 => ?_) (fun c_2 => ?_)
  · refine pe_iconst (v := -1) d_Mo_got_34 (by decide) ?_
    refine pe_iret d_Mo_got_35 rfl ?_
    exact ⟨rfl, rfl, rfl⟩
  · refine pe_aload_n d_Mo_got_5 rfl ?_
    refine pe_iload_n d_Mo_got_6 rfl ?_
    -- 7: Mo_shut
    refine pe_callV d_Mo_got_7 m_Mo_126 j_Mo_shut v_Mo_shut (c_Mo_shut hMo hnp hnb hOp _) rfl rfl (by simp [Value.category]) (by decide) hMo rfl rfl ?_
    intro v1 h1 z1 hq1
    obtain ⟨rfl, rfl, rfl⟩ := hq1
    change pz_E _ _ _ _ _ _ _ _ _ (_ :: _) _ _ _
    refine pe_if_ne (tgt := 34) d_Mo_got_10 (by decide) (fun c_10 => ?_) (fun c_10 => ?_)
    · have c_10 := pb_n0.mp c_10
      exact absurd c_10 (by rw [opn_a ha, hop]; decide)
    · have c_10 := pb_0.mp c_10
      refine pe_aload_n d_Mo_got_13 rfl ?_
      refine pe_getf d_Mo_got_14 f_Mo_72 hMo rfl ?_
      refine pe_iload_n d_Mo_got_17 rfl ?_
      refine pe_ialdN d_Mo_got_18 hFs (by omega) (by omega) ?_
      refine pe_if_eq (tgt := 34) d_Mo_got_19 (by decide) (fun c_19 => ?_) (fun c_19 => ?_)
      · refine pe_iconst (v := -1) d_Mo_got_34 (by decide) ?_
        refine pe_iret d_Mo_got_35 rfl ?_
        exact ⟨rfl, rfl, rfl⟩
      · refine pe_iload_n d_Mo_got_22 rfl ?_
        refine pe_aload_n d_Mo_got_23 rfl ?_
        refine pe_getf d_Mo_got_24 f_Mo_75 hMo rfl ?_
        refine pe_iload_n d_Mo_got_27 rfl ?_
        refine pe_iconst (v := nI 4) d_Mo_got_28 (by decide) ?_
        refine pe_imulN d_Mo_got_29 ?_
        refine pe_ialdN d_Mo_got_30 hFl (by omega) (by omega) ?_
        refine pe_icmp_lt (tgt := 36) d_Mo_got_31 (by decide) (fun c_31 => ?_) (fun c_31 => ?_)
        · exact absurd (show inn i (Mfl (a * 4)) = true from decide_eq_true ⟨fun q => hi (le_m1 c_2 q), Int32.not_le.mpr c_31⟩) (by rw [hb]; decide)
        · refine pe_iconst (v := -1) d_Mo_got_34 (by decide) ?_
          refine pe_iret d_Mo_got_35 rfl ?_
          exact ⟨rfl, rfl, rfl⟩
set_option maxHeartbeats 4000000 in
set_option maxRecDepth 20000 in
theorem c_Mo_got_byte {l : Launch} {L : Nat} {xs : Nat → Int32} {h : pz_H} {z : Nat} {np nb now tkg lst flt byt : Nat} {sa sx : Int32} (hMo : MOB h np nb now tkg lst flt byt sa sx) (hnp : np ≤ 32) (hnb : nb ≤ 32) {Mop : Nat → Bool} (hOp : AB h 167 6 Mop) {Mfs : Nat → Nat} (hFs : AN h 182 6 Mfs) {Mfl : Nat → Nat} (hFl : AN h 183 24 Mfl) {Mfb : Nat → Int32} (hFb : AI h 184 384 Mfb) {a : Nat} (ha : a < 6) (hop : Mop a = true) {q : Nat} (hl : Mfl (a * 4) ≤ 16) (h0 : 0 < Mfs a) (hf4 : Mfs a ≤ 4) (hq : q < Mfl (a * 4)) : pz_K l L xs M_Mo_got 2 0 0 [.ref 166, .int (nI a), .int (nI q)] h z (fun v h' z' => v = some (.int (Mfb (a * 64 + q))) ∧ h = h' ∧ z = z') := by
  refine pz_K.of rfl (Nat.le_of_ble_eq_true rfl) ?_
  change pz_E l L xs M_Mo_got 2 0 0 0 [some (.ref 166), some (.int (nI a)), some (.int (nI q))] [] h z _
  refine pe_iload_n d_Mo_got_0 rfl ?_
  refine pe_iconst (v := -1) d_Mo_got_1 (by decide) ?_
  refine pe_icmp_lt (tgt := 34) d_Mo_got_2 (by decide) (fun c_2 => ?_) (fun c_2 => ?_)
  · exact absurd (Int32.lt_of_lt_of_le c_2 (show (-1 : Int32) ≤ 0 by decide)) (nI_pos (by omega))
  · refine pe_aload_n d_Mo_got_5 rfl ?_
    refine pe_iload_n d_Mo_got_6 rfl ?_
    -- 7: Mo_shut
    refine pe_callV d_Mo_got_7 m_Mo_126 j_Mo_shut v_Mo_shut (c_Mo_shut hMo hnp hnb hOp _) rfl rfl (by simp [Value.category]) (by decide) hMo rfl rfl ?_
    intro v1 h1 z1 hq1
    obtain ⟨rfl, rfl, rfl⟩ := hq1
    change pz_E _ _ _ _ _ _ _ _ _ (_ :: _) _ _ _
    refine pe_if_ne (tgt := 34) d_Mo_got_10 (by decide) (fun c_10 => ?_) (fun c_10 => ?_)
    · have c_10 := pb_n0.mp c_10
      exact absurd c_10 (by rw [opn_a ha, hop]; decide)
    · have c_10 := pb_0.mp c_10
      refine pe_aload_n d_Mo_got_13 rfl ?_
      refine pe_getf d_Mo_got_14 f_Mo_72 hMo rfl ?_
      refine pe_iload_n d_Mo_got_17 rfl ?_
      refine pe_ialdN d_Mo_got_18 hFs (by omega) (by omega) ?_
      refine pe_if_eq (tgt := 34) d_Mo_got_19 (by decide) (fun c_19 => ?_) (fun c_19 => ?_)
      · exact absurd (nI_inj (a := Mfs a) (b := 0) (by omega) (by omega) c_19) (by omega)
      · refine pe_iload_n d_Mo_got_22 rfl ?_
        refine pe_aload_n d_Mo_got_23 rfl ?_
        refine pe_getf d_Mo_got_24 f_Mo_75 hMo rfl ?_
        refine pe_iload_n d_Mo_got_27 rfl ?_
        refine pe_iconst (v := nI 4) d_Mo_got_28 (by decide) ?_
        refine pe_imulN d_Mo_got_29 ?_
        refine pe_ialdN d_Mo_got_30 hFl (by omega) (by omega) ?_
        refine pe_icmpN_lt (tgt := 36) d_Mo_got_31 (by decide) (by omega) (by omega) (fun c_31 => ?_) (fun c_31 => ?_)
        · refine pe_iload_n d_Mo_got_36 rfl ?_
          refine pe_if_ge (tgt := 51) d_Mo_got_37 (by decide) (fun c_37 => ?_) (fun c_37 => ?_)
          · refine pe_aload_n d_Mo_got_51 rfl ?_
            refine pe_getf d_Mo_got_52 f_Mo_78 hMo rfl ?_
            refine pe_iload_n d_Mo_got_55 rfl ?_
            refine pe_bipush (v := nI 64) d_Mo_got_56 (by decide) ?_
            refine pe_imulN d_Mo_got_58 ?_
            refine pe_iload_n d_Mo_got_59 rfl ?_
            refine pe_iaddN d_Mo_got_60 ?_
            refine pe_ialdN d_Mo_got_61 hFb (by omega) (by omega) ?_
            refine pe_iret d_Mo_got_62 rfl ?_
            exact ⟨rfl, rfl, rfl⟩
          · exact absurd (Int32.not_le.mp c_37) (nI_pos (by omega))
        · exfalso; omega
