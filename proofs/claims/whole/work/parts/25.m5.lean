/-! the reference: contracts of BindingKernelModel, fifth part: revoke, tick -/
theorem sel_sn {C : Nat → Bool} {lt : Nat → Nat → Bool} : ∀ k i y, sel C lt k i (some y) ≠ none
  | 0, _, _ => by intro h; cases h
  | k + 1, i, y => by
    unfold sel
    have h : ∃ y', bst C lt i (some y) = some y' := by
      unfold bst
      split
      · dsimp only
        split
        · exact ⟨_, rfl⟩
        · exact ⟨_, rfl⟩
      · exact ⟨_, rfl⟩
    obtain ⟨y', e⟩ := h
    rw [e]
    exact sel_sn k (i + 1) y'
theorem sel_cnt {C : Nat → Bool} {lt : Nat → Nat → Bool} : ∀ k i, sel C lt k i none = none → cnt C k i = 0
  | 0, _, _ => rfl
  | k + 1, i, h => by
    unfold sel at h
    unfold cnt
    by_cases c : C i = true
    · rw [show bst C lt i none = some i from if_pos c] at h
      exact absurd h (sel_sn k (i + 1) i)
    · rw [show bst C lt i none = none from if_neg c] at h
      rw [if_neg c, sel_cnt k (i + 1) h]
theorem rng_i1 {x : Int32} {k : Nat} (hk : k < 2147483647) (h : ot (x - nI 1) (nI k) = false) : rng x (nI 1) (nI k) = true := by
  obtain ⟨q, hq, e⟩ := inn_N (by omega) (ot_f h)
  have e2 : x = nI (q + 1) := by rw [← nI_add, ← e, Int32.sub_add_cancel]
  rw [e2]
  exact rng_y (by omega) (by omega) (by omega)
theorem ot_i1 {q k : Nat} (h1 : 1 ≤ q) (hk : q ≤ k) (hk2 : k < 2147483648) : ot (nI q - nI 1) (nI k) = false := by
  rw [nI_sub h1]
  exact ot_n hk2 (by omega)
/-- naming in the reference: how many, the deadlines then -/
def rvm (np : Nat) (ow tk : Nat → Int32) (x dv : Int32) : Nat → (Nat → Int32) → Nat × (Nat → Int32)
  | 0, D => (0, D)
  | k + 1, D => match pgn np ow tk (fun j => decide (0 < D j)) x with
    | none => (0, D)
    | some q => ((rvm np ow tk x dv k (upd D q dv)).1 + 1, (rvm np ow tk x dv k (upd D q dv)).2)
theorem rvm_n {np : Nat} {ow tk : Nat → Int32} {x dv : Int32} {k : Nat} {D : Nat → Int32} (h : pgn np ow tk (fun j => decide (0 < D j)) x = none) : rvm np ow tk x dv k D = (0, D) := by
  cases k with
  | zero => rfl
  | succ k => simp only [rvm, h]
theorem rvm_s {np : Nat} {ow tk : Nat → Int32} {x dv : Int32} {n i : Nat} {D : Nat → Int32} {q : Nat} (hi : i < n) (h : pgn np ow tk (fun j => decide (0 < D j)) x = some q) : rvm np ow tk x dv (n - i) D = ((rvm np ow tk x dv (n - (i + 1)) (upd D q dv)).1 + 1, (rvm np ow tk x dv (n - (i + 1)) (upd D q dv)).2) := by
  rw [show n - i = (n - (i + 1)) + 1 by omega]
  simp only [rvm, h]
set_option maxHeartbeats 4000000 in
set_option maxRecDepth 20000 in
theorem c_Mo_revoke_no {l : Launch} {L : Nat} {xs : Nat → Int32} {h : pz_H} {z : Nat} {np nb now tkg lst flt byt : Nat} {sa sx : Int32} (hMo : MOB h np nb now tkg lst flt byt sa sx) (hnp : np ≤ 32) (hnb : nb ≤ 32) {Mop : Nat → Bool} (hOp : AB h 167 6 Mop) {Mow : Nat → Int32} (hOw : AI h 171 32 Mow) {Mtk : Nat → Int32} (hTk : AI h 172 32 Mtk) {Mdl : Nat → Int32} (hDl : AI h 173 32 Mdl) (x n dl : Int32) (hno : (opn Mop x && (rng n (nI 1) (nI 8) && rng dl (nI 1) (nI 20))) = false) : pz_K l L xs M_Mo_revoke 2 0 0 [.ref 166, .int x, .int n, .int dl] h z (fun v h' z' => v = some (.int (-1)) ∧ h = h' ∧ z = z') := by
  refine pz_K.of rfl (Nat.le_of_ble_eq_true rfl) ?_
  change pz_E l L xs M_Mo_revoke 2 0 0 0 [some (.ref 166), some (.int x), some (.int n), some (.int dl), none, none, none, none, none] [] h z _
  refine pe_aload_n d_Mo_revoke_0 rfl ?_
  refine pe_iload_n d_Mo_revoke_1 rfl ?_
  refine pe_iconst (v := nI 1) d_Mo_revoke_2 (by decide) ?_
  refine pe_isub d_Mo_revoke_3 ?_
  refine pe_bipush (v := nI 8) d_Mo_revoke_4 (by decide) ?_
  -- 6: Mo_out
  refine pe_callV d_Mo_revoke_6 m_Mo_111 j_Mo_out v_Mo_out (c_Mo_out hMo hnp hnb _ _) rfl rfl (by simp [Value.category]) (by decide) hMo rfl rfl ?_
  intro v1 h1 z1 hq1
  obtain ⟨rfl, rfl, rfl⟩ := hq1
  change pz_E _ _ _ _ _ _ _ _ _ (_ :: _) _ _ _
  refine pe_if_ne (tgt := 42) d_Mo_revoke_9 (by decide) (fun c_9 => ?_) (fun c_9 => ?_)
  · have c_9 := pb_n0.mp c_9
    refine pe_iconst (v := -1) d_Mo_revoke_42 (by decide) ?_
    refine pe_iret d_Mo_revoke_43 rfl ?_
    exact ⟨rfl, rfl, rfl⟩
  · have c_9 := pb_0.mp c_9
    refine pe_iload_n d_Mo_revoke_12 rfl ?_
    refine pe_iconst (v := nI 1) d_Mo_revoke_13 (by decide) ?_
    refine pe_icmp_lt (tgt := 42) d_Mo_revoke_14 (by decide) (fun c_14 => ?_) (fun c_14 => ?_)
    · refine pe_iconst (v := -1) d_Mo_revoke_42 (by decide) ?_
      refine pe_iret d_Mo_revoke_43 rfl ?_
      exact ⟨rfl, rfl, rfl⟩
    · refine pe_aload_n d_Mo_revoke_17 rfl ?_
      refine pe_iload_n d_Mo_revoke_18 rfl ?_
      refine pe_iconst (v := nI 1) d_Mo_revoke_19 (by decide) ?_
      refine pe_isub d_Mo_revoke_20 ?_
      refine pe_bipush (v := nI 20) d_Mo_revoke_21 (by decide) ?_
      -- 23: Mo_out
      refine pe_callV d_Mo_revoke_23 m_Mo_111 j_Mo_out v_Mo_out (c_Mo_out hMo hnp hnb _ _) rfl rfl (by simp [Value.category]) (by decide) hMo rfl rfl ?_
      intro v1 h1 z1 hq1
      obtain ⟨rfl, rfl, rfl⟩ := hq1
      change pz_E _ _ _ _ _ _ _ _ _ (_ :: _) _ _ _
      refine pe_if_ne (tgt := 42) d_Mo_revoke_26 (by decide) (fun c_26 => ?_) (fun c_26 => ?_)
      · have c_26 := pb_n0.mp c_26
        refine pe_iconst (v := -1) d_Mo_revoke_42 (by decide) ?_
        refine pe_iret d_Mo_revoke_43 rfl ?_
        exact ⟨rfl, rfl, rfl⟩
      · have c_26 := pb_0.mp c_26
        refine pe_iload_n d_Mo_revoke_29 rfl ?_
        refine pe_iconst (v := nI 1) d_Mo_revoke_30 (by decide) ?_
        refine pe_icmp_lt (tgt := 42) d_Mo_revoke_31 (by decide) (fun c_31 => ?_) (fun c_31 => ?_)
        · refine pe_iconst (v := -1) d_Mo_revoke_42 (by decide) ?_
          refine pe_iret d_Mo_revoke_43 rfl ?_
          exact ⟨rfl, rfl, rfl⟩
        · refine pe_aload_n d_Mo_revoke_34 rfl ?_
          refine pe_iload_n d_Mo_revoke_35 rfl ?_
          -- 36: Mo_shut
          refine pe_callV d_Mo_revoke_36 m_Mo_126 j_Mo_shut v_Mo_shut (c_Mo_shut hMo hnp hnb hOp _) rfl rfl (by simp [Value.category]) (by decide) hMo rfl rfl ?_
          intro v1 h1 z1 hq1
          obtain ⟨rfl, rfl, rfl⟩ := hq1
          change pz_E _ _ _ _ _ _ _ _ _ (_ :: _) _ _ _
          refine pe_if_eq (tgt := 44) d_Mo_revoke_39 (by decide) (fun c_39 => ?_) (fun c_39 => ?_)
          · have c_39 := pb_0.mp c_39
            exact absurd (show (opn Mop x && (rng n (nI 1) (nI 8) && rng dl (nI 1) (nI 20))) = true from by rw [nb_f c_39, rng_i1 (by decide) c_9, rng_i1 (by decide) c_26]; rfl) (by rw [hno]; decide)
          · have c_39 := pb_n0.mp c_39
            refine pe_iconst (v := -1) d_Mo_revoke_42 (by decide) ?_
            refine pe_iret d_Mo_revoke_43 rfl ?_
            exact ⟨rfl, rfl, rfl⟩
set_option maxHeartbeats 4000000 in
set_option maxRecDepth 20000 in
theorem c_Mo_revoke_ok {l : Launch} {L : Nat} {xs : Nat → Int32} {h : pz_H} {z : Nat} {np nb now tkg lst flt byt : Nat} {sa sx : Int32} (hMo : MOB h np nb now tkg lst flt byt sa sx) (hnp : np ≤ 32) (hnb : nb ≤ 32) {Mop : Nat → Bool} (hOp : AB h 167 6 Mop) {Mow : Nat → Int32} (hOw : AI h 171 32 Mow) {Mtk : Nat → Int32} (hTk : AI h 172 32 Mtk) {Mdl : Nat → Int32} (hDl : AI h 173 32 Mdl) {a : Nat} (ha : a < 6) (hop : Mop a = true) {n dl : Nat} (hn1 : 1 ≤ n) (hn8 : n ≤ 8) (hd1 : 1 ≤ dl) (hd20 : dl ≤ 20) : pz_K l L xs M_Mo_revoke 2 0 0 [.ref 166, .int (nI a), .int (nI n), .int (nI dl)] h z (fun v h' z' => v = some (.int (nI (rvm np Mow Mtk (nI a) (nI (now + dl)) n Mdl).1)) ∧ z = z' ∧ AI h' 173 32 (rvm np Mow Mtk (nI a) (nI (now + dl)) n Mdl).2 ∧ frx [173] h h') := by
  refine pz_K.of rfl (Nat.le_of_ble_eq_true rfl) ?_
  have loop : ∀ (n9 : Nat) (i : Nat) (D : Nat → Int32) (k : pz_H), i ≤ n → n + 1 ≤ i + n9 → MOB k np nb now tkg lst flt byt sa sx → AI k 171 32 Mow → AI k 172 32 Mtk → AI k 173 32 D → frx [173] h k → pz_E l L xs M_Mo_revoke 2 0 0 50 [some (.ref 166), some (.int (nI a)), some (.int (nI n)), some (.int (nI dl)), some (.int (nI i)), some (.int (nI i)), none, none, none] [] k z (fun v h' z' => v = some (.int (nI (i + (rvm np Mow Mtk (nI a) (nI (now + dl)) (n - i) D).1))) ∧ z = z' ∧ AI h' 173 32 (rvm np Mow Mtk (nI a) (nI (now + dl)) (n - i) D).2 ∧ frx [173] h h') := by
    intro n9
    induction n9 with
    | zero => intros; omega
    | succ n9 ih =>
      intro i D k hi hin hMo hOw hTk hDl hf
      refine pe_iload d_Mo_revoke_50 rfl ?_
      refine pe_iload_n d_Mo_revoke_52 rfl ?_
      refine pe_icmpN_ge (tgt := 164) d_Mo_revoke_53 (by decide) (by omega) (by omega) (fun c_53 => ?_) (fun c_53 => ?_)
      · refine pe_iload d_Mo_revoke_164 rfl ?_
        refine pe_iret d_Mo_revoke_166 rfl ?_
        exact ⟨by rw [show n - i = 0 by omega]; rfl, rfl, by rw [show n - i = 0 by omega]; exact hDl, hf⟩
      · have c_53 : i < n := by omega
        have inner : ∀ (n8 : Nat) (j u : Nat) (b : Option Nat), j ≤ np → u ≤ j → (∀ y, b = some y → y < j) → np + 1 ≤ j + n8 → cnt (cNm Mow (fun j => decide (0 < D j)) (nI a)) np 0 = u + cnt (cNm Mow (fun j => decide (0 < D j)) (nI a)) (np - j) j → sel (cNm Mow (fun j => decide (0 < D j)) (nI a)) (lTk Mtk) np 0 none = sel (cNm Mow (fun j => decide (0 < D j)) (nI a)) (lTk Mtk) (np - j) j b → pz_E l L xs M_Mo_revoke 2 0 0 65 [some (.ref 166), some (.int (nI a)), some (.int (nI n)), some (.int (nI dl)), some (.int (nI i)), some (.int (nI i)), some (.int (omi b)), some (.int (nI u)), some (.int (nI j))] [] k z (fun v h' z' => v = some (.int (nI (i + (rvm np Mow Mtk (nI a) (nI (now + dl)) (n - i) D).1))) ∧ z = z' ∧ AI h' 173 32 (rvm np Mow Mtk (nI a) (nI (now + dl)) (n - i) D).2 ∧ frx [173] h h') := by
          intro n8
          induction n8 with
          | zero => intros; omega
          | succ n8 ih8 =>
            intro j u b hj hu hb hin hct hsl
            match b, hb, hsl with
                | none, hb, hsl =>
                  change pz_E l L xs M_Mo_revoke 2 0 0 65 [some (.ref 166), some (.int (nI a)), some (.int (nI n)), some (.int (nI dl)), some (.int (nI i)), some (.int (nI i)), some (.int (-1)), some (.int (nI u)), some (.int (nI j))] [] k z _
                  refine pe_iload d_Mo_revoke_65 rfl ?_
                  refine pe_aload_n d_Mo_revoke_67 rfl ?_
                  refine pe_getf d_Mo_revoke_68 f_Mo_105 hMo rfl ?_
                  refine pe_icmpN_ge (tgt := 133) d_Mo_revoke_71 (by decide) (by omega) (by omega) (fun c_71 => ?_) (fun c_71 => ?_)
                  · rw [sel_end (C := (cNm Mow (fun j => decide (0 < D j)) (nI a))) (lt := (lTk Mtk)) (n := np) (i := j) (by omega)] at hsl
                    rw [cnt_end (P := (cNm Mow (fun j => decide (0 < D j)) (nI a))) (n := np) (i := j) (by omega)] at hct
                    refine pe_iload d_Mo_revoke_133 rfl ?_
                    refine pe_iconst (v := nI 3) d_Mo_revoke_135 (by decide) ?_
                    refine pe_icmpN_ge (tgt := 142) d_Mo_revoke_136 (by decide) (by omega) (by omega) (fun c_136 => ?_) (fun c_136 => ?_)
                    · exact absurd (sel_cnt (C := (cNm Mow (fun j => decide (0 < D j)) (nI a))) (lt := (lTk Mtk)) np 0 hsl) (by omega)
                    · refine pe_iload d_Mo_revoke_139 rfl ?_
                      refine pe_iret d_Mo_revoke_141 rfl ?_
                      have hpg : pgn np Mow Mtk (fun j => decide (0 < D j)) (nI a) = none := by unfold pgn; rw [if_neg (by omega)]
                      exact ⟨by rw [rvm_n hpg]; rfl, rfl, by rw [rvm_n hpg]; exact hDl, hf⟩
                  · have c_71 : j < np := by omega
                    refine pe_aload_n d_Mo_revoke_74 rfl ?_
                    refine pe_getf d_Mo_revoke_75 f_Mo_33 hMo rfl ?_
                    refine pe_iload d_Mo_revoke_78 rfl ?_
                    refine pe_ialdN d_Mo_revoke_80 hOw (by omega) (by omega) ?_
                    refine pe_iload_n d_Mo_revoke_81 rfl ?_
                    refine pe_icmp_ne (tgt := 127) d_Mo_revoke_82 (by decide) (fun c_82 => ?_) (fun c_82 => ?_)
                    · refine pe_iincN d_Mo_revoke_127 rfl (by decide) rfl ?_
                      dsimp only [List.set]
                      refine pe_goto (tgt := 65) d_Mo_revoke_130 (by decide) ?_
                      have hb9 : bst (cNm Mow (fun j => decide (0 < D j)) (nI a)) (lTk Mtk) j none = none := by first | (simp_all [bst, cNm, lTk]; done)
                      rw [sel_step (C := (cNm Mow (fun j => decide (0 < D j)) (nI a))) (lt := (lTk Mtk)) c_71, hb9] at hsl
                      rw [cnt_no (P := (cNm Mow (fun j => decide (0 < D j)) (nI a))) c_71 (by simp_all [cNm])] at hct
                      exact ih8 (j + 1) u none (by omega) (by omega) (fun y hy => by cases hy) (by omega) hct hsl
                    · refine pe_aload_n d_Mo_revoke_85 rfl ?_
                      refine pe_getf d_Mo_revoke_86 f_Mo_39 hMo rfl ?_
                      refine pe_iload d_Mo_revoke_89 rfl ?_
                      refine pe_ialdN d_Mo_revoke_91 hDl (by omega) (by omega) ?_
                      refine pe_if_le (tgt := 98) d_Mo_revoke_92 (by decide) (fun c_92 => ?_) (fun c_92 => ?_)
                      · have c_92 : ¬ 0 < D j := Int32.not_lt.mpr c_92
                        refine pe_iincN d_Mo_revoke_98 rfl (by decide) rfl ?_
                        dsimp only [List.set]
                        refine pe_iload d_Mo_revoke_101 rfl ?_
                        refine pe_if_lt (tgt := 123) d_Mo_revoke_103 (by decide) (fun c_103 => ?_) (fun c_103 => ?_)
                        · refine pe_iload d_Mo_revoke_123 rfl ?_
                          refine pe_istore d_Mo_revoke_125 (by decide) rfl ?_
                          dsimp only [List.set]
                          refine pe_iincN d_Mo_revoke_127 rfl (by decide) rfl ?_
                          dsimp only [List.set]
                          refine pe_goto (tgt := 65) d_Mo_revoke_130 (by decide) ?_
                          have hb9 : bst (cNm Mow (fun j => decide (0 < D j)) (nI a)) (lTk Mtk) j none = (some j) := by first | (simp_all [bst, cNm, lTk]; done)
                          rw [sel_step (C := (cNm Mow (fun j => decide (0 < D j)) (nI a))) (lt := (lTk Mtk)) c_71, hb9] at hsl
                          rw [cnt_yes (P := (cNm Mow (fun j => decide (0 < D j)) (nI a))) c_71 (by simp_all [cNm])] at hct
                          exact ih8 (j + 1) (u + 1) (some j) (by omega) (by omega) (fun y hy => by cases hy; omega) (by omega) hct hsl
                        · exact absurd (by decide) c_103
                      · have c_92 : 0 < D j := Int32.not_le.mp c_92
                        refine pe_goto (tgt := 127) d_Mo_revoke_95 (by decide) ?_
                        refine pe_iincN d_Mo_revoke_127 rfl (by decide) rfl ?_
                        dsimp only [List.set]
                        refine pe_goto (tgt := 65) d_Mo_revoke_130 (by decide) ?_
                        have hb9 : bst (cNm Mow (fun j => decide (0 < D j)) (nI a)) (lTk Mtk) j none = none := by first | (simp_all [bst, cNm, lTk]; done)
                        rw [sel_step (C := (cNm Mow (fun j => decide (0 < D j)) (nI a))) (lt := (lTk Mtk)) c_71, hb9] at hsl
                        rw [cnt_no (P := (cNm Mow (fun j => decide (0 < D j)) (nI a))) c_71 (by simp_all [cNm])] at hct
                        exact ih8 (j + 1) u none (by omega) (by omega) (fun y hy => by cases hy) (by omega) hct hsl
                | some y1, hb, hsl =>
                  have hl : y1 < j := hb y1 rfl
                  change pz_E l L xs M_Mo_revoke 2 0 0 65 [some (.ref 166), some (.int (nI a)), some (.int (nI n)), some (.int (nI dl)), some (.int (nI i)), some (.int (nI i)), some (.int (nI y1)), some (.int (nI u)), some (.int (nI j))] [] k z _
                  refine pe_iload d_Mo_revoke_65 rfl ?_
                  refine pe_aload_n d_Mo_revoke_67 rfl ?_
                  refine pe_getf d_Mo_revoke_68 f_Mo_105 hMo rfl ?_
                  refine pe_icmpN_ge (tgt := 133) d_Mo_revoke_71 (by decide) (by omega) (by omega) (fun c_71 => ?_) (fun c_71 => ?_)
                  · rw [sel_end (C := (cNm Mow (fun j => decide (0 < D j)) (nI a))) (lt := (lTk Mtk)) (n := np) (i := j) (by omega)] at hsl
                    rw [cnt_end (P := (cNm Mow (fun j => decide (0 < D j)) (nI a))) (n := np) (i := j) (by omega)] at hct
                    refine pe_iload d_Mo_revoke_133 rfl ?_
                    refine pe_iconst (v := nI 3) d_Mo_revoke_135 (by decide) ?_
                    refine pe_icmpN_ge (tgt := 142) d_Mo_revoke_136 (by decide) (by omega) (by omega) (fun c_136 => ?_) (fun c_136 => ?_)
                    · refine pe_aload_n d_Mo_revoke_142 rfl ?_
                      refine pe_getf d_Mo_revoke_143 f_Mo_39 hMo rfl ?_
                      refine pe_iload d_Mo_revoke_146 rfl ?_
                      refine pe_aload_n d_Mo_revoke_148 rfl ?_
                      refine pe_getf d_Mo_revoke_149 f_Mo_23 hMo rfl ?_
                      refine pe_iload_n d_Mo_revoke_152 rfl ?_
                      refine pe_iaddN d_Mo_revoke_153 ?_
                      refine pe_iastN d_Mo_revoke_154 hDl (by omega) (by omega) ?_
                      refine pe_pu (fun h2 e2 o2 => ?_)
                      have hMo := (o2 (166) (by omega)).trans hMo
                      have hOw := (o2 (171) (by omega)).trans hOw
                      have hTk := (o2 (172) (by omega)).trans hTk
                      have hDl := e2
                      have hf := hf.st o2 (by decide)
                      refine pe_iincN d_Mo_revoke_155 rfl (by decide) rfl ?_
                      dsimp only [List.set]
                      refine pe_iincN d_Mo_revoke_158 rfl (by decide) rfl ?_
                      dsimp only [List.set]
                      refine pe_goto (tgt := 50) d_Mo_revoke_161 (by decide) ?_
                      have hpg : pgn np Mow Mtk (fun j => decide (0 < D j)) (nI a) = some y1 := by unfold pgn; rw [if_pos (by omega), ← hsl]
                      have e := ih (i + 1) _ _ (by omega) (by omega) hMo hOw hTk hDl hf
                      rw [rvm_s c_53 hpg]
                      exact pe_ls (ls' := [some (.ref 166), some (.int (nI a)), some (.int (nI n)), some (.int (nI dl)), some (.int (nI (i + 1))), some (.int (nI (i + 1))), none, none, none]) (fun j v hj => by match j, hj with | 0, hj => exact hj | 1, hj => exact hj | 2, hj => exact hj | 3, hj => exact hj | 4, hj => exact hj | 5, hj => exact hj | 6, hj => cases hj | 7, hj => cases hj | 8, hj => cases hj | j + 9, hj => cases hj) (by rw [← Nat.add_assoc, Nat.add_right_comm i _ 1]; exact e)
                    · refine pe_iload d_Mo_revoke_139 rfl ?_
                      refine pe_iret d_Mo_revoke_141 rfl ?_
                      have hpg : pgn np Mow Mtk (fun j => decide (0 < D j)) (nI a) = none := by unfold pgn; rw [if_neg (by omega)]
                      exact ⟨by rw [rvm_n hpg]; rfl, rfl, by rw [rvm_n hpg]; exact hDl, hf⟩
                  · have c_71 : j < np := by omega
                    refine pe_aload_n d_Mo_revoke_74 rfl ?_
                    refine pe_getf d_Mo_revoke_75 f_Mo_33 hMo rfl ?_
                    refine pe_iload d_Mo_revoke_78 rfl ?_
                    refine pe_ialdN d_Mo_revoke_80 hOw (by omega) (by omega) ?_
                    refine pe_iload_n d_Mo_revoke_81 rfl ?_
                    refine pe_icmp_ne (tgt := 127) d_Mo_revoke_82 (by decide) (fun c_82 => ?_) (fun c_82 => ?_)
                    · refine pe_iincN d_Mo_revoke_127 rfl (by decide) rfl ?_
                      dsimp only [List.set]
                      refine pe_goto (tgt := 65) d_Mo_revoke_130 (by decide) ?_
                      have hb9 : bst (cNm Mow (fun j => decide (0 < D j)) (nI a)) (lTk Mtk) j (some y1) = (some y1) := by first | (simp_all [bst, cNm, lTk]; done)
                      rw [sel_step (C := (cNm Mow (fun j => decide (0 < D j)) (nI a))) (lt := (lTk Mtk)) c_71, hb9] at hsl
                      rw [cnt_no (P := (cNm Mow (fun j => decide (0 < D j)) (nI a))) c_71 (by simp_all [cNm])] at hct
                      exact ih8 (j + 1) u (some y1) (by omega) (by omega) (fun y hy => by cases hy; omega) (by omega) hct hsl
                    · refine pe_aload_n d_Mo_revoke_85 rfl ?_
                      refine pe_getf d_Mo_revoke_86 f_Mo_39 hMo rfl ?_
                      refine pe_iload d_Mo_revoke_89 rfl ?_
                      refine pe_ialdN d_Mo_revoke_91 hDl (by omega) (by omega) ?_
                      refine pe_if_le (tgt := 98) d_Mo_revoke_92 (by decide) (fun c_92 => ?_) (fun c_92 => ?_)
                      · have c_92 : ¬ 0 < D j := Int32.not_lt.mpr c_92
                        refine pe_iincN d_Mo_revoke_98 rfl (by decide) rfl ?_
                        dsimp only [List.set]
                        refine pe_iload d_Mo_revoke_101 rfl ?_
                        refine pe_if_lt (tgt := 123) d_Mo_revoke_103 (by decide) (fun c_103 => ?_) (fun c_103 => ?_)
                        · exact absurd c_103 (nI_pos (by omega))
                        · refine pe_aload_n d_Mo_revoke_106 rfl ?_
                          refine pe_getf d_Mo_revoke_107 f_Mo_36 hMo rfl ?_
                          refine pe_iload d_Mo_revoke_110 rfl ?_
                          refine pe_ialdN d_Mo_revoke_112 hTk (by omega) (by omega) ?_
                          refine pe_aload_n d_Mo_revoke_113 rfl ?_
                          refine pe_getf d_Mo_revoke_114 f_Mo_36 hMo rfl ?_
                          refine pe_iload d_Mo_revoke_117 rfl ?_
                          refine pe_ialdN d_Mo_revoke_119 hTk (by omega) (by omega) ?_
                          refine pe_icmp_le (tgt := 127) d_Mo_revoke_120 (by decide) (fun c_120 => ?_) (fun c_120 => ?_)
                          · refine pe_iincN d_Mo_revoke_127 rfl (by decide) rfl ?_
                            dsimp only [List.set]
                            refine pe_goto (tgt := 65) d_Mo_revoke_130 (by decide) ?_
                            have hb9 : bst (cNm Mow (fun j => decide (0 < D j)) (nI a)) (lTk Mtk) j (some y1) = (some y1) := by first | (simp_all [bst, cNm, lTk]; done)
                            rw [sel_step (C := (cNm Mow (fun j => decide (0 < D j)) (nI a))) (lt := (lTk Mtk)) c_71, hb9] at hsl
                            rw [cnt_yes (P := (cNm Mow (fun j => decide (0 < D j)) (nI a))) c_71 (by simp_all [cNm])] at hct
                            exact ih8 (j + 1) (u + 1) (some y1) (by omega) (by omega) (fun y hy => by cases hy; omega) (by omega) hct hsl
                          · refine pe_iload d_Mo_revoke_123 rfl ?_
                            refine pe_istore d_Mo_revoke_125 (by decide) rfl ?_
                            dsimp only [List.set]
                            refine pe_iincN d_Mo_revoke_127 rfl (by decide) rfl ?_
                            dsimp only [List.set]
                            refine pe_goto (tgt := 65) d_Mo_revoke_130 (by decide) ?_
                            have hb9 : bst (cNm Mow (fun j => decide (0 < D j)) (nI a)) (lTk Mtk) j (some y1) = (some j) := by first | (simp_all [bst, cNm, lTk]; done)
                            rw [sel_step (C := (cNm Mow (fun j => decide (0 < D j)) (nI a))) (lt := (lTk Mtk)) c_71, hb9] at hsl
                            rw [cnt_yes (P := (cNm Mow (fun j => decide (0 < D j)) (nI a))) c_71 (by simp_all [cNm])] at hct
                            exact ih8 (j + 1) (u + 1) (some j) (by omega) (by omega) (fun y hy => by cases hy; omega) (by omega) hct hsl
                      · have c_92 : 0 < D j := Int32.not_le.mp c_92
                        refine pe_goto (tgt := 127) d_Mo_revoke_95 (by decide) ?_
                        refine pe_iincN d_Mo_revoke_127 rfl (by decide) rfl ?_
                        dsimp only [List.set]
                        refine pe_goto (tgt := 65) d_Mo_revoke_130 (by decide) ?_
                        have hb9 : bst (cNm Mow (fun j => decide (0 < D j)) (nI a)) (lTk Mtk) j (some y1) = (some y1) := by first | (simp_all [bst, cNm, lTk]; done)
                        rw [sel_step (C := (cNm Mow (fun j => decide (0 < D j)) (nI a))) (lt := (lTk Mtk)) c_71, hb9] at hsl
                        rw [cnt_no (P := (cNm Mow (fun j => decide (0 < D j)) (nI a))) c_71 (by simp_all [cNm])] at hct
                        exact ih8 (j + 1) u (some y1) (by omega) (by omega) (fun y hy => by cases hy; omega) (by omega) hct hsl
        refine pe_iconst (v := -1) d_Mo_revoke_56 (by decide) ?_
        refine pe_istore d_Mo_revoke_57 (by decide) rfl ?_
        dsimp only [List.set]
        refine pe_iconst (v := nI 0) d_Mo_revoke_59 (by decide) ?_
        refine pe_istore d_Mo_revoke_60 (by decide) rfl ?_
        dsimp only [List.set]
        refine pe_iconst (v := nI 0) d_Mo_revoke_62 (by decide) ?_
        refine pe_istore d_Mo_revoke_63 (by decide) rfl ?_
        dsimp only [List.set]
        exact inner (np + 1) 0 0 none (by omega) (by omega) (fun y hy => by cases hy) (by omega) (by rw [Nat.zero_add]; rfl) rfl
  change pz_E l L xs M_Mo_revoke 2 0 0 0 [some (.ref 166), some (.int (nI a)), some (.int (nI n)), some (.int (nI dl)), none, none, none, none, none] [] h z _
  refine pe_aload_n d_Mo_revoke_0 rfl ?_
  refine pe_iload_n d_Mo_revoke_1 rfl ?_
  refine pe_iconst (v := nI 1) d_Mo_revoke_2 (by decide) ?_
  refine pe_isubN d_Mo_revoke_3 (by omega) ?_
  refine pe_bipush (v := nI 8) d_Mo_revoke_4 (by decide) ?_
  -- 6: Mo_out
  refine pe_callV d_Mo_revoke_6 m_Mo_111 j_Mo_out v_Mo_out (c_Mo_out hMo hnp hnb _ _) rfl rfl (by simp [Value.category]) (by decide) hMo rfl rfl ?_
  intro v1 h1 z1 hq1
  obtain ⟨rfl, rfl, rfl⟩ := hq1
  change pz_E _ _ _ _ _ _ _ _ _ (_ :: _) _ _ _
  refine pe_if_ne (tgt := 42) d_Mo_revoke_9 (by decide) (fun c_9 => ?_) (fun c_9 => ?_)
  · have c_9 := pb_n0.mp c_9
    exact absurd c_9 (by rw [ot_n (by decide) (by omega)]; decide)
  · have c_9 := pb_0.mp c_9
    refine pe_iload_n d_Mo_revoke_12 rfl ?_
    refine pe_iconst (v := nI 1) d_Mo_revoke_13 (by decide) ?_
    refine pe_icmpN_lt (tgt := 42) d_Mo_revoke_14 (by decide) (by omega) (by omega) (fun c_14 => ?_) (fun c_14 => ?_)
    · exfalso; omega
    · refine pe_aload_n d_Mo_revoke_17 rfl ?_
      refine pe_iload_n d_Mo_revoke_18 rfl ?_
      refine pe_iconst (v := nI 1) d_Mo_revoke_19 (by decide) ?_
      refine pe_isubN d_Mo_revoke_20 (by omega) ?_
      refine pe_bipush (v := nI 20) d_Mo_revoke_21 (by decide) ?_
      -- 23: Mo_out
      refine pe_callV d_Mo_revoke_23 m_Mo_111 j_Mo_out v_Mo_out (c_Mo_out hMo hnp hnb _ _) rfl rfl (by simp [Value.category]) (by decide) hMo rfl rfl ?_
      intro v1 h1 z1 hq1
      obtain ⟨rfl, rfl, rfl⟩ := hq1
      change pz_E _ _ _ _ _ _ _ _ _ (_ :: _) _ _ _
      refine pe_if_ne (tgt := 42) d_Mo_revoke_26 (by decide) (fun c_26 => ?_) (fun c_26 => ?_)
      · have c_26 := pb_n0.mp c_26
        exact absurd c_26 (by rw [ot_n (by decide) (by omega)]; decide)
      · have c_26 := pb_0.mp c_26
        refine pe_iload_n d_Mo_revoke_29 rfl ?_
        refine pe_iconst (v := nI 1) d_Mo_revoke_30 (by decide) ?_
        refine pe_icmpN_lt (tgt := 42) d_Mo_revoke_31 (by decide) (by omega) (by omega) (fun c_31 => ?_) (fun c_31 => ?_)
        · exfalso; omega
        · refine pe_aload_n d_Mo_revoke_34 rfl ?_
          refine pe_iload_n d_Mo_revoke_35 rfl ?_
          -- 36: Mo_shut
          refine pe_callV d_Mo_revoke_36 m_Mo_126 j_Mo_shut v_Mo_shut (c_Mo_shut hMo hnp hnb hOp _) rfl rfl (by simp [Value.category]) (by decide) hMo rfl rfl ?_
          intro v1 h1 z1 hq1
          obtain ⟨rfl, rfl, rfl⟩ := hq1
          change pz_E _ _ _ _ _ _ _ _ _ (_ :: _) _ _ _
          refine pe_if_eq (tgt := 44) d_Mo_revoke_39 (by decide) (fun c_39 => ?_) (fun c_39 => ?_)
          · have c_39 := pb_0.mp c_39
            refine pe_iconst (v := nI 0) d_Mo_revoke_44 (by decide) ?_
            refine pe_istore d_Mo_revoke_45 (by decide) rfl ?_
            dsimp only [List.set]
            refine pe_iconst (v := nI 0) d_Mo_revoke_47 (by decide) ?_
            refine pe_istore d_Mo_revoke_48 (by decide) rfl ?_
            dsimp only [List.set]
            have e := loop (n + 1) 0 Mdl _ (by omega) (by omega) hMo hOw hTk hDl frx.rf
            rw [Nat.zero_add, Nat.sub_zero] at e
            exact e
          · have c_39 := pb_n0.mp c_39
            exact absurd c_39 (by rw [opn_a ha, hop]; decide)
theorem nI_dec {i : Nat} (h : 1 ≤ i) : nI i + Int32.ofInt (-1) = nI (i - 1) := by rw [← nI_sub h, Int32.sub_eq_add_neg, show Int32.ofInt (-1) = -nI 1 from by decide]
theorem fil_dn (f g : Nat → Int32) (t n : Nat) : upd (fil f g (t + 1) n) t (g t) = fil f g t (n + 1) := by
  funext j
  unfold upd fil
  by_cases e : j = t
  · subst e; rw [if_pos rfl, if_pos (by omega)]
  · rw [if_neg e]
    by_cases h : t + 1 ≤ j ∧ j < t + 1 + n
    · rw [if_pos h, if_pos (by omega)]
    · rw [if_neg h, if_neg (by omega)]
/-- the reference's pages that are due, in order, k at most -/
def tkm (np ck : Nat) : Nat → (Nat → Int32) → List Nat
  | 0, _ => []
  | k + 1, D => match sel (cDu (fun j => !decide (D j = 0)) D ck) (lDu D) np 0 none with
    | none => []
    | some q => q :: tkm np ck k (upd D q 0)
theorem tkm_n {np ck k : Nat} {D : Nat → Int32} (h : sel (cDu (fun j => !decide (D j = 0)) D ck) (lDu D) np 0 none = none) : tkm np ck k D = [] := by
  cases k with
  | zero => rfl
  | succ k => simp only [tkm, h]
theorem tkm_s {np ck n i : Nat} {D : Nat → Int32} {q : Nat} (hi : i < n) (h : sel (cDu (fun j => !decide (D j = 0)) D ck) (lDu D) np 0 none = some q) : tkm np ck (n - i) D = q :: tkm np ck (n - (i + 1)) (upd D q 0) := by
  rw [show n - i = (n - (i + 1)) + 1 by omega]
  simp only [tkm, h]
/-- owners, deadlines, rights, pages gone, how many -/
abbrev TM : Type := (Nat → Int32) × (Nat → Int32) × (Nat → Int32) × (Nat → Int32) × (Nat → Nat)
def tm1 (s : TM) (q : Nat) : TM := (upd s.1 q (-1), upd s.2.1 q 0, fil s.2.2.1 (fun _ => 0) (q * 6) 6, upd (fil s.2.2.2.1 (fun j => s.2.2.2.1 (j - 1)) ((s.1 q).toNatClampNeg * 8 + 1) 7) ((s.1 q).toNatClampNeg * 8) (nI q), va_up s.2.2.2.2 (s.1 q).toNatClampNeg (if s.2.2.2.2 (s.1 q).toNatClampNeg < 8 then s.2.2.2.2 (s.1 q).toNatClampNeg + 1 else s.2.2.2.2 (s.1 q).toNatClampNeg))
def tmF (s : TM) (l : List Nat) : TM := l.foldl tm1 s
theorem va_same {f : Nat → Nat} {k x : Nat} (h : f k = x) : va_up f k x = f := by
  funext j
  unfold va_up
  split
  · next e => rw [e, h]
  · rfl
set_option maxHeartbeats 4000000 in
set_option maxRecDepth 20000 in
theorem c_Mo_tick_no {l : Launch} {L : Nat} {xs : Nat → Int32} {h : pz_H} {z : Nat} {np nb now tkg lst flt byt : Nat} {sa sx : Int32} (hMo : MOB h np nb now tkg lst flt byt sa sx) (hnp : np ≤ 32) (hnb : nb ≤ 32) {Mow : Nat → Int32} (hOw : AI h 171 32 Mow) {Mdl : Nat → Int32} (hDl : AI h 173 32 Mdl) {Mrt : Nat → Int32} (hRt : AI h 174 192 Mrt) {Mgo : Nat → Int32} (hGo : AI h 176 48 Mgo) {Mgm : Nat → Nat} (hGm : AN h 177 6 Mgm) (x : Int32) (hno : rng x (nI 1) (nI 100) = false) : pz_K l L xs M_Mo_tick 1 0 0 [.ref 166, .int x] h z (fun v h' z' => v = some (.int (-1)) ∧ h = h' ∧ z = z') := by
  refine pz_K.of rfl (Nat.le_of_ble_eq_true rfl) ?_
  change pz_E l L xs M_Mo_tick 1 0 0 0 [some (.ref 166), some (.int x), none, none, none, none, none] [] h z _
  refine pe_iload_n d_Mo_tick_0 rfl ?_
  refine pe_iconst (v := nI 1) d_Mo_tick_1 (by decide) ?_
  refine pe_icmp_lt (tgt := 11) d_Mo_tick_2 (by decide) (fun c_2 => ?_) (fun c_2 => ?_)
  · refine pe_iconst (v := -1) d_Mo_tick_11 (by decide) ?_
    refine pe_iret d_Mo_tick_12 rfl ?_
    exact ⟨rfl, rfl, rfl⟩
  · refine pe_iload_n d_Mo_tick_5 rfl ?_
    refine pe_bipush (v := nI 100) d_Mo_tick_6 (by decide) ?_
    refine pe_icmp_le (tgt := 13) d_Mo_tick_8 (by decide) (fun c_8 => ?_) (fun c_8 => ?_)
    · exact absurd (show rng x (nI 1) (nI 100) = true from decide_eq_true ⟨c_2, Int32.not_lt.mpr c_8⟩) (by rw [hno]; decide)
    · refine pe_iconst (v := -1) d_Mo_tick_11 (by decide) ?_
      refine pe_iret d_Mo_tick_12 rfl ?_
      exact ⟨rfl, rfl, rfl⟩
set_option maxHeartbeats 4000000 in
set_option maxRecDepth 20000 in
theorem c_Mo_tick_ok {l : Launch} {L : Nat} {xs : Nat → Int32} {h : pz_H} {z : Nat} {np nb now tkg lst flt byt : Nat} {sa sx : Int32} (hMo : MOB h np nb now tkg lst flt byt sa sx) (hnp : np ≤ 32) (hnb : nb ≤ 32) {Mow : Nat → Int32} (hOw : AI h 171 32 Mow) {Mdl : Nat → Int32} (hDl : AI h 173 32 Mdl) {Mrt : Nat → Int32} (hRt : AI h 174 192 Mrt) {Mgo : Nat → Int32} (hGo : AI h 176 48 Mgo) {Mgm : Nat → Nat} (hGm : AN h 177 6 Mgm) {n : Nat} (hn1 : 1 ≤ n) (hn100 : n ≤ 100) (hown : ∀ j, j < np → ¬ Mdl j = 0 → ∃ a, a < 6 ∧ Mow j = nI a) (hgm : ∀ i, i < 6 → Mgm i ≤ 8) : pz_K l L xs M_Mo_tick 1 0 0 [.ref 166, .int (nI n)] h z (fun v h' z' => v = some (.int (nI (tkm np (now + n) 32 Mdl).length)) ∧ z = z' ∧ MOB h' np nb (now + n) tkg lst flt byt sa sx ∧ AI h' 171 32 (tmF ((Mow, Mdl, Mrt, Mgo, Mgm) : TM) (tkm np (now + n) 32 Mdl)).1 ∧ AI h' 173 32 (tmF ((Mow, Mdl, Mrt, Mgo, Mgm) : TM) (tkm np (now + n) 32 Mdl)).2.1 ∧ AI h' 174 192 (tmF ((Mow, Mdl, Mrt, Mgo, Mgm) : TM) (tkm np (now + n) 32 Mdl)).2.2.1 ∧ AI h' 176 48 (tmF ((Mow, Mdl, Mrt, Mgo, Mgm) : TM) (tkm np (now + n) 32 Mdl)).2.2.2.1 ∧ AN h' 177 6 (tmF ((Mow, Mdl, Mrt, Mgo, Mgm) : TM) (tkm np (now + n) 32 Mdl)).2.2.2.2 ∧ frx [166, 171, 173, 174, 176, 177] h h') := by
  refine pz_K.of rfl (Nat.le_of_ble_eq_true rfl) ?_
  have hf : frx [166, 171, 173, 174, 176, 177] h h := frx.rf
  obtain ⟨ck9, hck⟩ : ∃ c, c = now + n := ⟨_, rfl⟩
  rw [← hck]
  have loop : ∀ (n9 : Nat) (t : Nat) (s : TM) (k : pz_H), t ≤ 32 → 33 ≤ t + n9 → (∀ j, j < np → ¬ s.2.1 j = 0 → ∃ a, a < 6 ∧ s.1 j = nI a) → (∀ i, i < 6 → s.2.2.2.2 i ≤ 8) → MOB k np nb ck9 tkg lst flt byt sa sx → AI k 171 32 s.1 → AI k 173 32 s.2.1 → AI k 174 192 s.2.2.1 → AI k 176 48 s.2.2.2.1 → AN k 177 6 s.2.2.2.2 → frx [166, 171, 173, 174, 176, 177] h k → pz_E l L xs M_Mo_tick 1 0 0 27 [some (.ref 166), some (.int (nI n)), some (.int (nI t)), some (.int (nI t)), none, none, none] [] k z (fun v h' z' => v = some (.int (nI (t + (tkm np ck9 (32 - t) s.2.1).length))) ∧ z = z' ∧ MOB h' np nb ck9 tkg lst flt byt sa sx ∧ AI h' 171 32 (tmF s (tkm np ck9 (32 - t) s.2.1)).1 ∧ AI h' 173 32 (tmF s (tkm np ck9 (32 - t) s.2.1)).2.1 ∧ AI h' 174 192 (tmF s (tkm np ck9 (32 - t) s.2.1)).2.2.1 ∧ AI h' 176 48 (tmF s (tkm np ck9 (32 - t) s.2.1)).2.2.2.1 ∧ AN h' 177 6 (tmF s (tkm np ck9 (32 - t) s.2.1)).2.2.2.2 ∧ frx [166, 171, 173, 174, 176, 177] h h') := by
    intro n9
    induction n9 with
    | zero => intros; omega
    | succ n9 ih =>
      intro t s k hi hin hown hgm hMo hOw hDl hRt hGo hGm hf
      refine pe_iload_n d_Mo_tick_27 rfl ?_
      refine pe_bipush (v := nI 32) d_Mo_tick_28 (by decide) ?_
      refine pe_icmpN_ge (tgt := 220) d_Mo_tick_30 (by decide) (by omega) (by omega) (fun c_30 => ?_) (fun c_30 => ?_)
      · refine pe_iload_n d_Mo_tick_220 rfl ?_
        refine pe_iret d_Mo_tick_221 rfl ?_
        exact ⟨by rw [show 32 - t = 0 by omega]; rfl, rfl, hMo, by rw [show 32 - t = 0 by omega]; exact hOw, by rw [show 32 - t = 0 by omega]; exact hDl, by rw [show 32 - t = 0 by omega]; exact hRt, by rw [show 32 - t = 0 by omega]; exact hGo, by rw [show 32 - t = 0 by omega]; exact hGm, hf⟩
      · have c_30 : t < 32 := by omega
        have inner : ∀ (n8 : Nat) (j : Nat) (b : Option Nat), j ≤ np → (∀ y, b = some y → y < j) → np + 1 ≤ j + n8 → sel (cDu (fun j => !decide (s.2.1 j = 0)) s.2.1 ck9) (lDu s.2.1) np 0 none = sel (cDu (fun j => !decide (s.2.1 j = 0)) s.2.1 ck9) (lDu s.2.1) (np - j) j b → pz_E l L xs M_Mo_tick 1 0 0 39 [some (.ref 166), some (.int (nI n)), some (.int (nI t)), some (.int (nI t)), some (.int (omi b)), some (.int (nI j)), none] [] k z (fun v h' z' => v = some (.int (nI (t + (tkm np ck9 (32 - t) s.2.1).length))) ∧ z = z' ∧ MOB h' np nb ck9 tkg lst flt byt sa sx ∧ AI h' 171 32 (tmF s (tkm np ck9 (32 - t) s.2.1)).1 ∧ AI h' 173 32 (tmF s (tkm np ck9 (32 - t) s.2.1)).2.1 ∧ AI h' 174 192 (tmF s (tkm np ck9 (32 - t) s.2.1)).2.2.1 ∧ AI h' 176 48 (tmF s (tkm np ck9 (32 - t) s.2.1)).2.2.2.1 ∧ AN h' 177 6 (tmF s (tkm np ck9 (32 - t) s.2.1)).2.2.2.2 ∧ frx [166, 171, 173, 174, 176, 177] h h') := by
          intro n8
          induction n8 with
          | zero => intros; omega
          | succ n8 ih8 =>
            intro j b hj hb hin hsl
            match b, hb, hsl with
                | none, hb, hsl =>
                  change pz_E l L xs M_Mo_tick 1 0 0 39 [some (.ref 166), some (.int (nI n)), some (.int (nI t)), some (.int (nI t)), some (.int (-1)), some (.int (nI j)), none] [] k z _
                  refine pe_iload d_Mo_tick_39 rfl ?_
                  refine pe_aload_n d_Mo_tick_41 rfl ?_
                  refine pe_getf d_Mo_tick_42 f_Mo_105 hMo rfl ?_
                  refine pe_icmpN_ge (tgt := 107) d_Mo_tick_45 (by decide) (by omega) (by omega) (fun c_45 => ?_) (fun c_45 => ?_)
                  · rw [sel_end (C := (cDu (fun j => !decide (s.2.1 j = 0)) s.2.1 ck9)) (lt := (lDu s.2.1)) (n := np) (i := j) (by omega)] at hsl
                    refine pe_iload d_Mo_tick_107 rfl ?_
                    refine pe_if_ge (tgt := 114) d_Mo_tick_109 (by decide) (fun c_109 => ?_) (fun c_109 => ?_)
                    · exact absurd c_109 (by decide)
                    · refine pe_iload_n d_Mo_tick_112 rfl ?_
                      refine pe_iret d_Mo_tick_113 rfl ?_
                      exact ⟨by rw [tkm_n hsl]; rfl, rfl, hMo, by rw [tkm_n hsl]; exact hOw, by rw [tkm_n hsl]; exact hDl, by rw [tkm_n hsl]; exact hRt, by rw [tkm_n hsl]; exact hGo, by rw [tkm_n hsl]; exact hGm, hf⟩
                  · have c_45 : j < np := by omega
                    refine pe_aload_n d_Mo_tick_48 rfl ?_
                    refine pe_getf d_Mo_tick_49 f_Mo_39 hMo rfl ?_
                    refine pe_iload d_Mo_tick_52 rfl ?_
                    refine pe_ialdN d_Mo_tick_54 hDl (by omega) (by omega) ?_
                    refine pe_if_eq (tgt := 101) d_Mo_tick_55 (by decide) (fun c_55 => ?_) (fun c_55 => ?_)
                    · refine pe_iincN d_Mo_tick_101 rfl (by decide) rfl ?_
                      dsimp only [List.set]
                      refine pe_goto (tgt := 39) d_Mo_tick_104 (by decide) ?_
                      have hb9 : bst (cDu (fun j => !decide (s.2.1 j = 0)) s.2.1 ck9) (lDu s.2.1) j none = none := by first | (simp_all [bst, cDu, lDu]; done)
                      rw [sel_step (C := (cDu (fun j => !decide (s.2.1 j = 0)) s.2.1 ck9)) (lt := (lDu s.2.1)) c_45, hb9] at hsl
                      exact ih8 (j + 1) none (by omega) (fun y hy => by cases hy) (by omega) hsl
                    · refine pe_aload_n d_Mo_tick_58 rfl ?_
                      refine pe_getf d_Mo_tick_59 f_Mo_39 hMo rfl ?_
                      refine pe_iload d_Mo_tick_62 rfl ?_
                      refine pe_ialdN d_Mo_tick_64 hDl (by omega) (by omega) ?_
                      refine pe_aload_n d_Mo_tick_65 rfl ?_
                      refine pe_getf d_Mo_tick_66 f_Mo_23 hMo rfl ?_
                      refine pe_icmp_le (tgt := 75) d_Mo_tick_69 (by decide) (fun c_69 => ?_) (fun c_69 => ?_)
                      · refine pe_iload d_Mo_tick_75 rfl ?_
                        refine pe_if_lt (tgt := 97) d_Mo_tick_77 (by decide) (fun c_77 => ?_) (fun c_77 => ?_)
                        · refine pe_iload d_Mo_tick_97 rfl ?_
                          refine pe_istore d_Mo_tick_99 (by decide) rfl ?_
                          dsimp only [List.set]
                          refine pe_iincN d_Mo_tick_101 rfl (by decide) rfl ?_
                          dsimp only [List.set]
                          refine pe_goto (tgt := 39) d_Mo_tick_104 (by decide) ?_
                          have hb9 : bst (cDu (fun j => !decide (s.2.1 j = 0)) s.2.1 ck9) (lDu s.2.1) j none = (some j) := by first | (simp_all [bst, cDu, lDu]; done)
                          rw [sel_step (C := (cDu (fun j => !decide (s.2.1 j = 0)) s.2.1 ck9)) (lt := (lDu s.2.1)) c_45, hb9] at hsl
                          exact ih8 (j + 1) (some j) (by omega) (fun y hy => by cases hy; omega) (by omega) hsl
                        · exact absurd (by decide) c_77
                      · refine pe_goto (tgt := 101) d_Mo_tick_72 (by decide) ?_
                        refine pe_iincN d_Mo_tick_101 rfl (by decide) rfl ?_
                        dsimp only [List.set]
                        refine pe_goto (tgt := 39) d_Mo_tick_104 (by decide) ?_
                        have hb9 : bst (cDu (fun j => !decide (s.2.1 j = 0)) s.2.1 ck9) (lDu s.2.1) j none = none := by first | (simp_all [bst, cDu, lDu]; done)
                        rw [sel_step (C := (cDu (fun j => !decide (s.2.1 j = 0)) s.2.1 ck9)) (lt := (lDu s.2.1)) c_45, hb9] at hsl
                        exact ih8 (j + 1) none (by omega) (fun y hy => by cases hy) (by omega) hsl
                | some y1, hb, hsl =>
                  have hl : y1 < j := hb y1 rfl
                  change pz_E l L xs M_Mo_tick 1 0 0 39 [some (.ref 166), some (.int (nI n)), some (.int (nI t)), some (.int (nI t)), some (.int (nI y1)), some (.int (nI j)), none] [] k z _
                  refine pe_iload d_Mo_tick_39 rfl ?_
                  refine pe_aload_n d_Mo_tick_41 rfl ?_
                  refine pe_getf d_Mo_tick_42 f_Mo_105 hMo rfl ?_
                  refine pe_icmpN_ge (tgt := 107) d_Mo_tick_45 (by decide) (by omega) (by omega) (fun c_45 => ?_) (fun c_45 => ?_)
                  · rw [sel_end (C := (cDu (fun j => !decide (s.2.1 j = 0)) s.2.1 ck9)) (lt := (lDu s.2.1)) (n := np) (i := j) (by omega)] at hsl
                    refine pe_iload d_Mo_tick_107 rfl ?_
                    refine pe_if_ge (tgt := 114) d_Mo_tick_109 (by decide) (fun c_109 => ?_) (fun c_109 => ?_)
                    · have hpg := hsl
                      obtain ⟨hq1, hq2⟩ := sel_in np 0 none (fun _ e => by cases e) y1 hpg
                      rw [Nat.zero_add] at hq1
                      unfold cDu at hq2
                      rw [Bool.and_eq_true] at hq2
                      obtain ⟨a, ha, hoa⟩ := hown y1 hq1 (by simpa using hq2.1)
                      refine pe_iincN d_Mo_tick_114 rfl (by decide) rfl ?_
                      dsimp only [List.set]
                      refine pe_aload_n d_Mo_tick_117 rfl ?_
                      refine pe_getf d_Mo_tick_118 f_Mo_33 hMo rfl ?_
                      refine pe_iload d_Mo_tick_121 rfl ?_
                      refine pe_ialdN d_Mo_tick_123 hOw (by omega) (by omega) ?_
                      refine pe_top (y := .int (nI a)) (by rw [hoa]) ?_
                      refine pe_bipush (v := nI 8) d_Mo_tick_124 (by decide) ?_
                      refine pe_imulN d_Mo_tick_126 ?_
                      refine pe_istore d_Mo_tick_127 (by decide) rfl ?_
                      dsimp only [List.set]
                      refine pe_bipush (v := nI 7) d_Mo_tick_129 (by decide) ?_
                      refine pe_istore d_Mo_tick_131 (by decide) rfl ?_
                      dsimp only [List.set]
                      have shift : ∀ (n7 : Nat) (i : Nat) (k2 : pz_H), i ≤ 7 → i + 1 ≤ n7 → MOB k2 np nb ck9 tkg lst flt byt sa sx → AI k2 171 32 s.1 → AI k2 173 32 s.2.1 → AI k2 174 192 s.2.2.1 → AI k2 176 48 (fil s.2.2.2.1 (fun j => s.2.2.2.1 (j - 1)) (a * 8 + i + 1) (7 - i)) → AN k2 177 6 s.2.2.2.2 → frx [166, 171, 173, 174, 176, 177] h k2 → pz_E l L xs M_Mo_tick 1 0 0 133 [some (.ref 166), some (.int (nI n)), some (.int (nI (t + 1))), some (.int (nI t)), some (.int (nI y1)), some (.int (nI (a * 8))), some (.int (nI i))] [] k2 z (fun v h' z' => v = some (.int (nI (t + (tkm np ck9 (32 - t) s.2.1).length))) ∧ z = z' ∧ MOB h' np nb ck9 tkg lst flt byt sa sx ∧ AI h' 171 32 (tmF s (tkm np ck9 (32 - t) s.2.1)).1 ∧ AI h' 173 32 (tmF s (tkm np ck9 (32 - t) s.2.1)).2.1 ∧ AI h' 174 192 (tmF s (tkm np ck9 (32 - t) s.2.1)).2.2.1 ∧ AI h' 176 48 (tmF s (tkm np ck9 (32 - t) s.2.1)).2.2.2.1 ∧ AN h' 177 6 (tmF s (tkm np ck9 (32 - t) s.2.1)).2.2.2.2 ∧ frx [166, 171, 173, 174, 176, 177] h h') := by
                        intro n7
                        induction n7 with
                        | zero => intros; omega
                        | succ n7 ih7 =>
                          intro i k2 hi hin hMo hOw hDl hRt hGo hGm hf
                          refine pe_iload d_Mo_tick_133 rfl ?_
                          refine pe_if_le (tgt := 166) d_Mo_tick_135 (by decide) (fun c_135 => ?_) (fun c_135 => ?_)
                          · have e0 : i = 0 := by rcases Nat.eq_zero_or_pos i with e0 | e0; exact e0; exact absurd c_135 (nI_nle e0 (by omega))
                            subst e0
                            have hgm9 := hgm a ha
                            refine pe_aload_n d_Mo_tick_166 rfl ?_
                            refine pe_getf d_Mo_tick_167 f_Mo_48 hMo rfl ?_
                            refine pe_iload d_Mo_tick_170 rfl ?_
                            refine pe_iload d_Mo_tick_172 rfl ?_
                            refine pe_iastN d_Mo_tick_174 hGo (by omega) (by omega) ?_
                            refine pe_pu (fun h2 e2 o2 => ?_)
                            have hMo := (o2 (166) (by omega)).trans hMo
                            have hOw := (o2 (171) (by omega)).trans hOw
                            have hDl := (o2 (173) (by omega)).trans hDl
                            have hRt := (o2 (174) (by omega)).trans hRt
                            have hGo := e2
                            have hGm := (o2 (177) (by omega)).trans hGm
                            have hf := hf.st o2 (by decide)
                            refine pe_aload_n d_Mo_tick_175 rfl ?_
                            refine pe_getf d_Mo_tick_176 f_Mo_51 hMo rfl ?_
                            refine pe_aload_n d_Mo_tick_179 rfl ?_
                            refine pe_getf d_Mo_tick_180 f_Mo_33 hMo rfl ?_
                            refine pe_iload d_Mo_tick_183 rfl ?_
                            refine pe_ialdN d_Mo_tick_185 hOw (by omega) (by omega) ?_
                            refine pe_top (y := .int (nI a)) (by rw [hoa]) ?_
                            refine pe_ialdN d_Mo_tick_186 hGm (by omega) (by omega) ?_
                            refine pe_bipush (v := nI 8) d_Mo_tick_187 (by decide) ?_
                            refine pe_icmpN_ge (tgt := 208) d_Mo_tick_189 (by decide) (by omega) (by omega) (fun c_189 => ?_) (fun c_189 => ?_)
                            · refine pe_aload_n d_Mo_tick_208 rfl ?_
                              refine pe_iload d_Mo_tick_209 rfl ?_
                              -- 211: Mo_free
                              refine pe_callV d_Mo_tick_211 m_Mo_130 j_Mo_free v_Mo_free (c_Mo_free hMo hnp hnb hOw hDl hRt (p := y1) (by omega)) rfl rfl (by simp [Value.category]) (by decide) hMo rfl rfl ?_
                              intro v1 h1 z1 hq1
                              obtain ⟨rfl, rfl, hOw, hDl, hRt, hf1⟩ := hq1
                              have hMo := MOB.mv hMo (hf1 166 (by decide))
                              have hGo := (hf1 176 (by decide)).trans hGo
                              have hGm := (hf1 177 (by decide)).trans hGm
                              have hf := hf.tr (hf1.wd (by decide))
                              change pz_E _ _ _ _ _ _ _ _ _ _ _ _ _
                              refine pe_iincN d_Mo_tick_214 rfl (by decide) rfl ?_
                              dsimp only [List.set]
                              refine pe_goto (tgt := 27) d_Mo_tick_217 (by decide) ?_
                              have hcl : (s.1 y1).toNatClampNeg = a := by rw [hoa, nI_clamp (by omega)]
                              have hGm : AN h1 177 6 (tm1 s y1).2.2.2.2 := by
                                simp only [tm1, hcl]
                                rw [if_neg (by omega), va_same rfl]
                                exact hGm
                              have hGo : AI h1 176 48 (tm1 s y1).2.2.2.1 := by
                                simp only [tm1, hcl]
                                exact hGo
                              have hown2 : ∀ j, j < np → ¬ (tm1 s y1).2.1 j = 0 → ∃ a, a < 6 ∧ (tm1 s y1).1 j = nI a := by
                                intro j hj hn
                                by_cases e : j = y1
                                · subst e; exact absurd (upd_eq _ _ _) hn
                                · simp only [tm1, upd_ne e] at hn ⊢; exact hown j hj hn
                              have hgm2 : ∀ i, i < 6 → (tm1 s y1).2.2.2.2 i ≤ 8 := by
                                intro i hi
                                have := hgm i hi
                                have := hgm a ha
                                simp only [tm1, hcl, va_up]
                                split
                                · split <;> omega
                                · omega
                              have e := ih (t + 1) (tm1 s y1) _ (by omega) (by omega) hown2 hgm2 hMo hOw hDl hRt hGo hGm hf
                              rw [tkm_s c_30 hpg]
                              exact pe_ls (ls' := [some (.ref 166), some (.int (nI n)), some (.int (nI (t + 1))), some (.int (nI (t + 1))), none, none, none]) (fun j v hj => by match j, hj with | 0, hj => exact hj | 1, hj => exact hj | 2, hj => exact hj | 3, hj => exact hj | 4, hj => cases hj | 5, hj => cases hj | 6, hj => cases hj | j + 7, hj => cases hj) (by rw [List.length_cons, ← Nat.add_assoc, Nat.add_right_comm t _ 1]; exact e)
                            · refine pe_aload_n d_Mo_tick_192 rfl ?_
                              refine pe_getf d_Mo_tick_193 f_Mo_51 hMo rfl ?_
                              refine pe_aload_n d_Mo_tick_196 rfl ?_
                              refine pe_getf d_Mo_tick_197 f_Mo_33 hMo rfl ?_
                              refine pe_iload d_Mo_tick_200 rfl ?_
                              refine pe_ialdN d_Mo_tick_202 hOw (by omega) (by omega) ?_
                              refine pe_top (y := .int (nI a)) (by rw [hoa]) ?_
                              refine pe_dup2 d_Mo_tick_203 rfl rfl ?_
                              refine pe_ialdN d_Mo_tick_204 hGm (by omega) (by omega) ?_
                              refine pe_iconst (v := nI 1) d_Mo_tick_205 (by decide) ?_
                              refine pe_iaddN d_Mo_tick_206 ?_
                              refine pe_iastN d_Mo_tick_207 hGm (by omega) (by omega) ?_
                              rw [upn]
                              refine pe_pu (fun h2 e2 o2 => ?_)
                              have hMo := (o2 (166) (by omega)).trans hMo
                              have hOw := (o2 (171) (by omega)).trans hOw
                              have hDl := (o2 (173) (by omega)).trans hDl
                              have hRt := (o2 (174) (by omega)).trans hRt
                              have hGo := (o2 (176) (by omega)).trans hGo
                              have hGm := e2
                              have hf := hf.st o2 (by decide)
                              refine pe_aload_n d_Mo_tick_208 rfl ?_
                              refine pe_iload d_Mo_tick_209 rfl ?_
                              -- 211: Mo_free
                              refine pe_callV d_Mo_tick_211 m_Mo_130 j_Mo_free v_Mo_free (c_Mo_free hMo hnp hnb hOw hDl hRt (p := y1) (by omega)) rfl rfl (by simp [Value.category]) (by decide) hMo rfl rfl ?_
                              intro v1 h1 z1 hq1
                              obtain ⟨rfl, rfl, hOw, hDl, hRt, hf1⟩ := hq1
                              have hMo := MOB.mv hMo (hf1 166 (by decide))
                              have hGo := (hf1 176 (by decide)).trans hGo
                              have hGm := (hf1 177 (by decide)).trans hGm
                              have hf := hf.tr (hf1.wd (by decide))
                              change pz_E _ _ _ _ _ _ _ _ _ _ _ _ _
                              refine pe_iincN d_Mo_tick_214 rfl (by decide) rfl ?_
                              dsimp only [List.set]
                              refine pe_goto (tgt := 27) d_Mo_tick_217 (by decide) ?_
                              have hcl : (s.1 y1).toNatClampNeg = a := by rw [hoa, nI_clamp (by omega)]
                              have hGm : AN h1 177 6 (tm1 s y1).2.2.2.2 := by
                                simp only [tm1, hcl]
                                rw [if_pos (by omega)]
                                exact hGm
                              have hGo : AI h1 176 48 (tm1 s y1).2.2.2.1 := by
                                simp only [tm1, hcl]
                                exact hGo
                              have hown2 : ∀ j, j < np → ¬ (tm1 s y1).2.1 j = 0 → ∃ a, a < 6 ∧ (tm1 s y1).1 j = nI a := by
                                intro j hj hn
                                by_cases e : j = y1
                                · subst e; exact absurd (upd_eq _ _ _) hn
                                · simp only [tm1, upd_ne e] at hn ⊢; exact hown j hj hn
                              have hgm2 : ∀ i, i < 6 → (tm1 s y1).2.2.2.2 i ≤ 8 := by
                                intro i hi
                                have := hgm i hi
                                have := hgm a ha
                                simp only [tm1, hcl, va_up]
                                split
                                · split <;> omega
                                · omega
                              have e := ih (t + 1) (tm1 s y1) _ (by omega) (by omega) hown2 hgm2 hMo hOw hDl hRt hGo hGm hf
                              rw [tkm_s c_30 hpg]
                              exact pe_ls (ls' := [some (.ref 166), some (.int (nI n)), some (.int (nI (t + 1))), some (.int (nI (t + 1))), none, none, none]) (fun j v hj => by match j, hj with | 0, hj => exact hj | 1, hj => exact hj | 2, hj => exact hj | 3, hj => exact hj | 4, hj => cases hj | 5, hj => cases hj | 6, hj => cases hj | j + 7, hj => cases hj) (by rw [List.length_cons, ← Nat.add_assoc, Nat.add_right_comm t _ 1]; exact e)
                          · have c_135 : 0 < i := Nat.pos_of_ne_zero (fun e0 => c_135 (by rw [e0]; decide))
                            refine pe_aload_n d_Mo_tick_138 rfl ?_
                            refine pe_getf d_Mo_tick_139 f_Mo_48 hMo rfl ?_
                            refine pe_iload d_Mo_tick_142 rfl ?_
                            refine pe_iload d_Mo_tick_144 rfl ?_
                            refine pe_iaddN d_Mo_tick_146 ?_
                            refine pe_aload_n d_Mo_tick_147 rfl ?_
                            refine pe_getf d_Mo_tick_148 f_Mo_48 hMo rfl ?_
                            refine pe_iload d_Mo_tick_151 rfl ?_
                            refine pe_iload d_Mo_tick_153 rfl ?_
                            refine pe_iaddN d_Mo_tick_155 ?_
                            refine pe_iconst (v := nI 1) d_Mo_tick_156 (by decide) ?_
                            refine pe_isubN d_Mo_tick_157 (by omega) ?_
                            refine pe_ialdN d_Mo_tick_158 hGo (by omega) (by omega) ?_
                            refine pe_iastN d_Mo_tick_159 hGo (by omega) (by omega) ?_
                            refine pe_pu (fun h2 e2 o2 => ?_)
                            have hMo := (o2 (166) (by omega)).trans hMo
                            have hOw := (o2 (171) (by omega)).trans hOw
                            have hDl := (o2 (173) (by omega)).trans hDl
                            have hRt := (o2 (174) (by omega)).trans hRt
                            have hGo := e2
                            have hGm := (o2 (177) (by omega)).trans hGm
                            have hf := hf.st o2 (by decide)
                            refine pe_iinc d_Mo_tick_160 rfl rfl (by decide) rfl ?_
                            dsimp only [List.set]
                            refine pe_goto (tgt := 133) d_Mo_tick_163 (by decide) ?_
                            have hGo : AI h2 176 48 (fil s.2.2.2.1 (fun j => s.2.2.2.1 (j - 1)) (a * 8 + (i - 1) + 1) (7 - (i - 1))) := by
                              rw [fil_o (by omega), show s.2.2.2.1 (a * 8 + i - 1) = (fun j => s.2.2.2.1 (j - 1)) (a * 8 + i) from rfl, fil_dn] at hGo
                              rw [show a * 8 + (i - 1) + 1 = a * 8 + i by omega, show 7 - (i - 1) = 7 - i + 1 by omega]
                              exact hGo
                            have e := ih7 (i - 1) _ (by omega) (by omega) hMo hOw hDl hRt hGo hGm hf
                            rw [show nI i + Int32.ofInt (-1) = nI (i - 1) from nI_dec (by omega)]
                            exact e
                      have hGo : AI k 176 48 (fil s.2.2.2.1 (fun j => s.2.2.2.1 (j - 1)) (a * 8 + 7 + 1) (7 - 7)) := by rw [show 7 - 7 = 0 from rfl, fil_0]; exact hGo
                      exact shift 8 7 _ (by omega) (by omega) hMo hOw hDl hRt hGo hGm hf
                    · exact absurd (nI_nn (by omega)) c_109
                  · have c_45 : j < np := by omega
                    refine pe_aload_n d_Mo_tick_48 rfl ?_
                    refine pe_getf d_Mo_tick_49 f_Mo_39 hMo rfl ?_
                    refine pe_iload d_Mo_tick_52 rfl ?_
                    refine pe_ialdN d_Mo_tick_54 hDl (by omega) (by omega) ?_
                    refine pe_if_eq (tgt := 101) d_Mo_tick_55 (by decide) (fun c_55 => ?_) (fun c_55 => ?_)
                    · refine pe_iincN d_Mo_tick_101 rfl (by decide) rfl ?_
                      dsimp only [List.set]
                      refine pe_goto (tgt := 39) d_Mo_tick_104 (by decide) ?_
                      have hb9 : bst (cDu (fun j => !decide (s.2.1 j = 0)) s.2.1 ck9) (lDu s.2.1) j (some y1) = (some y1) := by first | (simp_all [bst, cDu, lDu]; done)
                      rw [sel_step (C := (cDu (fun j => !decide (s.2.1 j = 0)) s.2.1 ck9)) (lt := (lDu s.2.1)) c_45, hb9] at hsl
                      exact ih8 (j + 1) (some y1) (by omega) (fun y hy => by cases hy; omega) (by omega) hsl
                    · refine pe_aload_n d_Mo_tick_58 rfl ?_
                      refine pe_getf d_Mo_tick_59 f_Mo_39 hMo rfl ?_
                      refine pe_iload d_Mo_tick_62 rfl ?_
                      refine pe_ialdN d_Mo_tick_64 hDl (by omega) (by omega) ?_
                      refine pe_aload_n d_Mo_tick_65 rfl ?_
                      refine pe_getf d_Mo_tick_66 f_Mo_23 hMo rfl ?_
                      refine pe_icmp_le (tgt := 75) d_Mo_tick_69 (by decide) (fun c_69 => ?_) (fun c_69 => ?_)
                      · refine pe_iload d_Mo_tick_75 rfl ?_
                        refine pe_if_lt (tgt := 97) d_Mo_tick_77 (by decide) (fun c_77 => ?_) (fun c_77 => ?_)
                        · exact absurd c_77 (nI_pos (by omega))
                        · refine pe_aload_n d_Mo_tick_80 rfl ?_
                          refine pe_getf d_Mo_tick_81 f_Mo_39 hMo rfl ?_
                          refine pe_iload d_Mo_tick_84 rfl ?_
                          refine pe_ialdN d_Mo_tick_86 hDl (by omega) (by omega) ?_
                          refine pe_aload_n d_Mo_tick_87 rfl ?_
                          refine pe_getf d_Mo_tick_88 f_Mo_39 hMo rfl ?_
                          refine pe_iload d_Mo_tick_91 rfl ?_
                          refine pe_ialdN d_Mo_tick_93 hDl (by omega) (by omega) ?_
                          refine pe_icmp_ge (tgt := 101) d_Mo_tick_94 (by decide) (fun c_94 => ?_) (fun c_94 => ?_)
                          · refine pe_iincN d_Mo_tick_101 rfl (by decide) rfl ?_
                            dsimp only [List.set]
                            refine pe_goto (tgt := 39) d_Mo_tick_104 (by decide) ?_
                            have hb9 : bst (cDu (fun j => !decide (s.2.1 j = 0)) s.2.1 ck9) (lDu s.2.1) j (some y1) = (some y1) := by first | (simp_all [bst, cDu, lDu]; done)
                            rw [sel_step (C := (cDu (fun j => !decide (s.2.1 j = 0)) s.2.1 ck9)) (lt := (lDu s.2.1)) c_45, hb9] at hsl
                            exact ih8 (j + 1) (some y1) (by omega) (fun y hy => by cases hy; omega) (by omega) hsl
                          · refine pe_iload d_Mo_tick_97 rfl ?_
                            refine pe_istore d_Mo_tick_99 (by decide) rfl ?_
                            dsimp only [List.set]
                            refine pe_iincN d_Mo_tick_101 rfl (by decide) rfl ?_
                            dsimp only [List.set]
                            refine pe_goto (tgt := 39) d_Mo_tick_104 (by decide) ?_
                            have hb9 : bst (cDu (fun j => !decide (s.2.1 j = 0)) s.2.1 ck9) (lDu s.2.1) j (some y1) = (some j) := by first | (simp_all [bst, cDu, lDu]; done)
                            rw [sel_step (C := (cDu (fun j => !decide (s.2.1 j = 0)) s.2.1 ck9)) (lt := (lDu s.2.1)) c_45, hb9] at hsl
                            exact ih8 (j + 1) (some j) (by omega) (fun y hy => by cases hy; omega) (by omega) hsl
                      · refine pe_goto (tgt := 101) d_Mo_tick_72 (by decide) ?_
                        refine pe_iincN d_Mo_tick_101 rfl (by decide) rfl ?_
                        dsimp only [List.set]
                        refine pe_goto (tgt := 39) d_Mo_tick_104 (by decide) ?_
                        have hb9 : bst (cDu (fun j => !decide (s.2.1 j = 0)) s.2.1 ck9) (lDu s.2.1) j (some y1) = (some y1) := by first | (simp_all [bst, cDu, lDu]; done)
                        rw [sel_step (C := (cDu (fun j => !decide (s.2.1 j = 0)) s.2.1 ck9)) (lt := (lDu s.2.1)) c_45, hb9] at hsl
                        exact ih8 (j + 1) (some y1) (by omega) (fun y hy => by cases hy; omega) (by omega) hsl
        refine pe_iconst (v := -1) d_Mo_tick_33 (by decide) ?_
        refine pe_istore d_Mo_tick_34 (by decide) rfl ?_
        dsimp only [List.set]
        refine pe_iconst (v := nI 0) d_Mo_tick_36 (by decide) ?_
        refine pe_istore d_Mo_tick_37 (by decide) rfl ?_
        dsimp only [List.set]
        exact inner (np + 1) 0 none (by omega) (fun y hy => by cases hy) (by omega) rfl
  change pz_E l L xs M_Mo_tick 1 0 0 0 [some (.ref 166), some (.int (nI n)), none, none, none, none, none] [] h z _
  refine pe_iload_n d_Mo_tick_0 rfl ?_
  refine pe_iconst (v := nI 1) d_Mo_tick_1 (by decide) ?_
  refine pe_icmpN_lt (tgt := 11) d_Mo_tick_2 (by decide) (by omega) (by omega) (fun c_2 => ?_) (fun c_2 => ?_)
  · exfalso; omega
  · refine pe_iload_n d_Mo_tick_5 rfl ?_
    refine pe_bipush (v := nI 100) d_Mo_tick_6 (by decide) ?_
    refine pe_icmpN_le (tgt := 13) d_Mo_tick_8 (by decide) (by omega) (by omega) (fun c_8 => ?_) (fun c_8 => ?_)
    · refine pe_aload_n d_Mo_tick_13 rfl ?_
      refine pe_dup d_Mo_tick_14 rfl ?_
      refine pe_getf d_Mo_tick_15 f_Mo_23 hMo rfl ?_
      refine pe_iload_n d_Mo_tick_18 rfl ?_
      refine pe_iaddN d_Mo_tick_19 ?_
      refine pe_put d_Mo_tick_20 g_Mo_23 hMo (Nat.le_of_ble_eq_true rfl) rfl ?_
      refine pe_pu (fun h2 e2 o2 => ?_)
      have hMo := e2
      have hOw := (o2 (171) (by omega)).trans hOw
      have hDl := (o2 (173) (by omega)).trans hDl
      have hRt := (o2 (174) (by omega)).trans hRt
      have hGo := (o2 (176) (by omega)).trans hGo
      have hGm := (o2 (177) (by omega)).trans hGm
      have hf := hf.st o2 (by decide)
      refine pe_iconst (v := nI 0) d_Mo_tick_23 (by decide) ?_
      refine pe_istore_n d_Mo_tick_24 (by decide) rfl ?_
      dsimp only [List.set]
      refine pe_iconst (v := nI 0) d_Mo_tick_25 (by decide) ?_
      refine pe_istore_n d_Mo_tick_26 (by decide) rfl ?_
      dsimp only [List.set]
      rw [← hck] at hMo
      have e := loop 33 0 ((Mow, Mdl, Mrt, Mgo, Mgm) : TM) _ (by omega) (by omega) hown hgm hMo hOw hDl hRt hGo hGm hf
      rw [Nat.zero_add, Nat.sub_zero] at e
      exact e
    · exfalso; omega
