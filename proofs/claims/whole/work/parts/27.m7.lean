/-! the reference: contracts of BindingKernelModel, seventh part: arrive, holder, count -/
/-- a filter of the reference, beside the lists gc, go, yy, nn -/
def FOK (Mcd : Nat → Int32) (a gl : Nat) (gc go : Nat → Int32) (cc yy nn : Nat → Nat) : Prop := gl ≤ 16 ∧ 0 < gl ∧ (∀ j, j < gl → gc j = nI (cc j) ∧ Mcd (384 + a * 64 + j * 4) = nI (cc j) ∧ cc j ≤ 11) ∧ (∀ j, j < gl → Mcd (384 + a * 64 + j * 4 + 1) = go j) ∧ (∀ j, j < gl → 6 < cc j → cc j < 10 → Mcd (384 + a * 64 + j * 4 + 2) = nI (yy j) ∧ Mcd (384 + a * 64 + j * 4 + 3) = nI (nn j)) ∧ (∀ j, j < gl → cc j < 7 → yy j = 0 ∧ nn j = 0) ∧ (∀ j, j < gl → cc j ≤ 9 → j + 1 + yy j < gl ∧ j + 1 + nn j < gl)
set_option maxHeartbeats 4000000 in
set_option maxRecDepth 20000 in
theorem c_Mo_arrive_none {l : Launch} {L : Nat} {xs : Nat → Int32} {h : pz_H} {z : Nat} {np nb now tkg lst flt byt : Nat} {sa sx : Int32} (hMo : MOB h np nb now tkg lst flt byt sa sx) (hnp : np ≤ 32) (hnb : nb ≤ 32) {Mcd : Nat → Int32} (hCd : AI h 179 768 Mcd) {Mst : Nat → Int32} (hSt : AI h 180 6 Mst) {Mfm : Nat → Int32} (hFm : AI h 181 16 Mfm) {Mfs : Nat → Nat} (hFs : AN h 182 6 Mfs) {Mfl : Nat → Nat} (hFl : AN h 183 24 Mfl) {Mfb : Nat → Int32} (hFb : AI h 184 384 Mfb) (hb16 : byt ≤ 16) {fb : Nat → Int32} (hfb : ∀ q, q < byt → Mfm q = fb q) (hfl : flt ≤ 6) {ao : Nat → Nat} (hao : ∀ j, j < flt → Mst j = nI (ao j) ∧ ao j < 6) {l2 : Nat → Nat} {c2 o2 : Nat → Nat → Int32} {cc yy nn : Nat → Nat → Nat} (hok : ∀ j, j < flt → FOK Mcd (ao j) (l2 (ao j)) (c2 (ao j)) (o2 (ao j)) (cc (ao j)) (yy (ao j)) (nn (ao j))) (hfa : fac (fun j => acA (c2 (ao j)) (o2 (ao j)) (yy (ao j)) (nn (ao j)) (l2 (ao j)) fb byt) ao flt 0 = none) : pz_K l L xs M_Mo_arrive 2 0 0 [.ref 166] h z (fun v h' z' => v = some (.int (-1)) ∧ z = z' ∧ (∃ A' X', MOB h' np nb now tkg lst flt 0 A' X') ∧ frx [166] h h') := by
  refine pz_K.of rfl (Nat.le_of_ble_eq_true rfl) ?_
  have hf : frx [166] h h := frx.rf
  have tail : ∀ (i9 : Nat) (A X : Int32) (k : pz_H), MOB k np nb now tkg lst flt byt A X → AI k 179 768 Mcd → AI k 180 6 Mst → AI k 181 16 Mfm → AN k 182 6 Mfs → AN k 183 24 Mfl → AI k 184 384 Mfb → frx [166] h k → pz_E l L xs M_Mo_arrive 2 0 0 42 [some (.ref 166), some (.int (-1)), some (.int (nI i9)), none, none] [] k z (fun v h' z' => v = some (.int (-1)) ∧ z = z' ∧ (∃ A' X', MOB h' np nb now tkg lst flt 0 A' X') ∧ frx [166] h h') := by
    intro i9 A X k hMo hCd hSt hFm hFs hFl hFb hf
    refine pe_aload_n d_Mo_arrive_42 rfl ?_
    refine pe_getf d_Mo_arrive_43 f_Mo_66 hMo rfl ?_
    refine pe_istore_n d_Mo_arrive_46 (by decide) rfl ?_
    dsimp only [List.set]
    refine pe_aload_n d_Mo_arrive_47 rfl ?_
    refine pe_iconst (v := nI 0) d_Mo_arrive_48 (by decide) ?_
    refine pe_put d_Mo_arrive_49 g_Mo_66 hMo (Nat.le_of_ble_eq_true rfl) rfl ?_
    refine pe_pu (fun h2 e2 o2 => ?_)
    have hMo := e2
    have hCd := (o2 (179) (by omega)).trans hCd
    have hSt := (o2 (180) (by omega)).trans hSt
    have hFm := (o2 (181) (by omega)).trans hFm
    have hFs := (o2 (182) (by omega)).trans hFs
    have hFl := (o2 (183) (by omega)).trans hFl
    have hFb := (o2 (184) (by omega)).trans hFb
    have hf := hf.st o2 (by decide)
    refine pe_iload_n d_Mo_arrive_52 rfl ?_
    refine pe_if_ge (tgt := 58) d_Mo_arrive_53 (by decide) (fun c_53 => ?_) (fun c_53 => ?_)
    · exact absurd c_53 (by decide)
    · refine pe_iconst (v := -1) d_Mo_arrive_56 (by decide) ?_
      refine pe_iret d_Mo_arrive_57 rfl ?_
      exact ⟨rfl, rfl, ⟨_, _, hMo⟩, hf⟩
  have loop : ∀ (n : Nat) (i : Nat) (A X : Int32) (k : pz_H), i ≤ flt → flt + 1 ≤ i + n → ff (fun j => acA (c2 (ao j)) (o2 (ao j)) (yy (ao j)) (nn (ao j)) (l2 (ao j)) fb byt) (flt - i) i = ff (fun j => acA (c2 (ao j)) (o2 (ao j)) (yy (ao j)) (nn (ao j)) (l2 (ao j)) fb byt) flt 0 → MOB k np nb now tkg lst flt byt A X → AI k 179 768 Mcd → AI k 180 6 Mst → AI k 181 16 Mfm → AN k 182 6 Mfs → AN k 183 24 Mfl → AI k 184 384 Mfb → frx [166] h k → pz_E l L xs M_Mo_arrive 2 0 0 4 [some (.ref 166), some (.int (-1)), some (.int (nI i)), none, none] [] k z (fun v h' z' => v = some (.int (-1)) ∧ z = z' ∧ (∃ A' X', MOB h' np nb now tkg lst flt 0 A' X') ∧ frx [166] h h') := by
    intro n
    induction n with
    | zero => intros; omega
    | succ n ih =>
      intro i A X k hi9 hin he hMo hCd hSt hFm hFs hFl hFb hf
      refine pe_iload_n d_Mo_arrive_4 rfl ?_
      refine pe_aload_n d_Mo_arrive_5 rfl ?_
      refine pe_getf d_Mo_arrive_6 f_Mo_63 hMo rfl ?_
      refine pe_icmpN_ge (tgt := 42) d_Mo_arrive_9 (by decide) (by omega) (by omega) (fun c_9 => ?_) (fun c_9 => ?_)
      · exact tail _ A X _ hMo hCd hSt hFm hFs hFl hFb hf
      · have hi : i < flt := by omega
        refine pe_iload_n d_Mo_arrive_12 rfl ?_
        refine pe_if_ge (tgt := 42) d_Mo_arrive_13 (by decide) (fun c_13 => ?_) (fun c_13 => ?_)
        · exact absurd c_13 (by decide)
        · refine pe_aload_n d_Mo_arrive_16 rfl ?_
          refine pe_aload_n d_Mo_arrive_17 rfl ?_
          refine pe_getf d_Mo_arrive_18 f_Mo_60 hMo rfl ?_
          refine pe_iload_n d_Mo_arrive_21 rfl ?_
          refine pe_ialdN d_Mo_arrive_22 hSt (by omega) (by omega) ?_
          refine pe_top (y := .int (nI (ao i))) (by rw [(hao i hi).1]) ?_
          -- 23: Mo_accepts
          refine pe_callV d_Mo_arrive_23 m_Mo_145 j_Mo_accepts v_Mo_accepts (c_Mo_accepts hMo hnp hnb hCd hFm (hao i hi).2 hb16 hfb (hok i hi).1 (hok i hi).2.1 (hok i hi).2.2.1 (hok i hi).2.2.2.1 (hok i hi).2.2.2.2.1 (hok i hi).2.2.2.2.2.1 (hok i hi).2.2.2.2.2.2) rfl rfl (by simp [Value.category]) (by decide) hMo rfl rfl ?_
          intro v1 h1 z1 hq1
          obtain ⟨rfl, rfl, ⟨A9, X9, hMo⟩, hf1⟩ := hq1
          have hCd := (hf1 179 (by decide)).trans hCd
          have hSt := (hf1 180 (by decide)).trans hSt
          have hFm := (hf1 181 (by decide)).trans hFm
          have hFs := (hf1 182 (by decide)).trans hFs
          have hFl := (hf1 183 (by decide)).trans hFl
          have hFb := (hf1 184 (by decide)).trans hFb
          have hf := hf.tr (hf1.wd (by decide))
          change pz_E _ _ _ _ _ _ _ _ _ (_ :: _) _ _ _
          refine pe_if_eq (tgt := 36) d_Mo_arrive_26 (by decide) (fun c_26 => ?_) (fun c_26 => ?_)
          · have c_26 := pb_0.mp c_26
            refine pe_iincN d_Mo_arrive_36 rfl (by decide) rfl ?_
            dsimp only [List.set]
            refine pe_goto (tgt := 4) d_Mo_arrive_39 (by decide) ?_
            exact ih (i + 1) A9 X9 _ (by omega) (by omega) ((ff_no (P := (fun j => acA (c2 (ao j)) (o2 (ao j)) (yy (ao j)) (nn (ao j)) (l2 (ao j)) fb byt)) hi (by rw [c_26]; decide)).symm.trans he) hMo hCd hSt hFm hFs hFl hFb hf
          · have c_26 := pb_n0.mp c_26
            refine pe_aload_n d_Mo_arrive_29 rfl ?_
            refine pe_getf d_Mo_arrive_30 f_Mo_60 hMo rfl ?_
            refine pe_iload_n d_Mo_arrive_33 rfl ?_
            refine pe_ialdN d_Mo_arrive_34 hSt (by omega) (by omega) ?_
            refine pe_top (y := .int (nI (ao i))) (by rw [(hao i hi).1]) ?_
            refine pe_istore_n d_Mo_arrive_35 (by decide) rfl ?_
            dsimp only [List.set]
            refine pe_iincN d_Mo_arrive_36 rfl (by decide) rfl ?_
            dsimp only [List.set]
            refine pe_goto (tgt := 4) d_Mo_arrive_39 (by decide) ?_
            exfalso; unfold fac at hfa; rw [Nat.sub_zero, ← he, ff_yes (P := (fun j => acA (c2 (ao j)) (o2 (ao j)) (yy (ao j)) (nn (ao j)) (l2 (ao j)) fb byt)) hi c_26, if_pos hi] at hfa; cases hfa
  change pz_E l L xs M_Mo_arrive 2 0 0 0 [some (.ref 166), none, none, none, none] [] h z _
  refine pe_iconst (v := -1) d_Mo_arrive_0 (by decide) ?_
  refine pe_istore_n d_Mo_arrive_1 (by decide) rfl ?_
  dsimp only [List.set]
  refine pe_iconst (v := nI 0) d_Mo_arrive_2 (by decide) ?_
  refine pe_istore_n d_Mo_arrive_3 (by decide) rfl ?_
  dsimp only [List.set]
  exact loop (flt + 1) 0 sa sx _ (by omega) (by omega) (by rw [Nat.sub_zero]) hMo hCd hSt hFm hFs hFl hFb hf
set_option maxHeartbeats 4000000 in
set_option maxRecDepth 20000 in
theorem c_Mo_arrive_lost {l : Launch} {L : Nat} {xs : Nat → Int32} {h : pz_H} {z : Nat} {np nb now tkg lst flt byt : Nat} {sa sx : Int32} (hMo : MOB h np nb now tkg lst flt byt sa sx) (hnp : np ≤ 32) (hnb : nb ≤ 32) {Mcd : Nat → Int32} (hCd : AI h 179 768 Mcd) {Mst : Nat → Int32} (hSt : AI h 180 6 Mst) {Mfm : Nat → Int32} (hFm : AI h 181 16 Mfm) {Mfs : Nat → Nat} (hFs : AN h 182 6 Mfs) {Mfl : Nat → Nat} (hFl : AN h 183 24 Mfl) {Mfb : Nat → Int32} (hFb : AI h 184 384 Mfb) (hb16 : byt ≤ 16) {fb : Nat → Int32} (hfb : ∀ q, q < byt → Mfm q = fb q) (hfl : flt ≤ 6) {ao : Nat → Nat} (hao : ∀ j, j < flt → Mst j = nI (ao j) ∧ ao j < 6) {l2 : Nat → Nat} {c2 o2 : Nat → Nat → Int32} {cc yy nn : Nat → Nat → Nat} (hok : ∀ j, j < flt → FOK Mcd (ao j) (l2 (ao j)) (c2 (ao j)) (o2 (ao j)) (cc (ao j)) (yy (ao j)) (nn (ao j))) {b : Nat} (hb : b < 6) (hfa : fac (fun j => acA (c2 (ao j)) (o2 (ao j)) (yy (ao j)) (nn (ao j)) (l2 (ao j)) fb byt) ao flt 0 = some b) (h4 : Mfs b = 4) : pz_K l L xs M_Mo_arrive 2 0 0 [.ref 166] h z (fun v h' z' => v = some (.int (-6)) ∧ z = z' ∧ (∃ A' X', MOB h' np nb now tkg (lst + 1) flt 0 A' X') ∧ frx [166] h h') := by
  refine pz_K.of rfl (Nat.le_of_ble_eq_true rfl) ?_
  have hf : frx [166] h h := frx.rf
  have tail : ∀ (i9 : Nat) (A X : Int32) (k : pz_H), MOB k np nb now tkg lst flt byt A X → AI k 179 768 Mcd → AI k 180 6 Mst → AI k 181 16 Mfm → AN k 182 6 Mfs → AN k 183 24 Mfl → AI k 184 384 Mfb → frx [166] h k → pz_E l L xs M_Mo_arrive 2 0 0 42 [some (.ref 166), some (.int (nI b)), some (.int (nI i9)), none, none] [] k z (fun v h' z' => v = some (.int (-6)) ∧ z = z' ∧ (∃ A' X', MOB h' np nb now tkg (lst + 1) flt 0 A' X') ∧ frx [166] h h') := by
    intro i9 A X k hMo hCd hSt hFm hFs hFl hFb hf
    refine pe_aload_n d_Mo_arrive_42 rfl ?_
    refine pe_getf d_Mo_arrive_43 f_Mo_66 hMo rfl ?_
    refine pe_istore_n d_Mo_arrive_46 (by decide) rfl ?_
    dsimp only [List.set]
    refine pe_aload_n d_Mo_arrive_47 rfl ?_
    refine pe_iconst (v := nI 0) d_Mo_arrive_48 (by decide) ?_
    refine pe_put d_Mo_arrive_49 g_Mo_66 hMo (Nat.le_of_ble_eq_true rfl) rfl ?_
    refine pe_pu (fun h2 e2 o2 => ?_)
    have hMo := e2
    have hCd := (o2 (179) (by omega)).trans hCd
    have hSt := (o2 (180) (by omega)).trans hSt
    have hFm := (o2 (181) (by omega)).trans hFm
    have hFs := (o2 (182) (by omega)).trans hFs
    have hFl := (o2 (183) (by omega)).trans hFl
    have hFb := (o2 (184) (by omega)).trans hFb
    have hf := hf.st o2 (by decide)
    refine pe_iload_n d_Mo_arrive_52 rfl ?_
    refine pe_if_ge (tgt := 58) d_Mo_arrive_53 (by decide) (fun c_53 => ?_) (fun c_53 => ?_)
    · refine pe_aload_n d_Mo_arrive_58 rfl ?_
      refine pe_getf d_Mo_arrive_59 f_Mo_72 hMo rfl ?_
      refine pe_iload_n d_Mo_arrive_62 rfl ?_
      refine pe_ialdN d_Mo_arrive_63 hFs (by omega) (by omega) ?_
      refine pe_iconst (v := nI 4) d_Mo_arrive_64 (by decide) ?_
      refine pe_icmpN_ne (tgt := 81) d_Mo_arrive_65 (by decide) (by omega) (by omega) (fun c_65 => ?_) (fun c_65 => ?_)
      · exact absurd h4 c_65
      · refine pe_aload_n d_Mo_arrive_68 rfl ?_
        refine pe_dup d_Mo_arrive_69 rfl ?_
        refine pe_getf d_Mo_arrive_70 f_Mo_30 hMo rfl ?_
        refine pe_iconst (v := nI 1) d_Mo_arrive_73 (by decide) ?_
        refine pe_iaddN d_Mo_arrive_74 ?_
        refine pe_put d_Mo_arrive_75 g_Mo_30 hMo (Nat.le_of_ble_eq_true rfl) rfl ?_
        refine pe_pu (fun h2 e2 o2 => ?_)
        have hMo := e2
        have hCd := (o2 (179) (by omega)).trans hCd
        have hSt := (o2 (180) (by omega)).trans hSt
        have hFm := (o2 (181) (by omega)).trans hFm
        have hFs := (o2 (182) (by omega)).trans hFs
        have hFl := (o2 (183) (by omega)).trans hFl
        have hFb := (o2 (184) (by omega)).trans hFb
        have hf := hf.st o2 (by decide)
        refine pe_bipush (v := -6) d_Mo_arrive_78 (by decide) ?_
        refine pe_iret d_Mo_arrive_80 rfl ?_
        exact ⟨rfl, rfl, ⟨_, _, hMo⟩, hf⟩
    · exact absurd (nI_nn (by omega)) c_53
  have loop : ∀ (n : Nat) (i : Nat) (A X : Int32) (k : pz_H), i ≤ flt → flt + 1 ≤ i + n → ff (fun j => acA (c2 (ao j)) (o2 (ao j)) (yy (ao j)) (nn (ao j)) (l2 (ao j)) fb byt) (flt - i) i = ff (fun j => acA (c2 (ao j)) (o2 (ao j)) (yy (ao j)) (nn (ao j)) (l2 (ao j)) fb byt) flt 0 → MOB k np nb now tkg lst flt byt A X → AI k 179 768 Mcd → AI k 180 6 Mst → AI k 181 16 Mfm → AN k 182 6 Mfs → AN k 183 24 Mfl → AI k 184 384 Mfb → frx [166] h k → pz_E l L xs M_Mo_arrive 2 0 0 4 [some (.ref 166), some (.int (-1)), some (.int (nI i)), none, none] [] k z (fun v h' z' => v = some (.int (-6)) ∧ z = z' ∧ (∃ A' X', MOB h' np nb now tkg (lst + 1) flt 0 A' X') ∧ frx [166] h h') := by
    intro n
    induction n with
    | zero => intros; omega
    | succ n ih =>
      intro i A X k hi9 hin he hMo hCd hSt hFm hFs hFl hFb hf
      refine pe_iload_n d_Mo_arrive_4 rfl ?_
      refine pe_aload_n d_Mo_arrive_5 rfl ?_
      refine pe_getf d_Mo_arrive_6 f_Mo_63 hMo rfl ?_
      refine pe_icmpN_ge (tgt := 42) d_Mo_arrive_9 (by decide) (by omega) (by omega) (fun c_9 => ?_) (fun c_9 => ?_)
      · exfalso; unfold fac at hfa; rw [Nat.sub_zero, ← he, ff_end (P := (fun j => acA (c2 (ao j)) (o2 (ao j)) (yy (ao j)) (nn (ao j)) (l2 (ao j)) fb byt)) (by omega), if_neg (by omega)] at hfa; cases hfa
      · have hi : i < flt := by omega
        refine pe_iload_n d_Mo_arrive_12 rfl ?_
        refine pe_if_ge (tgt := 42) d_Mo_arrive_13 (by decide) (fun c_13 => ?_) (fun c_13 => ?_)
        · exact absurd c_13 (by decide)
        · refine pe_aload_n d_Mo_arrive_16 rfl ?_
          refine pe_aload_n d_Mo_arrive_17 rfl ?_
          refine pe_getf d_Mo_arrive_18 f_Mo_60 hMo rfl ?_
          refine pe_iload_n d_Mo_arrive_21 rfl ?_
          refine pe_ialdN d_Mo_arrive_22 hSt (by omega) (by omega) ?_
          refine pe_top (y := .int (nI (ao i))) (by rw [(hao i hi).1]) ?_
          -- 23: Mo_accepts
          refine pe_callV d_Mo_arrive_23 m_Mo_145 j_Mo_accepts v_Mo_accepts (c_Mo_accepts hMo hnp hnb hCd hFm (hao i hi).2 hb16 hfb (hok i hi).1 (hok i hi).2.1 (hok i hi).2.2.1 (hok i hi).2.2.2.1 (hok i hi).2.2.2.2.1 (hok i hi).2.2.2.2.2.1 (hok i hi).2.2.2.2.2.2) rfl rfl (by simp [Value.category]) (by decide) hMo rfl rfl ?_
          intro v1 h1 z1 hq1
          obtain ⟨rfl, rfl, ⟨A9, X9, hMo⟩, hf1⟩ := hq1
          have hCd := (hf1 179 (by decide)).trans hCd
          have hSt := (hf1 180 (by decide)).trans hSt
          have hFm := (hf1 181 (by decide)).trans hFm
          have hFs := (hf1 182 (by decide)).trans hFs
          have hFl := (hf1 183 (by decide)).trans hFl
          have hFb := (hf1 184 (by decide)).trans hFb
          have hf := hf.tr (hf1.wd (by decide))
          change pz_E _ _ _ _ _ _ _ _ _ (_ :: _) _ _ _
          refine pe_if_eq (tgt := 36) d_Mo_arrive_26 (by decide) (fun c_26 => ?_) (fun c_26 => ?_)
          · have c_26 := pb_0.mp c_26
            refine pe_iincN d_Mo_arrive_36 rfl (by decide) rfl ?_
            dsimp only [List.set]
            refine pe_goto (tgt := 4) d_Mo_arrive_39 (by decide) ?_
            exact ih (i + 1) A9 X9 _ (by omega) (by omega) ((ff_no (P := (fun j => acA (c2 (ao j)) (o2 (ao j)) (yy (ao j)) (nn (ao j)) (l2 (ao j)) fb byt)) hi (by rw [c_26]; decide)).symm.trans he) hMo hCd hSt hFm hFs hFl hFb hf
          · have c_26 := pb_n0.mp c_26
            refine pe_aload_n d_Mo_arrive_29 rfl ?_
            refine pe_getf d_Mo_arrive_30 f_Mo_60 hMo rfl ?_
            refine pe_iload_n d_Mo_arrive_33 rfl ?_
            refine pe_ialdN d_Mo_arrive_34 hSt (by omega) (by omega) ?_
            refine pe_top (y := .int (nI (ao i))) (by rw [(hao i hi).1]) ?_
            refine pe_istore_n d_Mo_arrive_35 (by decide) rfl ?_
            dsimp only [List.set]
            refine pe_iincN d_Mo_arrive_36 rfl (by decide) rfl ?_
            dsimp only [List.set]
            refine pe_goto (tgt := 4) d_Mo_arrive_39 (by decide) ?_
            have hbe : ao i = b := by unfold fac at hfa; rw [Nat.sub_zero, ← he, ff_yes (P := (fun j => acA (c2 (ao j)) (o2 (ao j)) (yy (ao j)) (nn (ao j)) (l2 (ao j)) fb byt)) hi c_26, if_pos hi] at hfa; exact Option.some.inj hfa
            rw [hbe]
            refine pe_iload_n d_Mo_arrive_4 rfl ?_
            refine pe_aload_n d_Mo_arrive_5 rfl ?_
            refine pe_getf d_Mo_arrive_6 f_Mo_63 hMo rfl ?_
            refine pe_icmpN_ge (tgt := 42) d_Mo_arrive_9 (by decide) (by omega) (by omega) (fun c_9 => ?_) (fun c_9 => ?_)
            · exact tail _ A9 X9 _ hMo hCd hSt hFm hFs hFl hFb hf
            · refine pe_iload_n d_Mo_arrive_12 rfl ?_
              refine pe_if_ge (tgt := 42) d_Mo_arrive_13 (by decide) (fun c_13 => ?_) (fun c_13 => ?_)
              · exact tail _ A9 X9 _ hMo hCd hSt hFm hFs hFl hFb hf
              · exact absurd (nI_nn (by omega)) c_13
  change pz_E l L xs M_Mo_arrive 2 0 0 0 [some (.ref 166), none, none, none, none] [] h z _
  refine pe_iconst (v := -1) d_Mo_arrive_0 (by decide) ?_
  refine pe_istore_n d_Mo_arrive_1 (by decide) rfl ?_
  dsimp only [List.set]
  refine pe_iconst (v := nI 0) d_Mo_arrive_2 (by decide) ?_
  refine pe_istore_n d_Mo_arrive_3 (by decide) rfl ?_
  dsimp only [List.set]
  exact loop (flt + 1) 0 sa sx _ (by omega) (by omega) (by rw [Nat.sub_zero]) hMo hCd hSt hFm hFs hFl hFb hf
set_option maxHeartbeats 4000000 in
set_option maxRecDepth 20000 in
theorem c_Mo_arrive_ok {l : Launch} {L : Nat} {xs : Nat → Int32} {h : pz_H} {z : Nat} {np nb now tkg lst flt byt : Nat} {sa sx : Int32} (hMo : MOB h np nb now tkg lst flt byt sa sx) (hnp : np ≤ 32) (hnb : nb ≤ 32) {Mcd : Nat → Int32} (hCd : AI h 179 768 Mcd) {Mst : Nat → Int32} (hSt : AI h 180 6 Mst) {Mfm : Nat → Int32} (hFm : AI h 181 16 Mfm) {Mfs : Nat → Nat} (hFs : AN h 182 6 Mfs) {Mfl : Nat → Nat} (hFl : AN h 183 24 Mfl) {Mfb : Nat → Int32} (hFb : AI h 184 384 Mfb) (hb16 : byt ≤ 16) {fb : Nat → Int32} (hfb : ∀ q, q < byt → Mfm q = fb q) (hfl : flt ≤ 6) {ao : Nat → Nat} (hao : ∀ j, j < flt → Mst j = nI (ao j) ∧ ao j < 6) {l2 : Nat → Nat} {c2 o2 : Nat → Nat → Int32} {cc yy nn : Nat → Nat → Nat} (hok : ∀ j, j < flt → FOK Mcd (ao j) (l2 (ao j)) (c2 (ao j)) (o2 (ao j)) (cc (ao j)) (yy (ao j)) (nn (ao j))) {b : Nat} (hb : b < 6) (hfa : fac (fun j => acA (c2 (ao j)) (o2 (ao j)) (yy (ao j)) (nn (ao j)) (l2 (ao j)) fb byt) ao flt 0 = some b) (h4 : Mfs b < 4) : pz_K l L xs M_Mo_arrive 2 0 0 [.ref 166] h z (fun v h' z' => v = some (.int (nI b)) ∧ z = z' ∧ (∃ A' X', MOB h' np nb now tkg lst flt 0 A' X') ∧ AN h' 182 6 (va_up Mfs b (Mfs b + 1)) ∧ AN h' 183 24 (va_up Mfl (b * 4 + Mfs b) byt) ∧ AI h' 184 384 (fil Mfb (fun j => Mfm (j - (b * 4 + Mfs b) * 16)) ((b * 4 + Mfs b) * 16) byt) ∧ frx [166, 182, 183, 184] h h') := by
  refine pz_K.of rfl (Nat.le_of_ble_eq_true rfl) ?_
  have hf : frx [166, 182, 183, 184] h h := frx.rf
  have loop3 : ∀ (n : Nat) (i : Nat) (A X : Int32) (k : pz_H), i ≤ byt → byt + 1 ≤ i + n → MOB k np nb now tkg lst flt 0 A X → AI k 179 768 Mcd → AI k 180 6 Mst → AI k 181 16 Mfm → AN k 182 6 Mfs → AN k 183 24 (va_up Mfl (b * 4 + Mfs b) byt) → AI k 184 384 (fil Mfb (fun j => Mfm (j - (b * 4 + Mfs b) * 16)) ((b * 4 + Mfs b) * 16) i) → frx [166, 182, 183, 184] h k → pz_E l L xs M_Mo_arrive 2 0 0 102 [some (.ref 166), some (.int (nI b)), some (.int (nI byt)), some (.int (nI (b * 4 + Mfs b))), some (.int (nI i))] [] k z (fun v h' z' => v = some (.int (nI b)) ∧ z = z' ∧ (∃ A' X', MOB h' np nb now tkg lst flt 0 A' X') ∧ AN h' 182 6 (va_up Mfs b (Mfs b + 1)) ∧ AN h' 183 24 (va_up Mfl (b * 4 + Mfs b) byt) ∧ AI h' 184 384 (fil Mfb (fun j => Mfm (j - (b * 4 + Mfs b) * 16)) ((b * 4 + Mfs b) * 16) byt) ∧ frx [166, 182, 183, 184] h h') := by
    intro n
    induction n with
    | zero => intros; omega
    | succ n ih =>
      intro i A X k hi hin hMo hCd hSt hFm hFs hFl hFb hf
      refine pe_iload d_Mo_arrive_102 rfl ?_
      refine pe_iload_n d_Mo_arrive_104 rfl ?_
      refine pe_icmpN_ge (tgt := 133) d_Mo_arrive_105 (by decide) (by omega) (by omega) (fun c_105 => ?_) (fun c_105 => ?_)
      · refine pe_aload_n d_Mo_arrive_133 rfl ?_
        refine pe_getf d_Mo_arrive_134 f_Mo_72 hMo rfl ?_
        refine pe_iload_n d_Mo_arrive_137 rfl ?_
        refine pe_dup2 d_Mo_arrive_138 rfl rfl ?_
        refine pe_ialdN d_Mo_arrive_139 hFs (by omega) (by omega) ?_
        refine pe_iconst (v := nI 1) d_Mo_arrive_140 (by decide) ?_
        refine pe_iaddN d_Mo_arrive_141 ?_
        refine pe_iastN d_Mo_arrive_142 hFs (by omega) (by omega) ?_
        rw [upn]
        refine pe_pu (fun h2 e2 o2 => ?_)
        have hMo := (o2 (166) (by omega)).trans hMo
        have hCd := (o2 (179) (by omega)).trans hCd
        have hSt := (o2 (180) (by omega)).trans hSt
        have hFm := (o2 (181) (by omega)).trans hFm
        have hFs := e2
        have hFl := (o2 (183) (by omega)).trans hFl
        have hFb := (o2 (184) (by omega)).trans hFb
        have hf := hf.st o2 (by decide)
        refine pe_iload_n d_Mo_arrive_143 rfl ?_
        refine pe_iret d_Mo_arrive_144 rfl ?_
        have e : i = byt := by omega
        rw [e] at hFb
        exact ⟨rfl, rfl, ⟨_, _, hMo⟩, hFs, hFl, hFb, hf⟩
      · refine pe_aload_n d_Mo_arrive_108 rfl ?_
        refine pe_getf d_Mo_arrive_109 f_Mo_78 hMo rfl ?_
        refine pe_iload_n d_Mo_arrive_112 rfl ?_
        refine pe_bipush (v := nI 16) d_Mo_arrive_113 (by decide) ?_
        refine pe_imulN d_Mo_arrive_115 ?_
        refine pe_iload d_Mo_arrive_116 rfl ?_
        refine pe_iaddN d_Mo_arrive_118 ?_
        refine pe_aload_n d_Mo_arrive_119 rfl ?_
        refine pe_getf d_Mo_arrive_120 f_Mo_69 hMo rfl ?_
        refine pe_iload d_Mo_arrive_123 rfl ?_
        refine pe_ialdN d_Mo_arrive_125 hFm (by omega) (by omega) ?_
        refine pe_iastN d_Mo_arrive_126 hFb (by omega) (by omega) ?_
        refine pe_pu (fun h2 e2 o2 => ?_)
        have hMo := (o2 (166) (by omega)).trans hMo
        have hCd := (o2 (179) (by omega)).trans hCd
        have hSt := (o2 (180) (by omega)).trans hSt
        have hFm := (o2 (181) (by omega)).trans hFm
        have hFs := (o2 (182) (by omega)).trans hFs
        have hFl := (o2 (183) (by omega)).trans hFl
        have hFb := e2
        have hf := hf.st o2 (by decide)
        refine pe_iincN d_Mo_arrive_127 rfl (by decide) rfl ?_
        dsimp only [List.set]
        refine pe_goto (tgt := 102) d_Mo_arrive_130 (by decide) ?_
        rw [show Mfm i = (fun j => Mfm (j - (b * 4 + Mfs b) * 16)) ((b * 4 + Mfs b) * 16 + i) from congrArg Mfm (by omega), fil_s] at hFb
        exact ih (i + 1) A X _ (by omega) (by omega) hMo hCd hSt hFm hFs hFl hFb hf
  have tail : ∀ (i9 : Nat) (A X : Int32) (k : pz_H), MOB k np nb now tkg lst flt byt A X → AI k 179 768 Mcd → AI k 180 6 Mst → AI k 181 16 Mfm → AN k 182 6 Mfs → AN k 183 24 Mfl → AI k 184 384 Mfb → frx [166, 182, 183, 184] h k → pz_E l L xs M_Mo_arrive 2 0 0 42 [some (.ref 166), some (.int (nI b)), some (.int (nI i9)), none, none] [] k z (fun v h' z' => v = some (.int (nI b)) ∧ z = z' ∧ (∃ A' X', MOB h' np nb now tkg lst flt 0 A' X') ∧ AN h' 182 6 (va_up Mfs b (Mfs b + 1)) ∧ AN h' 183 24 (va_up Mfl (b * 4 + Mfs b) byt) ∧ AI h' 184 384 (fil Mfb (fun j => Mfm (j - (b * 4 + Mfs b) * 16)) ((b * 4 + Mfs b) * 16) byt) ∧ frx [166, 182, 183, 184] h h') := by
    intro i9 A X k hMo hCd hSt hFm hFs hFl hFb hf
    refine pe_aload_n d_Mo_arrive_42 rfl ?_
    refine pe_getf d_Mo_arrive_43 f_Mo_66 hMo rfl ?_
    refine pe_istore_n d_Mo_arrive_46 (by decide) rfl ?_
    dsimp only [List.set]
    refine pe_aload_n d_Mo_arrive_47 rfl ?_
    refine pe_iconst (v := nI 0) d_Mo_arrive_48 (by decide) ?_
    refine pe_put d_Mo_arrive_49 g_Mo_66 hMo (Nat.le_of_ble_eq_true rfl) rfl ?_
    refine pe_pu (fun h2 e2 o2 => ?_)
    have hMo := e2
    have hCd := (o2 (179) (by omega)).trans hCd
    have hSt := (o2 (180) (by omega)).trans hSt
    have hFm := (o2 (181) (by omega)).trans hFm
    have hFs := (o2 (182) (by omega)).trans hFs
    have hFl := (o2 (183) (by omega)).trans hFl
    have hFb := (o2 (184) (by omega)).trans hFb
    have hf := hf.st o2 (by decide)
    refine pe_iload_n d_Mo_arrive_52 rfl ?_
    refine pe_if_ge (tgt := 58) d_Mo_arrive_53 (by decide) (fun c_53 => ?_) (fun c_53 => ?_)
    · refine pe_aload_n d_Mo_arrive_58 rfl ?_
      refine pe_getf d_Mo_arrive_59 f_Mo_72 hMo rfl ?_
      refine pe_iload_n d_Mo_arrive_62 rfl ?_
      refine pe_ialdN d_Mo_arrive_63 hFs (by omega) (by omega) ?_
      refine pe_iconst (v := nI 4) d_Mo_arrive_64 (by decide) ?_
      refine pe_icmpN_ne (tgt := 81) d_Mo_arrive_65 (by decide) (by omega) (by omega) (fun c_65 => ?_) (fun c_65 => ?_)
      · refine pe_iload_n d_Mo_arrive_81 rfl ?_
        refine pe_iconst (v := nI 4) d_Mo_arrive_82 (by decide) ?_
        refine pe_imulN d_Mo_arrive_83 ?_
        refine pe_aload_n d_Mo_arrive_84 rfl ?_
        refine pe_getf d_Mo_arrive_85 f_Mo_72 hMo rfl ?_
        refine pe_iload_n d_Mo_arrive_88 rfl ?_
        refine pe_ialdN d_Mo_arrive_89 hFs (by omega) (by omega) ?_
        refine pe_iaddN d_Mo_arrive_90 ?_
        refine pe_istore_n d_Mo_arrive_91 (by decide) rfl ?_
        dsimp only [List.set]
        refine pe_aload_n d_Mo_arrive_92 rfl ?_
        refine pe_getf d_Mo_arrive_93 f_Mo_75 hMo rfl ?_
        refine pe_iload_n d_Mo_arrive_96 rfl ?_
        refine pe_iload_n d_Mo_arrive_97 rfl ?_
        refine pe_iastN d_Mo_arrive_98 hFl (by omega) (by omega) ?_
        rw [upn]
        refine pe_pu (fun h2 e2 o2 => ?_)
        have hMo := (o2 (166) (by omega)).trans hMo
        have hCd := (o2 (179) (by omega)).trans hCd
        have hSt := (o2 (180) (by omega)).trans hSt
        have hFm := (o2 (181) (by omega)).trans hFm
        have hFs := (o2 (182) (by omega)).trans hFs
        have hFl := e2
        have hFb := (o2 (184) (by omega)).trans hFb
        have hf := hf.st o2 (by decide)
        refine pe_iconst (v := nI 0) d_Mo_arrive_99 (by decide) ?_
        refine pe_istore d_Mo_arrive_100 (by decide) rfl ?_
        dsimp only [List.set]
        exact loop3 (byt + 1) 0 A X _ (by omega) (by omega) hMo hCd hSt hFm hFs hFl (by rw [fil_0]; exact hFb) hf
      · exfalso; omega
    · exact absurd (nI_nn (by omega)) c_53
  have loop : ∀ (n : Nat) (i : Nat) (A X : Int32) (k : pz_H), i ≤ flt → flt + 1 ≤ i + n → ff (fun j => acA (c2 (ao j)) (o2 (ao j)) (yy (ao j)) (nn (ao j)) (l2 (ao j)) fb byt) (flt - i) i = ff (fun j => acA (c2 (ao j)) (o2 (ao j)) (yy (ao j)) (nn (ao j)) (l2 (ao j)) fb byt) flt 0 → MOB k np nb now tkg lst flt byt A X → AI k 179 768 Mcd → AI k 180 6 Mst → AI k 181 16 Mfm → AN k 182 6 Mfs → AN k 183 24 Mfl → AI k 184 384 Mfb → frx [166, 182, 183, 184] h k → pz_E l L xs M_Mo_arrive 2 0 0 4 [some (.ref 166), some (.int (-1)), some (.int (nI i)), none, none] [] k z (fun v h' z' => v = some (.int (nI b)) ∧ z = z' ∧ (∃ A' X', MOB h' np nb now tkg lst flt 0 A' X') ∧ AN h' 182 6 (va_up Mfs b (Mfs b + 1)) ∧ AN h' 183 24 (va_up Mfl (b * 4 + Mfs b) byt) ∧ AI h' 184 384 (fil Mfb (fun j => Mfm (j - (b * 4 + Mfs b) * 16)) ((b * 4 + Mfs b) * 16) byt) ∧ frx [166, 182, 183, 184] h h') := by
    intro n
    induction n with
    | zero => intros; omega
    | succ n ih =>
      intro i A X k hi9 hin he hMo hCd hSt hFm hFs hFl hFb hf
      refine pe_iload_n d_Mo_arrive_4 rfl ?_
      refine pe_aload_n d_Mo_arrive_5 rfl ?_
      refine pe_getf d_Mo_arrive_6 f_Mo_63 hMo rfl ?_
      refine pe_icmpN_ge (tgt := 42) d_Mo_arrive_9 (by decide) (by omega) (by omega) (fun c_9 => ?_) (fun c_9 => ?_)
      · exfalso; unfold fac at hfa; rw [Nat.sub_zero, ← he, ff_end (P := (fun j => acA (c2 (ao j)) (o2 (ao j)) (yy (ao j)) (nn (ao j)) (l2 (ao j)) fb byt)) (by omega), if_neg (by omega)] at hfa; cases hfa
      · have hi : i < flt := by omega
        refine pe_iload_n d_Mo_arrive_12 rfl ?_
        refine pe_if_ge (tgt := 42) d_Mo_arrive_13 (by decide) (fun c_13 => ?_) (fun c_13 => ?_)
        · exact absurd c_13 (by decide)
        · refine pe_aload_n d_Mo_arrive_16 rfl ?_
          refine pe_aload_n d_Mo_arrive_17 rfl ?_
          refine pe_getf d_Mo_arrive_18 f_Mo_60 hMo rfl ?_
          refine pe_iload_n d_Mo_arrive_21 rfl ?_
          refine pe_ialdN d_Mo_arrive_22 hSt (by omega) (by omega) ?_
          refine pe_top (y := .int (nI (ao i))) (by rw [(hao i hi).1]) ?_
          -- 23: Mo_accepts
          refine pe_callV d_Mo_arrive_23 m_Mo_145 j_Mo_accepts v_Mo_accepts (c_Mo_accepts hMo hnp hnb hCd hFm (hao i hi).2 hb16 hfb (hok i hi).1 (hok i hi).2.1 (hok i hi).2.2.1 (hok i hi).2.2.2.1 (hok i hi).2.2.2.2.1 (hok i hi).2.2.2.2.2.1 (hok i hi).2.2.2.2.2.2) rfl rfl (by simp [Value.category]) (by decide) hMo rfl rfl ?_
          intro v1 h1 z1 hq1
          obtain ⟨rfl, rfl, ⟨A9, X9, hMo⟩, hf1⟩ := hq1
          have hCd := (hf1 179 (by decide)).trans hCd
          have hSt := (hf1 180 (by decide)).trans hSt
          have hFm := (hf1 181 (by decide)).trans hFm
          have hFs := (hf1 182 (by decide)).trans hFs
          have hFl := (hf1 183 (by decide)).trans hFl
          have hFb := (hf1 184 (by decide)).trans hFb
          have hf := hf.tr (hf1.wd (by decide))
          change pz_E _ _ _ _ _ _ _ _ _ (_ :: _) _ _ _
          refine pe_if_eq (tgt := 36) d_Mo_arrive_26 (by decide) (fun c_26 => ?_) (fun c_26 => ?_)
          · have c_26 := pb_0.mp c_26
            refine pe_iincN d_Mo_arrive_36 rfl (by decide) rfl ?_
            dsimp only [List.set]
            refine pe_goto (tgt := 4) d_Mo_arrive_39 (by decide) ?_
            exact ih (i + 1) A9 X9 _ (by omega) (by omega) ((ff_no (P := (fun j => acA (c2 (ao j)) (o2 (ao j)) (yy (ao j)) (nn (ao j)) (l2 (ao j)) fb byt)) hi (by rw [c_26]; decide)).symm.trans he) hMo hCd hSt hFm hFs hFl hFb hf
          · have c_26 := pb_n0.mp c_26
            refine pe_aload_n d_Mo_arrive_29 rfl ?_
            refine pe_getf d_Mo_arrive_30 f_Mo_60 hMo rfl ?_
            refine pe_iload_n d_Mo_arrive_33 rfl ?_
            refine pe_ialdN d_Mo_arrive_34 hSt (by omega) (by omega) ?_
            refine pe_top (y := .int (nI (ao i))) (by rw [(hao i hi).1]) ?_
            refine pe_istore_n d_Mo_arrive_35 (by decide) rfl ?_
            dsimp only [List.set]
            refine pe_iincN d_Mo_arrive_36 rfl (by decide) rfl ?_
            dsimp only [List.set]
            refine pe_goto (tgt := 4) d_Mo_arrive_39 (by decide) ?_
            have hbe : ao i = b := by unfold fac at hfa; rw [Nat.sub_zero, ← he, ff_yes (P := (fun j => acA (c2 (ao j)) (o2 (ao j)) (yy (ao j)) (nn (ao j)) (l2 (ao j)) fb byt)) hi c_26, if_pos hi] at hfa; exact Option.some.inj hfa
            rw [hbe]
            refine pe_iload_n d_Mo_arrive_4 rfl ?_
            refine pe_aload_n d_Mo_arrive_5 rfl ?_
            refine pe_getf d_Mo_arrive_6 f_Mo_63 hMo rfl ?_
            refine pe_icmpN_ge (tgt := 42) d_Mo_arrive_9 (by decide) (by omega) (by omega) (fun c_9 => ?_) (fun c_9 => ?_)
            · exact tail _ A9 X9 _ hMo hCd hSt hFm hFs hFl hFb hf
            · refine pe_iload_n d_Mo_arrive_12 rfl ?_
              refine pe_if_ge (tgt := 42) d_Mo_arrive_13 (by decide) (fun c_13 => ?_) (fun c_13 => ?_)
              · exact tail _ A9 X9 _ hMo hCd hSt hFm hFs hFl hFb hf
              · exact absurd (nI_nn (by omega)) c_13
  change pz_E l L xs M_Mo_arrive 2 0 0 0 [some (.ref 166), none, none, none, none] [] h z _
  refine pe_iconst (v := -1) d_Mo_arrive_0 (by decide) ?_
  refine pe_istore_n d_Mo_arrive_1 (by decide) rfl ?_
  dsimp only [List.set]
  refine pe_iconst (v := nI 0) d_Mo_arrive_2 (by decide) ?_
  refine pe_istore_n d_Mo_arrive_3 (by decide) rfl ?_
  dsimp only [List.set]
  exact loop (flt + 1) 0 sa sx _ (by omega) (by omega) (by rw [Nat.sub_zero]) hMo hCd hSt hFm hFs hFl hFb hf
set_option maxHeartbeats 4000000 in
set_option maxRecDepth 20000 in
theorem c_Mo_holder_0 {l : Launch} {L : Nat} {xs : Nat → Int32} {h : pz_H} {z : Nat} {np nb now tkg lst flt byt : Nat} {sa sx : Int32} (hMo : MOB h np nb now tkg lst flt byt sa sx) (hnp : np ≤ 32) (hnb : nb ≤ 32) {Mow : Nat → Int32} (hOw : AI h 171 32 Mow) {Mgo : Nat → Int32} (hGo : AI h 176 48 Mgo) {Mgm : Nat → Nat} (hGm : AN h 177 6 Mgm) {Mho : Nat → Int32} (hHo : AI h 185 32 Mho) (x y : Int32) (hx : x = 0) : pz_K l L xs M_Mo_holder 1 0 0 [.ref 166, .int x, .int y] h z (fun v h' z' => v = some (.int (if inn y np = true then Mow y.toNatClampNeg else -1)) ∧ h = h' ∧ z = z') := by
  refine pz_K.of rfl (Nat.le_of_ble_eq_true rfl) ?_
  change pz_E l L xs M_Mo_holder 1 0 0 0 [some (.ref 166), some (.int x), some (.int y)] [] h z _
  refine pe_iload_n d_Mo_holder_0 rfl ?_
  refine pe_if_ne (tgt := 27) d_Mo_holder_1 (by decide) (fun c_1 => ?_) (fun c_1 => ?_)
  · exact absurd hx c_1
  · refine pe_aload_n d_Mo_holder_4 rfl ?_
    refine pe_iload_n d_Mo_holder_5 rfl ?_
    refine pe_aload_n d_Mo_holder_6 rfl ?_
    refine pe_getf d_Mo_holder_7 f_Mo_105 hMo rfl ?_
    -- 10: Mo_out
    refine pe_callV d_Mo_holder_10 m_Mo_111 j_Mo_out v_Mo_out (c_Mo_out hMo hnp hnb _ _) rfl rfl (by simp [Value.category]) (by decide) hMo rfl rfl ?_
    intro v1 h1 z1 hq1
    obtain ⟨rfl, rfl, rfl⟩ := hq1
    change pz_E _ _ _ _ _ _ _ _ _ (_ :: _) _ _ _
    refine pe_if_eq (tgt := 20) d_Mo_holder_13 (by decide) (fun c_13 => ?_) (fun c_13 => ?_)
    · have c_13 := pb_0.mp c_13
      obtain ⟨q, hq, rfl⟩ := inn_N (n := np) (by omega) (ot_f c_13)
      refine pe_aload_n d_Mo_holder_20 rfl ?_
      refine pe_getf d_Mo_holder_21 f_Mo_33 hMo rfl ?_
      refine pe_iload_n d_Mo_holder_24 rfl ?_
      refine pe_ialdN d_Mo_holder_25 hOw (by omega) (by omega) ?_
      refine pe_iret d_Mo_holder_26 rfl ?_
      exact ⟨by rw [if_pos (ot_f c_13), nI_clamp (by omega)], rfl, rfl⟩
    · have c_13 := pb_n0.mp c_13
      refine pe_iconst (v := -1) d_Mo_holder_16 (by decide) ?_
      refine pe_goto (tgt := 26) d_Mo_holder_17 (by decide) ?_
      refine pe_iret d_Mo_holder_26 rfl ?_
      exact ⟨by rw [if_neg (by rw [ot_t c_13]; decide)], rfl, rfl⟩
set_option maxHeartbeats 4000000 in
set_option maxRecDepth 20000 in
theorem c_Mo_holder_1 {l : Launch} {L : Nat} {xs : Nat → Int32} {h : pz_H} {z : Nat} {np nb now tkg lst flt byt : Nat} {sa sx : Int32} (hMo : MOB h np nb now tkg lst flt byt sa sx) (hnp : np ≤ 32) (hnb : nb ≤ 32) {Mow : Nat → Int32} (hOw : AI h 171 32 Mow) {Mgo : Nat → Int32} (hGo : AI h 176 48 Mgo) {Mgm : Nat → Nat} (hGm : AN h 177 6 Mgm) {Mho : Nat → Int32} (hHo : AI h 185 32 Mho) (x y : Int32) (hx : x = nI 1) : pz_K l L xs M_Mo_holder 1 0 0 [.ref 166, .int x, .int y] h z (fun v h' z' => v = some (.int (if inn y nb = true then Mho y.toNatClampNeg else -1)) ∧ h = h' ∧ z = z') := by
  refine pz_K.of rfl (Nat.le_of_ble_eq_true rfl) ?_
  change pz_E l L xs M_Mo_holder 1 0 0 0 [some (.ref 166), some (.int x), some (.int y)] [] h z _
  refine pe_iload_n d_Mo_holder_0 rfl ?_
  refine pe_if_ne (tgt := 27) d_Mo_holder_1 (by decide) (fun c_1 => ?_) (fun c_1 => ?_)
  · refine pe_iload_n d_Mo_holder_27 rfl ?_
    refine pe_iconst (v := nI 1) d_Mo_holder_28 (by decide) ?_
    refine pe_icmp_ne (tgt := 55) d_Mo_holder_29 (by decide) (fun c_29 => ?_) (fun c_29 => ?_)
    · exact absurd hx c_29
    · refine pe_aload_n d_Mo_holder_32 rfl ?_
      refine pe_iload_n d_Mo_holder_33 rfl ?_
      refine pe_aload_n d_Mo_holder_34 rfl ?_
      refine pe_getf d_Mo_holder_35 f_Mo_108 hMo rfl ?_
      -- 38: Mo_out
      refine pe_callV d_Mo_holder_38 m_Mo_111 j_Mo_out v_Mo_out (c_Mo_out hMo hnp hnb _ _) rfl rfl (by simp [Value.category]) (by decide) hMo rfl rfl ?_
      intro v1 h1 z1 hq1
      obtain ⟨rfl, rfl, rfl⟩ := hq1
      change pz_E _ _ _ _ _ _ _ _ _ (_ :: _) _ _ _
      refine pe_if_eq (tgt := 48) d_Mo_holder_41 (by decide) (fun c_41 => ?_) (fun c_41 => ?_)
      · have c_41 := pb_0.mp c_41
        obtain ⟨q, hq, rfl⟩ := inn_N (n := nb) (by omega) (ot_f c_41)
        refine pe_aload_n d_Mo_holder_48 rfl ?_
        refine pe_getf d_Mo_holder_49 f_Mo_87 hMo rfl ?_
        refine pe_iload_n d_Mo_holder_52 rfl ?_
        refine pe_ialdN d_Mo_holder_53 hHo (by omega) (by omega) ?_
        refine pe_iret d_Mo_holder_54 rfl ?_
        exact ⟨by rw [if_pos (ot_f c_41), nI_clamp (by omega)], rfl, rfl⟩
      · have c_41 := pb_n0.mp c_41
        refine pe_iconst (v := -1) d_Mo_holder_44 (by decide) ?_
        refine pe_goto (tgt := 54) d_Mo_holder_45 (by decide) ?_
        refine pe_iret d_Mo_holder_54 rfl ?_
        exact ⟨by rw [if_neg (by rw [ot_t c_41]; decide)], rfl, rfl⟩
  · exact absurd (hx.symm.trans c_1) (by decide)
theorem rng27 {x : Int32} (h : inn x 8 = true) (h0 : ¬ x = 0) (h1 : ¬ x = nI 1) : rng x (nI 2) (nI 7) = true := by
  obtain ⟨q, hq, rfl⟩ := inn_N (by omega) h
  have a1 : q ≠ 0 := fun e => h0 (by rw [e]; rfl)
  have a2 : q ≠ 1 := fun e => h1 (by rw [e])
  exact rng_y (by omega) (by omega) (by omega)
set_option maxHeartbeats 4000000 in
set_option maxRecDepth 20000 in
theorem c_Mo_holder_no {l : Launch} {L : Nat} {xs : Nat → Int32} {h : pz_H} {z : Nat} {np nb now tkg lst flt byt : Nat} {sa sx : Int32} (hMo : MOB h np nb now tkg lst flt byt sa sx) (hnp : np ≤ 32) (hnb : nb ≤ 32) {Mow : Nat → Int32} (hOw : AI h 171 32 Mow) {Mgo : Nat → Int32} (hGo : AI h 176 48 Mgo) {Mgm : Nat → Nat} (hGm : AN h 177 6 Mgm) {Mho : Nat → Int32} (hHo : AI h 185 32 Mho) (x y : Int32) (hx0 : ¬ x = 0) (hx1 : ¬ x = nI 1) (hno : rng x (nI 2) (nI 7) = false) : pz_K l L xs M_Mo_holder 1 0 0 [.ref 166, .int x, .int y] h z (fun v h' z' => v = some (.int (-1)) ∧ h = h' ∧ z = z') := by
  refine pz_K.of rfl (Nat.le_of_ble_eq_true rfl) ?_
  change pz_E l L xs M_Mo_holder 1 0 0 0 [some (.ref 166), some (.int x), some (.int y)] [] h z _
  refine pe_iload_n d_Mo_holder_0 rfl ?_
  refine pe_if_ne (tgt := 27) d_Mo_holder_1 (by decide) (fun c_1 => ?_) (fun c_1 => ?_)
  · refine pe_iload_n d_Mo_holder_27 rfl ?_
    refine pe_iconst (v := nI 1) d_Mo_holder_28 (by decide) ?_
    refine pe_icmp_ne (tgt := 55) d_Mo_holder_29 (by decide) (fun c_29 => ?_) (fun c_29 => ?_)
    · refine pe_aload_n d_Mo_holder_55 rfl ?_
      refine pe_iload_n d_Mo_holder_56 rfl ?_
      refine pe_bipush (v := nI 8) d_Mo_holder_57 (by decide) ?_
      -- 59: Mo_out
      refine pe_callV d_Mo_holder_59 m_Mo_111 j_Mo_out v_Mo_out (c_Mo_out hMo hnp hnb _ _) rfl rfl (by simp [Value.category]) (by decide) hMo rfl rfl ?_
      intro v1 h1 z1 hq1
      obtain ⟨rfl, rfl, rfl⟩ := hq1
      change pz_E _ _ _ _ _ _ _ _ _ (_ :: _) _ _ _
      refine pe_if_ne (tgt := 87) d_Mo_holder_62 (by decide) (fun c_62 => ?_) (fun c_62 => ?_)
      · have c_62 := pb_n0.mp c_62
        refine pe_iconst (v := -1) d_Mo_holder_87 (by decide) ?_
        refine pe_iret d_Mo_holder_88 rfl ?_
        exact ⟨rfl, rfl, rfl⟩
      · have c_62 := pb_0.mp c_62
        exact absurd (rng27 (ot_f c_62) hx0 hx1) (by rw [hno]; decide)
    · exact absurd c_29 hx1
  · exact absurd c_1 hx0
set_option maxHeartbeats 4000000 in
set_option maxRecDepth 20000 in
theorem c_Mo_holder_app {l : Launch} {L : Nat} {xs : Nat → Int32} {h : pz_H} {z : Nat} {np nb now tkg lst flt byt : Nat} {sa sx : Int32} (hMo : MOB h np nb now tkg lst flt byt sa sx) (hnp : np ≤ 32) (hnb : nb ≤ 32) {Mow : Nat → Int32} (hOw : AI h 171 32 Mow) {Mgo : Nat → Int32} (hGo : AI h 176 48 Mgo) {Mgm : Nat → Nat} (hGm : AN h 177 6 Mgm) {Mho : Nat → Int32} (hHo : AI h 185 32 Mho) {a : Nat} (ha : a < 6) (hgm : Mgm a ≤ 8) (y : Int32) : pz_K l L xs M_Mo_holder 1 0 0 [.ref 166, .int (nI (a + 2)), .int y] h z (fun v h' z' => v = some (.int (if inn y (Mgm a) = true then Mgo (a * 8 + y.toNatClampNeg) else -1)) ∧ h = h' ∧ z = z') := by
  refine pz_K.of rfl (Nat.le_of_ble_eq_true rfl) ?_
  change pz_E l L xs M_Mo_holder 1 0 0 0 [some (.ref 166), some (.int (nI (a + 2))), some (.int y)] [] h z _
  refine pe_iload_n d_Mo_holder_0 rfl ?_
  refine pe_if_ne (tgt := 27) d_Mo_holder_1 (by decide) (fun c_1 => ?_) (fun c_1 => ?_)
  · refine pe_iload_n d_Mo_holder_27 rfl ?_
    refine pe_iconst (v := nI 1) d_Mo_holder_28 (by decide) ?_
    refine pe_icmpN_ne (tgt := 55) d_Mo_holder_29 (by decide) (by omega) (by omega) (fun c_29 => ?_) (fun c_29 => ?_)
    · refine pe_aload_n d_Mo_holder_55 rfl ?_
      refine pe_iload_n d_Mo_holder_56 rfl ?_
      refine pe_bipush (v := nI 8) d_Mo_holder_57 (by decide) ?_
      -- 59: Mo_out
      refine pe_callV d_Mo_holder_59 m_Mo_111 j_Mo_out v_Mo_out (c_Mo_out hMo hnp hnb _ _) rfl rfl (by simp [Value.category]) (by decide) hMo rfl rfl ?_
      intro v1 h1 z1 hq1
      obtain ⟨rfl, rfl, rfl⟩ := hq1
      change pz_E _ _ _ _ _ _ _ _ _ (_ :: _) _ _ _
      refine pe_if_ne (tgt := 87) d_Mo_holder_62 (by decide) (fun c_62 => ?_) (fun c_62 => ?_)
      · have c_62 := pb_n0.mp c_62
        exact absurd c_62 (by rw [ot_n (by omega) (by omega)]; decide)
      · have c_62 := pb_0.mp c_62
        refine pe_aload_n d_Mo_holder_65 rfl ?_
        refine pe_iload_n d_Mo_holder_66 rfl ?_
        refine pe_bipush (v := nI 8) d_Mo_holder_67 (by decide) ?_
        -- 69: Mo_out
        refine pe_callV d_Mo_holder_69 m_Mo_111 j_Mo_out v_Mo_out (c_Mo_out hMo hnp hnb _ _) rfl rfl (by simp [Value.category]) (by decide) hMo rfl rfl ?_
        intro v1 h1 z1 hq1
        obtain ⟨rfl, rfl, rfl⟩ := hq1
        change pz_E _ _ _ _ _ _ _ _ _ (_ :: _) _ _ _
        refine pe_if_ne (tgt := 87) d_Mo_holder_72 (by decide) (fun c_72 => ?_) (fun c_72 => ?_)
        · have c_72 := pb_n0.mp c_72
          refine pe_iconst (v := -1) d_Mo_holder_87 (by decide) ?_
          refine pe_iret d_Mo_holder_88 rfl ?_
          exact ⟨by rw [if_neg (fun q9 => by obtain ⟨q, hq, rfl⟩ := inn_N (n := Mgm a) (by omega) q9; rw [ot_n (by omega) (by omega)] at c_72; cases c_72)], rfl, rfl⟩
        · have c_72 := pb_0.mp c_72
          obtain ⟨q, hq, rfl⟩ := inn_N (n := 8) (by omega) (ot_f c_72)
          refine pe_iload_n d_Mo_holder_75 rfl ?_
          refine pe_aload_n d_Mo_holder_76 rfl ?_
          refine pe_getf d_Mo_holder_77 f_Mo_51 hMo rfl ?_
          refine pe_iload_n d_Mo_holder_80 rfl ?_
          refine pe_iconst (v := nI 2) d_Mo_holder_81 (by decide) ?_
          refine pe_isubN d_Mo_holder_82 (by omega) ?_
          refine pe_top (y := .int (nI a)) (by rw [show a + 2 - 2 = a by omega]) ?_
          refine pe_ialdN d_Mo_holder_83 hGm (by omega) (by omega) ?_
          refine pe_icmpN_lt (tgt := 89) d_Mo_holder_84 (by decide) (by omega) (by omega) (fun c_84 => ?_) (fun c_84 => ?_)
          · refine pe_aload_n d_Mo_holder_89 rfl ?_
            refine pe_getf d_Mo_holder_90 f_Mo_48 hMo rfl ?_
            refine pe_iload_n d_Mo_holder_93 rfl ?_
            refine pe_iconst (v := nI 2) d_Mo_holder_94 (by decide) ?_
            refine pe_isubN d_Mo_holder_95 (by omega) ?_
            refine pe_top (y := .int (nI a)) (by rw [show a + 2 - 2 = a by omega]) ?_
            refine pe_bipush (v := nI 8) d_Mo_holder_96 (by decide) ?_
            refine pe_imulN d_Mo_holder_98 ?_
            refine pe_iload_n d_Mo_holder_99 rfl ?_
            refine pe_iaddN d_Mo_holder_100 ?_
            refine pe_ialdN d_Mo_holder_101 hGo (by omega) (by omega) ?_
            refine pe_iret d_Mo_holder_102 rfl ?_
            exact ⟨by rw [if_pos (inn_y (by omega) c_84), nI_clamp (by omega)], rfl, rfl⟩
          · refine pe_iconst (v := -1) d_Mo_holder_87 (by decide) ?_
            refine pe_iret d_Mo_holder_88 rfl ?_
            exact ⟨by rw [if_neg (fun q9 => by obtain ⟨q2, hq2, e⟩ := inn_N (n := Mgm a) (by omega) q9; exact c_84 (by rw [nI_inj (by omega) (by omega) e]; exact hq2))], rfl, rfl⟩
    · exfalso; omega
  · exact absurd (nI_inj (a := a + 2) (b := 0) (by omega) (by omega) c_1) (by omega)
set_option maxHeartbeats 4000000 in
set_option maxRecDepth 20000 in
theorem c_Mo_count_0 {l : Launch} {L : Nat} {xs : Nat → Int32} {h : pz_H} {z : Nat} {np nb now tkg lst flt byt : Nat} {sa sx : Int32} (hMo : MOB h np nb now tkg lst flt byt sa sx) (hnp : np ≤ 32) (hnb : nb ≤ 32) {Mop : Nat → Bool} (hOp : AB h 167 6 Mop) {Mmp : Nat → Bool} (hIm : AB h 168 6 Mmp) {Mow : Nat → Int32} (hOw : AI h 171 32 Mow) {Mdl : Nat → Int32} (hDl : AI h 173 32 Mdl) {Mst : Nat → Int32} (hSt : AI h 180 6 Mst) {Mfs : Nat → Nat} (hFs : AN h 182 6 Mfs) {Mho : Nat → Int32} (hHo : AI h 185 32 Mho) {Men : Nat → Nat} (hEn : AN h 188 6 Men) (y : Int32) : pz_K l L xs M_Mo_count 1 0 0 [.ref 166, .int (nI 0), .int y] h z (fun v h' z' => v = some (.int (nI (cnt (fun j => decide (Mow j = -1) && (!false || decide (0 < Mdl j))) np 0))) ∧ h = h' ∧ z = z') := by
  refine pz_K.of rfl (Nat.le_of_ble_eq_true rfl) ?_
  change pz_E l L xs M_Mo_count 1 0 0 0 [some (.ref 166), some (.int (nI 0)), some (.int y), none] [] h z _
  refine pe_aload_n d_Mo_count_0 rfl ?_
  refine pe_iload_n d_Mo_count_1 rfl ?_
  refine pe_bipush (v := nI 9) d_Mo_count_2 (by decide) ?_
  -- 4: Mo_out
  refine pe_callV d_Mo_count_4 m_Mo_111 j_Mo_out v_Mo_out (c_Mo_out hMo hnp hnb _ _) rfl rfl (by simp [Value.category]) (by decide) hMo rfl rfl ?_
  intro v1 h1 z1 hq1
  obtain ⟨rfl, rfl, rfl⟩ := hq1
  change pz_E _ _ _ _ _ _ _ _ _ (_ :: _) _ _ _
  refine pe_if_ne (tgt := 25) d_Mo_count_7 (by decide) (fun c_7 => ?_) (fun c_7 => ?_)
  · have c_7 := pb_n0.mp c_7
    exact absurd c_7 (by rw [ot_n (by omega) (show 0 < 9 by omega)]; decide)
  · have c_7 := pb_0.mp c_7
    refine pe_iload_n d_Mo_count_10 rfl ?_
    refine pe_iconst (v := nI 2) d_Mo_count_11 (by decide) ?_
    refine pe_icmpN_le (tgt := 27) d_Mo_count_12 (by decide) (by omega) (by omega) (fun c_12 => ?_) (fun c_12 => ?_)
    · refine pe_iload_n d_Mo_count_27 rfl ?_
      refine pe_if_ne (tgt := 38) d_Mo_count_28 (by decide) (fun c_28 => ?_) (fun c_28 => ?_)
      · first | (exfalso; omega) | exact absurd c_28 (by decide) | exact absurd (by decide) c_28
      · refine pe_aload_n d_Mo_count_31 rfl ?_
        refine pe_iconst (v := -1) d_Mo_count_32 (by decide) ?_
        refine pe_iconst (v := nI 0) d_Mo_count_33 (by decide) ?_
        refine pe_top (y := .int (pb false)) (by decide) ?_
        -- 34: Mo_pagesOf
        refine pe_callV d_Mo_count_34 m_Mo_155 j_Mo_pagesOf v_Mo_pagesOf (c_Mo_pagesOf hMo hnp hnb hOw hDl _ false) rfl rfl (by simp [Value.category]) (by decide) hMo rfl rfl ?_
        intro v1 h1 z1 hq1
        obtain ⟨rfl, rfl, rfl⟩ := hq1
        rw [Nat.sub_zero]
        change pz_E _ _ _ _ _ _ _ _ _ (_ :: _) _ _ _
        refine pe_iret d_Mo_count_37 rfl ?_
        exact ⟨rfl, rfl, rfl⟩
    · first | (exfalso; omega) | exact absurd c_12 (by decide) | exact absurd (by decide) c_12
set_option maxHeartbeats 4000000 in
set_option maxRecDepth 20000 in
theorem c_Mo_count_1 {l : Launch} {L : Nat} {xs : Nat → Int32} {h : pz_H} {z : Nat} {np nb now tkg lst flt byt : Nat} {sa sx : Int32} (hMo : MOB h np nb now tkg lst flt byt sa sx) (hnp : np ≤ 32) (hnb : nb ≤ 32) {Mop : Nat → Bool} (hOp : AB h 167 6 Mop) {Mmp : Nat → Bool} (hIm : AB h 168 6 Mmp) {Mow : Nat → Int32} (hOw : AI h 171 32 Mow) {Mdl : Nat → Int32} (hDl : AI h 173 32 Mdl) {Mst : Nat → Int32} (hSt : AI h 180 6 Mst) {Mfs : Nat → Nat} (hFs : AN h 182 6 Mfs) {Mho : Nat → Int32} (hHo : AI h 185 32 Mho) {Men : Nat → Nat} (hEn : AN h 188 6 Men) (y : Int32) : pz_K l L xs M_Mo_count 1 0 0 [.ref 166, .int (nI 1), .int y] h z (fun v h' z' => v = some (.int (nI (cnt (fun j => decide (Mho j = -1)) nb 0))) ∧ h = h' ∧ z = z') := by
  refine pz_K.of rfl (Nat.le_of_ble_eq_true rfl) ?_
  change pz_E l L xs M_Mo_count 1 0 0 0 [some (.ref 166), some (.int (nI 1)), some (.int y), none] [] h z _
  refine pe_aload_n d_Mo_count_0 rfl ?_
  refine pe_iload_n d_Mo_count_1 rfl ?_
  refine pe_bipush (v := nI 9) d_Mo_count_2 (by decide) ?_
  -- 4: Mo_out
  refine pe_callV d_Mo_count_4 m_Mo_111 j_Mo_out v_Mo_out (c_Mo_out hMo hnp hnb _ _) rfl rfl (by simp [Value.category]) (by decide) hMo rfl rfl ?_
  intro v1 h1 z1 hq1
  obtain ⟨rfl, rfl, rfl⟩ := hq1
  change pz_E _ _ _ _ _ _ _ _ _ (_ :: _) _ _ _
  refine pe_if_ne (tgt := 25) d_Mo_count_7 (by decide) (fun c_7 => ?_) (fun c_7 => ?_)
  · have c_7 := pb_n0.mp c_7
    exact absurd c_7 (by rw [ot_n (by omega) (show 1 < 9 by omega)]; decide)
  · have c_7 := pb_0.mp c_7
    refine pe_iload_n d_Mo_count_10 rfl ?_
    refine pe_iconst (v := nI 2) d_Mo_count_11 (by decide) ?_
    refine pe_icmpN_le (tgt := 27) d_Mo_count_12 (by decide) (by omega) (by omega) (fun c_12 => ?_) (fun c_12 => ?_)
    · refine pe_iload_n d_Mo_count_27 rfl ?_
      refine pe_if_ne (tgt := 38) d_Mo_count_28 (by decide) (fun c_28 => ?_) (fun c_28 => ?_)
      · refine pe_iload_n d_Mo_count_38 rfl ?_
        refine pe_iconst (v := nI 1) d_Mo_count_39 (by decide) ?_
        refine pe_icmpN_ne (tgt := 49) d_Mo_count_40 (by decide) (by omega) (by omega) (fun c_40 => ?_) (fun c_40 => ?_)
        · first | (exfalso; omega) | exact absurd c_40 (by decide) | exact absurd (by decide) c_40
        · refine pe_aload_n d_Mo_count_43 rfl ?_
          refine pe_iconst (v := -1) d_Mo_count_44 (by decide) ?_
          -- 45: Mo_blocksOf
          refine pe_callV d_Mo_count_45 m_Mo_159 j_Mo_blocksOf v_Mo_blocksOf (c_Mo_blocksOf hMo hnp hnb hHo _) rfl rfl (by simp [Value.category]) (by decide) hMo rfl rfl ?_
          intro v1 h1 z1 hq1
          obtain ⟨rfl, rfl, rfl⟩ := hq1
          rw [Nat.sub_zero]
          change pz_E _ _ _ _ _ _ _ _ _ (_ :: _) _ _ _
          refine pe_iret d_Mo_count_48 rfl ?_
          exact ⟨rfl, rfl, rfl⟩
      · first | (exfalso; omega) | exact absurd c_28 (by decide) | exact absurd (by decide) c_28
    · first | (exfalso; omega) | exact absurd c_12 (by decide) | exact absurd (by decide) c_12
set_option maxHeartbeats 4000000 in
set_option maxRecDepth 20000 in
theorem c_Mo_count_2 {l : Launch} {L : Nat} {xs : Nat → Int32} {h : pz_H} {z : Nat} {np nb now tkg lst flt byt : Nat} {sa sx : Int32} (hMo : MOB h np nb now tkg lst flt byt sa sx) (hnp : np ≤ 32) (hnb : nb ≤ 32) {Mop : Nat → Bool} (hOp : AB h 167 6 Mop) {Mmp : Nat → Bool} (hIm : AB h 168 6 Mmp) {Mow : Nat → Int32} (hOw : AI h 171 32 Mow) {Mdl : Nat → Int32} (hDl : AI h 173 32 Mdl) {Mst : Nat → Int32} (hSt : AI h 180 6 Mst) {Mfs : Nat → Nat} (hFs : AN h 182 6 Mfs) {Mho : Nat → Int32} (hHo : AI h 185 32 Mho) {Men : Nat → Nat} (hEn : AN h 188 6 Men) (y : Int32) : pz_K l L xs M_Mo_count 1 0 0 [.ref 166, .int (nI 2), .int y] h z (fun v h' z' => v = some (.int (nI lst)) ∧ h = h' ∧ z = z') := by
  refine pz_K.of rfl (Nat.le_of_ble_eq_true rfl) ?_
  change pz_E l L xs M_Mo_count 1 0 0 0 [some (.ref 166), some (.int (nI 2)), some (.int y), none] [] h z _
  refine pe_aload_n d_Mo_count_0 rfl ?_
  refine pe_iload_n d_Mo_count_1 rfl ?_
  refine pe_bipush (v := nI 9) d_Mo_count_2 (by decide) ?_
  -- 4: Mo_out
  refine pe_callV d_Mo_count_4 m_Mo_111 j_Mo_out v_Mo_out (c_Mo_out hMo hnp hnb _ _) rfl rfl (by simp [Value.category]) (by decide) hMo rfl rfl ?_
  intro v1 h1 z1 hq1
  obtain ⟨rfl, rfl, rfl⟩ := hq1
  change pz_E _ _ _ _ _ _ _ _ _ (_ :: _) _ _ _
  refine pe_if_ne (tgt := 25) d_Mo_count_7 (by decide) (fun c_7 => ?_) (fun c_7 => ?_)
  · have c_7 := pb_n0.mp c_7
    exact absurd c_7 (by rw [ot_n (by omega) (show 2 < 9 by omega)]; decide)
  · have c_7 := pb_0.mp c_7
    refine pe_iload_n d_Mo_count_10 rfl ?_
    refine pe_iconst (v := nI 2) d_Mo_count_11 (by decide) ?_
    refine pe_icmpN_le (tgt := 27) d_Mo_count_12 (by decide) (by omega) (by omega) (fun c_12 => ?_) (fun c_12 => ?_)
    · refine pe_iload_n d_Mo_count_27 rfl ?_
      refine pe_if_ne (tgt := 38) d_Mo_count_28 (by decide) (fun c_28 => ?_) (fun c_28 => ?_)
      · refine pe_iload_n d_Mo_count_38 rfl ?_
        refine pe_iconst (v := nI 1) d_Mo_count_39 (by decide) ?_
        refine pe_icmpN_ne (tgt := 49) d_Mo_count_40 (by decide) (by omega) (by omega) (fun c_40 => ?_) (fun c_40 => ?_)
        · refine pe_iload_n d_Mo_count_49 rfl ?_
          refine pe_iconst (v := nI 2) d_Mo_count_50 (by decide) ?_
          refine pe_icmpN_ne (tgt := 59) d_Mo_count_51 (by decide) (by omega) (by omega) (fun c_51 => ?_) (fun c_51 => ?_)
          · first | (exfalso; omega) | exact absurd c_51 (by decide) | exact absurd (by decide) c_51
          · refine pe_aload_n d_Mo_count_54 rfl ?_
            refine pe_getf d_Mo_count_55 f_Mo_30 hMo rfl ?_
            refine pe_iret d_Mo_count_58 rfl ?_
            exact ⟨rfl, rfl, rfl⟩
        · first | (exfalso; omega) | exact absurd c_40 (by decide) | exact absurd (by decide) c_40
      · first | (exfalso; omega) | exact absurd c_28 (by decide) | exact absurd (by decide) c_28
    · first | (exfalso; omega) | exact absurd c_12 (by decide) | exact absurd (by decide) c_12
set_option maxHeartbeats 4000000 in
set_option maxRecDepth 20000 in
theorem c_Mo_count_x {l : Launch} {L : Nat} {xs : Nat → Int32} {h : pz_H} {z : Nat} {np nb now tkg lst flt byt : Nat} {sa sx : Int32} (hMo : MOB h np nb now tkg lst flt byt sa sx) (hnp : np ≤ 32) (hnb : nb ≤ 32) {Mop : Nat → Bool} (hOp : AB h 167 6 Mop) {Mmp : Nat → Bool} (hIm : AB h 168 6 Mmp) {Mow : Nat → Int32} (hOw : AI h 171 32 Mow) {Mdl : Nat → Int32} (hDl : AI h 173 32 Mdl) {Mst : Nat → Int32} (hSt : AI h 180 6 Mst) {Mfs : Nat → Nat} (hFs : AN h 182 6 Mfs) {Mho : Nat → Int32} (hHo : AI h 185 32 Mho) {Men : Nat → Nat} (hEn : AN h 188 6 Men) (x y : Int32) (hx : inn x 9 = false) : pz_K l L xs M_Mo_count 1 0 0 [.ref 166, .int x, .int y] h z (fun v h' z' => v = some (.int (-1)) ∧ h = h' ∧ z = z') := by
  refine pz_K.of rfl (Nat.le_of_ble_eq_true rfl) ?_
  change pz_E l L xs M_Mo_count 1 0 0 0 [some (.ref 166), some (.int x), some (.int y), none] [] h z _
  refine pe_aload_n d_Mo_count_0 rfl ?_
  refine pe_iload_n d_Mo_count_1 rfl ?_
  refine pe_bipush (v := nI 9) d_Mo_count_2 (by decide) ?_
  -- 4: Mo_out
  refine pe_callV d_Mo_count_4 m_Mo_111 j_Mo_out v_Mo_out (c_Mo_out hMo hnp hnb _ _) rfl rfl (by simp [Value.category]) (by decide) hMo rfl rfl ?_
  intro v1 h1 z1 hq1
  obtain ⟨rfl, rfl, rfl⟩ := hq1
  change pz_E _ _ _ _ _ _ _ _ _ (_ :: _) _ _ _
  refine pe_if_ne (tgt := 25) d_Mo_count_7 (by decide) (fun c_7 => ?_) (fun c_7 => ?_)
  · have c_7 := pb_n0.mp c_7
    refine pe_iconst (v := -1) d_Mo_count_25 (by decide) ?_
    refine pe_iret d_Mo_count_26 rfl ?_
    exact ⟨rfl, rfl, rfl⟩
  · have c_7 := pb_0.mp c_7
    exact absurd (ot_f c_7) (by rw [hx]; decide)
set_option maxHeartbeats 4000000 in
set_option maxRecDepth 20000 in
theorem c_Mo_count_no {l : Launch} {L : Nat} {xs : Nat → Int32} {h : pz_H} {z : Nat} {np nb now tkg lst flt byt : Nat} {sa sx : Int32} (hMo : MOB h np nb now tkg lst flt byt sa sx) (hnp : np ≤ 32) (hnb : nb ≤ 32) {Mop : Nat → Bool} (hOp : AB h 167 6 Mop) {Mmp : Nat → Bool} (hIm : AB h 168 6 Mmp) {Mow : Nat → Int32} (hOw : AI h 171 32 Mow) {Mdl : Nat → Int32} (hDl : AI h 173 32 Mdl) {Mst : Nat → Int32} (hSt : AI h 180 6 Mst) {Mfs : Nat → Nat} (hFs : AN h 182 6 Mfs) {Mho : Nat → Int32} (hHo : AI h 185 32 Mho) {Men : Nat → Nat} (hEn : AN h 188 6 Men) {x : Nat} (hx3 : 3 ≤ x) (hx8 : x ≤ 8) (y : Int32) (hy : rng y (nI 0) (nI 5) = false) : pz_K l L xs M_Mo_count 1 0 0 [.ref 166, .int (nI x), .int y] h z (fun v h' z' => v = some (.int (-1)) ∧ h = h' ∧ z = z') := by
  refine pz_K.of rfl (Nat.le_of_ble_eq_true rfl) ?_
  change pz_E l L xs M_Mo_count 1 0 0 0 [some (.ref 166), some (.int (nI x)), some (.int y), none] [] h z _
  refine pe_aload_n d_Mo_count_0 rfl ?_
  refine pe_iload_n d_Mo_count_1 rfl ?_
  refine pe_bipush (v := nI 9) d_Mo_count_2 (by decide) ?_
  -- 4: Mo_out
  refine pe_callV d_Mo_count_4 m_Mo_111 j_Mo_out v_Mo_out (c_Mo_out hMo hnp hnb _ _) rfl rfl (by simp [Value.category]) (by decide) hMo rfl rfl ?_
  intro v1 h1 z1 hq1
  obtain ⟨rfl, rfl, rfl⟩ := hq1
  change pz_E _ _ _ _ _ _ _ _ _ (_ :: _) _ _ _
  refine pe_if_ne (tgt := 25) d_Mo_count_7 (by decide) (fun c_7 => ?_) (fun c_7 => ?_)
  · have c_7 := pb_n0.mp c_7
    refine pe_iconst (v := -1) d_Mo_count_25 (by decide) ?_
    refine pe_iret d_Mo_count_26 rfl ?_
    exact ⟨rfl, rfl, rfl⟩
  · have c_7 := pb_0.mp c_7
    refine pe_iload_n d_Mo_count_10 rfl ?_
    refine pe_iconst (v := nI 2) d_Mo_count_11 (by decide) ?_
    refine pe_icmpN_le (tgt := 27) d_Mo_count_12 (by decide) (by omega) (by omega) (fun c_12 => ?_) (fun c_12 => ?_)
    · exfalso; omega
    · refine pe_aload_n d_Mo_count_15 rfl ?_
      refine pe_iload_n d_Mo_count_16 rfl ?_
      refine pe_bipush (v := nI 6) d_Mo_count_17 (by decide) ?_
      -- 19: Mo_out
      refine pe_callV d_Mo_count_19 m_Mo_111 j_Mo_out v_Mo_out (c_Mo_out hMo hnp hnb _ _) rfl rfl (by simp [Value.category]) (by decide) hMo rfl rfl ?_
      intro v1 h1 z1 hq1
      obtain ⟨rfl, rfl, rfl⟩ := hq1
      change pz_E _ _ _ _ _ _ _ _ _ (_ :: _) _ _ _
      refine pe_if_eq (tgt := 27) d_Mo_count_22 (by decide) (fun c_22 => ?_) (fun c_22 => ?_)
      · have c_22 := pb_0.mp c_22
        exact absurd (ot_f c_22) (by rw [inn_rng _ (by decide), hy]; decide)
      · have c_22 := pb_n0.mp c_22
        refine pe_iconst (v := -1) d_Mo_count_25 (by decide) ?_
        refine pe_iret d_Mo_count_26 rfl ?_
        exact ⟨rfl, rfl, rfl⟩
set_option maxHeartbeats 4000000 in
set_option maxRecDepth 20000 in
theorem c_Mo_count_cl {l : Launch} {L : Nat} {xs : Nat → Int32} {h : pz_H} {z : Nat} {np nb now tkg lst flt byt : Nat} {sa sx : Int32} (hMo : MOB h np nb now tkg lst flt byt sa sx) (hnp : np ≤ 32) (hnb : nb ≤ 32) {Mop : Nat → Bool} (hOp : AB h 167 6 Mop) {Mmp : Nat → Bool} (hIm : AB h 168 6 Mmp) {Mow : Nat → Int32} (hOw : AI h 171 32 Mow) {Mdl : Nat → Int32} (hDl : AI h 173 32 Mdl) {Mst : Nat → Int32} (hSt : AI h 180 6 Mst) {Mfs : Nat → Nat} (hFs : AN h 182 6 Mfs) {Mho : Nat → Int32} (hHo : AI h 185 32 Mho) {Men : Nat → Nat} (hEn : AN h 188 6 Men) {x a : Nat} (hx3 : 3 ≤ x) (hx8 : x ≤ 8) (ha : a < 6) (hcl : Mop a = false) : pz_K l L xs M_Mo_count 1 0 0 [.ref 166, .int (nI x), .int (nI a)] h z (fun v h' z' => v = some (.int (nI 0)) ∧ h = h' ∧ z = z') := by
  refine pz_K.of rfl (Nat.le_of_ble_eq_true rfl) ?_
  change pz_E l L xs M_Mo_count 1 0 0 0 [some (.ref 166), some (.int (nI x)), some (.int (nI a)), none] [] h z _
  refine pe_aload_n d_Mo_count_0 rfl ?_
  refine pe_iload_n d_Mo_count_1 rfl ?_
  refine pe_bipush (v := nI 9) d_Mo_count_2 (by decide) ?_
  -- 4: Mo_out
  refine pe_callV d_Mo_count_4 m_Mo_111 j_Mo_out v_Mo_out (c_Mo_out hMo hnp hnb _ _) rfl rfl (by simp [Value.category]) (by decide) hMo rfl rfl ?_
  intro v1 h1 z1 hq1
  obtain ⟨rfl, rfl, rfl⟩ := hq1
  change pz_E _ _ _ _ _ _ _ _ _ (_ :: _) _ _ _
  refine pe_if_ne (tgt := 25) d_Mo_count_7 (by decide) (fun c_7 => ?_) (fun c_7 => ?_)
  · have c_7 := pb_n0.mp c_7
    exact absurd c_7 (by rw [ot_n (by omega) (by omega)]; decide)
  · have c_7 := pb_0.mp c_7
    refine pe_iload_n d_Mo_count_10 rfl ?_
    refine pe_iconst (v := nI 2) d_Mo_count_11 (by decide) ?_
    refine pe_icmpN_le (tgt := 27) d_Mo_count_12 (by decide) (by omega) (by omega) (fun c_12 => ?_) (fun c_12 => ?_)
    · exfalso; omega
    · refine pe_aload_n d_Mo_count_15 rfl ?_
      refine pe_iload_n d_Mo_count_16 rfl ?_
      refine pe_bipush (v := nI 6) d_Mo_count_17 (by decide) ?_
      -- 19: Mo_out
      refine pe_callV d_Mo_count_19 m_Mo_111 j_Mo_out v_Mo_out (c_Mo_out hMo hnp hnb _ _) rfl rfl (by simp [Value.category]) (by decide) hMo rfl rfl ?_
      intro v1 h1 z1 hq1
      obtain ⟨rfl, rfl, rfl⟩ := hq1
      change pz_E _ _ _ _ _ _ _ _ _ (_ :: _) _ _ _
      refine pe_if_eq (tgt := 27) d_Mo_count_22 (by decide) (fun c_22 => ?_) (fun c_22 => ?_)
      · have c_22 := pb_0.mp c_22
        refine pe_iload_n d_Mo_count_27 rfl ?_
        refine pe_if_ne (tgt := 38) d_Mo_count_28 (by decide) (fun c_28 => ?_) (fun c_28 => ?_)
        · refine pe_iload_n d_Mo_count_38 rfl ?_
          refine pe_iconst (v := nI 1) d_Mo_count_39 (by decide) ?_
          refine pe_icmpN_ne (tgt := 49) d_Mo_count_40 (by decide) (by omega) (by omega) (fun c_40 => ?_) (fun c_40 => ?_)
          · refine pe_iload_n d_Mo_count_49 rfl ?_
            refine pe_iconst (v := nI 2) d_Mo_count_50 (by decide) ?_
            refine pe_icmpN_ne (tgt := 59) d_Mo_count_51 (by decide) (by omega) (by omega) (fun c_51 => ?_) (fun c_51 => ?_)
            · refine pe_aload_n d_Mo_count_59 rfl ?_
              refine pe_getf d_Mo_count_60 f_Mo_7 hMo rfl ?_
              refine pe_iload_n d_Mo_count_63 rfl ?_
              refine pe_zaldN d_Mo_count_64 hOp (by omega) (by omega) ?_
              refine pe_if_ne (tgt := 70) d_Mo_count_65 (by decide) (fun c_65 => ?_) (fun c_65 => ?_)
              · have c_65 := pb_n0.mp c_65
                exact absurd c_65 (by rw [hcl]; decide)
              · have c_65 := pb_0.mp c_65
                refine pe_iconst (v := nI 0) d_Mo_count_68 (by decide) ?_
                refine pe_iret d_Mo_count_69 rfl ?_
                exact ⟨rfl, rfl, rfl⟩
            · exfalso; omega
          · exfalso; omega
        · exact absurd (nI_inj (a := x) (b := 0) (by omega) (by omega) c_28) (by omega)
      · have c_22 := pb_n0.mp c_22
        exact absurd c_22 (by rw [ot_n (by omega) ha]; decide)
set_option maxHeartbeats 4000000 in
set_option maxRecDepth 20000 in
theorem c_Mo_count_3 {l : Launch} {L : Nat} {xs : Nat → Int32} {h : pz_H} {z : Nat} {np nb now tkg lst flt byt : Nat} {sa sx : Int32} (hMo : MOB h np nb now tkg lst flt byt sa sx) (hnp : np ≤ 32) (hnb : nb ≤ 32) {Mop : Nat → Bool} (hOp : AB h 167 6 Mop) {Mmp : Nat → Bool} (hIm : AB h 168 6 Mmp) {Mow : Nat → Int32} (hOw : AI h 171 32 Mow) {Mdl : Nat → Int32} (hDl : AI h 173 32 Mdl) {Mst : Nat → Int32} (hSt : AI h 180 6 Mst) {Mfs : Nat → Nat} (hFs : AN h 182 6 Mfs) {Mho : Nat → Int32} (hHo : AI h 185 32 Mho) {Men : Nat → Nat} (hEn : AN h 188 6 Men) {a : Nat} (ha : a < 6) (hop : Mop a = true) : pz_K l L xs M_Mo_count 1 0 0 [.ref 166, .int (nI 3), .int (nI a)] h z (fun v h' z' => v = some (.int (nI (cnt (fun j => decide (Mow j = nI a) && (!false || decide (0 < Mdl j))) np 0))) ∧ h = h' ∧ z = z') := by
  refine pz_K.of rfl (Nat.le_of_ble_eq_true rfl) ?_
  change pz_E l L xs M_Mo_count 1 0 0 0 [some (.ref 166), some (.int (nI 3)), some (.int (nI a)), none] [] h z _
  refine pe_aload_n d_Mo_count_0 rfl ?_
  refine pe_iload_n d_Mo_count_1 rfl ?_
  refine pe_bipush (v := nI 9) d_Mo_count_2 (by decide) ?_
  -- 4: Mo_out
  refine pe_callV d_Mo_count_4 m_Mo_111 j_Mo_out v_Mo_out (c_Mo_out hMo hnp hnb _ _) rfl rfl (by simp [Value.category]) (by decide) hMo rfl rfl ?_
  intro v1 h1 z1 hq1
  obtain ⟨rfl, rfl, rfl⟩ := hq1
  change pz_E _ _ _ _ _ _ _ _ _ (_ :: _) _ _ _
  refine pe_if_ne (tgt := 25) d_Mo_count_7 (by decide) (fun c_7 => ?_) (fun c_7 => ?_)
  · have c_7 := pb_n0.mp c_7
    exact absurd c_7 (by rw [ot_n (by omega) (show 3 < 9 by omega)]; decide)
  · have c_7 := pb_0.mp c_7
    refine pe_iload_n d_Mo_count_10 rfl ?_
    refine pe_iconst (v := nI 2) d_Mo_count_11 (by decide) ?_
    refine pe_icmpN_le (tgt := 27) d_Mo_count_12 (by decide) (by omega) (by omega) (fun c_12 => ?_) (fun c_12 => ?_)
    · first | (exfalso; omega) | exact absurd c_12 (by decide) | exact absurd (by decide) c_12
    · refine pe_aload_n d_Mo_count_15 rfl ?_
      refine pe_iload_n d_Mo_count_16 rfl ?_
      refine pe_bipush (v := nI 6) d_Mo_count_17 (by decide) ?_
      -- 19: Mo_out
      refine pe_callV d_Mo_count_19 m_Mo_111 j_Mo_out v_Mo_out (c_Mo_out hMo hnp hnb _ _) rfl rfl (by simp [Value.category]) (by decide) hMo rfl rfl ?_
      intro v1 h1 z1 hq1
      obtain ⟨rfl, rfl, rfl⟩ := hq1
      change pz_E _ _ _ _ _ _ _ _ _ (_ :: _) _ _ _
      refine pe_if_eq (tgt := 27) d_Mo_count_22 (by decide) (fun c_22 => ?_) (fun c_22 => ?_)
      · have c_22 := pb_0.mp c_22
        refine pe_iload_n d_Mo_count_27 rfl ?_
        refine pe_if_ne (tgt := 38) d_Mo_count_28 (by decide) (fun c_28 => ?_) (fun c_28 => ?_)
        · refine pe_iload_n d_Mo_count_38 rfl ?_
          refine pe_iconst (v := nI 1) d_Mo_count_39 (by decide) ?_
          refine pe_icmpN_ne (tgt := 49) d_Mo_count_40 (by decide) (by omega) (by omega) (fun c_40 => ?_) (fun c_40 => ?_)
          · refine pe_iload_n d_Mo_count_49 rfl ?_
            refine pe_iconst (v := nI 2) d_Mo_count_50 (by decide) ?_
            refine pe_icmpN_ne (tgt := 59) d_Mo_count_51 (by decide) (by omega) (by omega) (fun c_51 => ?_) (fun c_51 => ?_)
            · refine pe_aload_n d_Mo_count_59 rfl ?_
              refine pe_getf d_Mo_count_60 f_Mo_7 hMo rfl ?_
              refine pe_iload_n d_Mo_count_63 rfl ?_
              refine pe_zaldN d_Mo_count_64 hOp (by omega) (by omega) ?_
              refine pe_if_ne (tgt := 70) d_Mo_count_65 (by decide) (fun c_65 => ?_) (fun c_65 => ?_)
              · have c_65 := pb_n0.mp c_65
                refine pe_iload_n d_Mo_count_70 rfl ?_
                refine pe_iconst (v := nI 5) d_Mo_count_71 (by decide) ?_
                refine pe_icmpN_ge (tgt := 91) d_Mo_count_72 (by decide) (by omega) (by omega) (fun c_72 => ?_) (fun c_72 => ?_)
                · first | (exfalso; omega) | exact absurd c_72 (by decide) | exact absurd (by decide) c_72
                · refine pe_aload_n d_Mo_count_75 rfl ?_
                  refine pe_iload_n d_Mo_count_76 rfl ?_
                  refine pe_iload_n d_Mo_count_77 rfl ?_
                  refine pe_iconst (v := nI 4) d_Mo_count_78 (by decide) ?_
                  refine pe_icmpN_ne (tgt := 86) d_Mo_count_79 (by decide) (by omega) (by omega) (fun c_79 => ?_) (fun c_79 => ?_)
                  · refine pe_iconst (v := nI 0) d_Mo_count_86 (by decide) ?_
                    refine pe_top (y := .int (pb false)) (by decide) ?_
                    -- 87: Mo_pagesOf
                    refine pe_callV d_Mo_count_87 m_Mo_155 j_Mo_pagesOf v_Mo_pagesOf (c_Mo_pagesOf hMo hnp hnb hOw hDl _ false) rfl rfl (by simp [Value.category]) (by decide) hMo rfl rfl ?_
                    intro v1 h1 z1 hq1
                    obtain ⟨rfl, rfl, rfl⟩ := hq1
                    rw [Nat.sub_zero]
                    change pz_E _ _ _ _ _ _ _ _ _ (_ :: _) _ _ _
                    refine pe_iret d_Mo_count_90 rfl ?_
                    exact ⟨rfl, rfl, rfl⟩
                  · first | (exfalso; omega) | exact absurd c_79 (by decide) | exact absurd (by decide) c_79
              · have c_65 := pb_0.mp c_65
                exact absurd c_65 (by rw [hop]; decide)
            · first | (exfalso; omega) | exact absurd c_51 (by decide) | exact absurd (by decide) c_51
          · first | (exfalso; omega) | exact absurd c_40 (by decide) | exact absurd (by decide) c_40
        · first | (exfalso; omega) | exact absurd c_28 (by decide) | exact absurd (by decide) c_28
      · have c_22 := pb_n0.mp c_22
        exact absurd c_22 (by rw [ot_n (by omega) ha]; decide)
set_option maxHeartbeats 4000000 in
set_option maxRecDepth 20000 in
theorem c_Mo_count_4 {l : Launch} {L : Nat} {xs : Nat → Int32} {h : pz_H} {z : Nat} {np nb now tkg lst flt byt : Nat} {sa sx : Int32} (hMo : MOB h np nb now tkg lst flt byt sa sx) (hnp : np ≤ 32) (hnb : nb ≤ 32) {Mop : Nat → Bool} (hOp : AB h 167 6 Mop) {Mmp : Nat → Bool} (hIm : AB h 168 6 Mmp) {Mow : Nat → Int32} (hOw : AI h 171 32 Mow) {Mdl : Nat → Int32} (hDl : AI h 173 32 Mdl) {Mst : Nat → Int32} (hSt : AI h 180 6 Mst) {Mfs : Nat → Nat} (hFs : AN h 182 6 Mfs) {Mho : Nat → Int32} (hHo : AI h 185 32 Mho) {Men : Nat → Nat} (hEn : AN h 188 6 Men) {a : Nat} (ha : a < 6) (hop : Mop a = true) : pz_K l L xs M_Mo_count 1 0 0 [.ref 166, .int (nI 4), .int (nI a)] h z (fun v h' z' => v = some (.int (nI (cnt (fun j => decide (Mow j = nI a) && (!true || decide (0 < Mdl j))) np 0))) ∧ h = h' ∧ z = z') := by
  refine pz_K.of rfl (Nat.le_of_ble_eq_true rfl) ?_
  change pz_E l L xs M_Mo_count 1 0 0 0 [some (.ref 166), some (.int (nI 4)), some (.int (nI a)), none] [] h z _
  refine pe_aload_n d_Mo_count_0 rfl ?_
  refine pe_iload_n d_Mo_count_1 rfl ?_
  refine pe_bipush (v := nI 9) d_Mo_count_2 (by decide) ?_
  -- 4: Mo_out
  refine pe_callV d_Mo_count_4 m_Mo_111 j_Mo_out v_Mo_out (c_Mo_out hMo hnp hnb _ _) rfl rfl (by simp [Value.category]) (by decide) hMo rfl rfl ?_
  intro v1 h1 z1 hq1
  obtain ⟨rfl, rfl, rfl⟩ := hq1
  change pz_E _ _ _ _ _ _ _ _ _ (_ :: _) _ _ _
  refine pe_if_ne (tgt := 25) d_Mo_count_7 (by decide) (fun c_7 => ?_) (fun c_7 => ?_)
  · have c_7 := pb_n0.mp c_7
    exact absurd c_7 (by rw [ot_n (by omega) (show 4 < 9 by omega)]; decide)
  · have c_7 := pb_0.mp c_7
    refine pe_iload_n d_Mo_count_10 rfl ?_
    refine pe_iconst (v := nI 2) d_Mo_count_11 (by decide) ?_
    refine pe_icmpN_le (tgt := 27) d_Mo_count_12 (by decide) (by omega) (by omega) (fun c_12 => ?_) (fun c_12 => ?_)
    · first | (exfalso; omega) | exact absurd c_12 (by decide) | exact absurd (by decide) c_12
    · refine pe_aload_n d_Mo_count_15 rfl ?_
      refine pe_iload_n d_Mo_count_16 rfl ?_
      refine pe_bipush (v := nI 6) d_Mo_count_17 (by decide) ?_
      -- 19: Mo_out
      refine pe_callV d_Mo_count_19 m_Mo_111 j_Mo_out v_Mo_out (c_Mo_out hMo hnp hnb _ _) rfl rfl (by simp [Value.category]) (by decide) hMo rfl rfl ?_
      intro v1 h1 z1 hq1
      obtain ⟨rfl, rfl, rfl⟩ := hq1
      change pz_E _ _ _ _ _ _ _ _ _ (_ :: _) _ _ _
      refine pe_if_eq (tgt := 27) d_Mo_count_22 (by decide) (fun c_22 => ?_) (fun c_22 => ?_)
      · have c_22 := pb_0.mp c_22
        refine pe_iload_n d_Mo_count_27 rfl ?_
        refine pe_if_ne (tgt := 38) d_Mo_count_28 (by decide) (fun c_28 => ?_) (fun c_28 => ?_)
        · refine pe_iload_n d_Mo_count_38 rfl ?_
          refine pe_iconst (v := nI 1) d_Mo_count_39 (by decide) ?_
          refine pe_icmpN_ne (tgt := 49) d_Mo_count_40 (by decide) (by omega) (by omega) (fun c_40 => ?_) (fun c_40 => ?_)
          · refine pe_iload_n d_Mo_count_49 rfl ?_
            refine pe_iconst (v := nI 2) d_Mo_count_50 (by decide) ?_
            refine pe_icmpN_ne (tgt := 59) d_Mo_count_51 (by decide) (by omega) (by omega) (fun c_51 => ?_) (fun c_51 => ?_)
            · refine pe_aload_n d_Mo_count_59 rfl ?_
              refine pe_getf d_Mo_count_60 f_Mo_7 hMo rfl ?_
              refine pe_iload_n d_Mo_count_63 rfl ?_
              refine pe_zaldN d_Mo_count_64 hOp (by omega) (by omega) ?_
              refine pe_if_ne (tgt := 70) d_Mo_count_65 (by decide) (fun c_65 => ?_) (fun c_65 => ?_)
              · have c_65 := pb_n0.mp c_65
                refine pe_iload_n d_Mo_count_70 rfl ?_
                refine pe_iconst (v := nI 5) d_Mo_count_71 (by decide) ?_
                refine pe_icmpN_ge (tgt := 91) d_Mo_count_72 (by decide) (by omega) (by omega) (fun c_72 => ?_) (fun c_72 => ?_)
                · first | (exfalso; omega) | exact absurd c_72 (by decide) | exact absurd (by decide) c_72
                · refine pe_aload_n d_Mo_count_75 rfl ?_
                  refine pe_iload_n d_Mo_count_76 rfl ?_
                  refine pe_iload_n d_Mo_count_77 rfl ?_
                  refine pe_iconst (v := nI 4) d_Mo_count_78 (by decide) ?_
                  refine pe_icmpN_ne (tgt := 86) d_Mo_count_79 (by decide) (by omega) (by omega) (fun c_79 => ?_) (fun c_79 => ?_)
                  · first | (exfalso; omega) | exact absurd c_79 (by decide) | exact absurd (by decide) c_79
                  · refine pe_iconst (v := nI 1) d_Mo_count_82 (by decide) ?_
                    refine pe_goto (tgt := 87) d_Mo_count_83 (by decide) ?_
                    refine pe_top (y := .int (pb true)) (by decide) ?_
                    -- 87: Mo_pagesOf
                    refine pe_callV d_Mo_count_87 m_Mo_155 j_Mo_pagesOf v_Mo_pagesOf (c_Mo_pagesOf hMo hnp hnb hOw hDl _ true) rfl rfl (by simp [Value.category]) (by decide) hMo rfl rfl ?_
                    intro v1 h1 z1 hq1
                    obtain ⟨rfl, rfl, rfl⟩ := hq1
                    rw [Nat.sub_zero]
                    change pz_E _ _ _ _ _ _ _ _ _ (_ :: _) _ _ _
                    refine pe_iret d_Mo_count_90 rfl ?_
                    exact ⟨rfl, rfl, rfl⟩
              · have c_65 := pb_0.mp c_65
                exact absurd c_65 (by rw [hop]; decide)
            · first | (exfalso; omega) | exact absurd c_51 (by decide) | exact absurd (by decide) c_51
          · first | (exfalso; omega) | exact absurd c_40 (by decide) | exact absurd (by decide) c_40
        · first | (exfalso; omega) | exact absurd c_28 (by decide) | exact absurd (by decide) c_28
      · have c_22 := pb_n0.mp c_22
        exact absurd c_22 (by rw [ot_n (by omega) ha]; decide)
set_option maxHeartbeats 4000000 in
set_option maxRecDepth 20000 in
theorem c_Mo_count_5 {l : Launch} {L : Nat} {xs : Nat → Int32} {h : pz_H} {z : Nat} {np nb now tkg lst flt byt : Nat} {sa sx : Int32} (hMo : MOB h np nb now tkg lst flt byt sa sx) (hnp : np ≤ 32) (hnb : nb ≤ 32) {Mop : Nat → Bool} (hOp : AB h 167 6 Mop) {Mmp : Nat → Bool} (hIm : AB h 168 6 Mmp) {Mow : Nat → Int32} (hOw : AI h 171 32 Mow) {Mdl : Nat → Int32} (hDl : AI h 173 32 Mdl) {Mst : Nat → Int32} (hSt : AI h 180 6 Mst) {Mfs : Nat → Nat} (hFs : AN h 182 6 Mfs) {Mho : Nat → Int32} (hHo : AI h 185 32 Mho) {Men : Nat → Nat} (hEn : AN h 188 6 Men) {a : Nat} (ha : a < 6) (hop : Mop a = true) : pz_K l L xs M_Mo_count 1 0 0 [.ref 166, .int (nI 5), .int (nI a)] h z (fun v h' z' => v = some (.int (nI (Mfs a))) ∧ h = h' ∧ z = z') := by
  refine pz_K.of rfl (Nat.le_of_ble_eq_true rfl) ?_
  change pz_E l L xs M_Mo_count 1 0 0 0 [some (.ref 166), some (.int (nI 5)), some (.int (nI a)), none] [] h z _
  refine pe_aload_n d_Mo_count_0 rfl ?_
  refine pe_iload_n d_Mo_count_1 rfl ?_
  refine pe_bipush (v := nI 9) d_Mo_count_2 (by decide) ?_
  -- 4: Mo_out
  refine pe_callV d_Mo_count_4 m_Mo_111 j_Mo_out v_Mo_out (c_Mo_out hMo hnp hnb _ _) rfl rfl (by simp [Value.category]) (by decide) hMo rfl rfl ?_
  intro v1 h1 z1 hq1
  obtain ⟨rfl, rfl, rfl⟩ := hq1
  change pz_E _ _ _ _ _ _ _ _ _ (_ :: _) _ _ _
  refine pe_if_ne (tgt := 25) d_Mo_count_7 (by decide) (fun c_7 => ?_) (fun c_7 => ?_)
  · have c_7 := pb_n0.mp c_7
    exact absurd c_7 (by rw [ot_n (by omega) (show 5 < 9 by omega)]; decide)
  · have c_7 := pb_0.mp c_7
    refine pe_iload_n d_Mo_count_10 rfl ?_
    refine pe_iconst (v := nI 2) d_Mo_count_11 (by decide) ?_
    refine pe_icmpN_le (tgt := 27) d_Mo_count_12 (by decide) (by omega) (by omega) (fun c_12 => ?_) (fun c_12 => ?_)
    · first | (exfalso; omega) | exact absurd c_12 (by decide) | exact absurd (by decide) c_12
    · refine pe_aload_n d_Mo_count_15 rfl ?_
      refine pe_iload_n d_Mo_count_16 rfl ?_
      refine pe_bipush (v := nI 6) d_Mo_count_17 (by decide) ?_
      -- 19: Mo_out
      refine pe_callV d_Mo_count_19 m_Mo_111 j_Mo_out v_Mo_out (c_Mo_out hMo hnp hnb _ _) rfl rfl (by simp [Value.category]) (by decide) hMo rfl rfl ?_
      intro v1 h1 z1 hq1
      obtain ⟨rfl, rfl, rfl⟩ := hq1
      change pz_E _ _ _ _ _ _ _ _ _ (_ :: _) _ _ _
      refine pe_if_eq (tgt := 27) d_Mo_count_22 (by decide) (fun c_22 => ?_) (fun c_22 => ?_)
      · have c_22 := pb_0.mp c_22
        refine pe_iload_n d_Mo_count_27 rfl ?_
        refine pe_if_ne (tgt := 38) d_Mo_count_28 (by decide) (fun c_28 => ?_) (fun c_28 => ?_)
        · refine pe_iload_n d_Mo_count_38 rfl ?_
          refine pe_iconst (v := nI 1) d_Mo_count_39 (by decide) ?_
          refine pe_icmpN_ne (tgt := 49) d_Mo_count_40 (by decide) (by omega) (by omega) (fun c_40 => ?_) (fun c_40 => ?_)
          · refine pe_iload_n d_Mo_count_49 rfl ?_
            refine pe_iconst (v := nI 2) d_Mo_count_50 (by decide) ?_
            refine pe_icmpN_ne (tgt := 59) d_Mo_count_51 (by decide) (by omega) (by omega) (fun c_51 => ?_) (fun c_51 => ?_)
            · refine pe_aload_n d_Mo_count_59 rfl ?_
              refine pe_getf d_Mo_count_60 f_Mo_7 hMo rfl ?_
              refine pe_iload_n d_Mo_count_63 rfl ?_
              refine pe_zaldN d_Mo_count_64 hOp (by omega) (by omega) ?_
              refine pe_if_ne (tgt := 70) d_Mo_count_65 (by decide) (fun c_65 => ?_) (fun c_65 => ?_)
              · have c_65 := pb_n0.mp c_65
                refine pe_iload_n d_Mo_count_70 rfl ?_
                refine pe_iconst (v := nI 5) d_Mo_count_71 (by decide) ?_
                refine pe_icmpN_ge (tgt := 91) d_Mo_count_72 (by decide) (by omega) (by omega) (fun c_72 => ?_) (fun c_72 => ?_)
                · refine pe_iload_n d_Mo_count_91 rfl ?_
                  refine pe_iconst (v := nI 5) d_Mo_count_92 (by decide) ?_
                  refine pe_icmpN_ne (tgt := 103) d_Mo_count_93 (by decide) (by omega) (by omega) (fun c_93 => ?_) (fun c_93 => ?_)
                  · first | (exfalso; omega) | exact absurd c_93 (by decide) | exact absurd (by decide) c_93
                  · refine pe_aload_n d_Mo_count_96 rfl ?_
                    refine pe_getf d_Mo_count_97 f_Mo_72 hMo rfl ?_
                    refine pe_iload_n d_Mo_count_100 rfl ?_
                    refine pe_ialdN d_Mo_count_101 hFs (by omega) (by omega) ?_
                    refine pe_iret d_Mo_count_102 rfl ?_
                    exact ⟨rfl, rfl, rfl⟩
                · first | (exfalso; omega) | exact absurd c_72 (by decide) | exact absurd (by decide) c_72
              · have c_65 := pb_0.mp c_65
                exact absurd c_65 (by rw [hop]; decide)
            · first | (exfalso; omega) | exact absurd c_51 (by decide) | exact absurd (by decide) c_51
          · first | (exfalso; omega) | exact absurd c_40 (by decide) | exact absurd (by decide) c_40
        · first | (exfalso; omega) | exact absurd c_28 (by decide) | exact absurd (by decide) c_28
      · have c_22 := pb_n0.mp c_22
        exact absurd c_22 (by rw [ot_n (by omega) ha]; decide)
set_option maxHeartbeats 4000000 in
set_option maxRecDepth 20000 in
theorem c_Mo_count_6 {l : Launch} {L : Nat} {xs : Nat → Int32} {h : pz_H} {z : Nat} {np nb now tkg lst flt byt : Nat} {sa sx : Int32} (hMo : MOB h np nb now tkg lst flt byt sa sx) (hnp : np ≤ 32) (hnb : nb ≤ 32) {Mop : Nat → Bool} (hOp : AB h 167 6 Mop) {Mmp : Nat → Bool} (hIm : AB h 168 6 Mmp) {Mow : Nat → Int32} (hOw : AI h 171 32 Mow) {Mdl : Nat → Int32} (hDl : AI h 173 32 Mdl) {Mst : Nat → Int32} (hSt : AI h 180 6 Mst) {Mfs : Nat → Nat} (hFs : AN h 182 6 Mfs) {Mho : Nat → Int32} (hHo : AI h 185 32 Mho) {Men : Nat → Nat} (hEn : AN h 188 6 Men) {a : Nat} (ha : a < 6) (hop : Mop a = true) : pz_K l L xs M_Mo_count 1 0 0 [.ref 166, .int (nI 6), .int (nI a)] h z (fun v h' z' => v = some (.int (nI (cnt (fun j => decide (Mho j = nI a)) nb 0))) ∧ h = h' ∧ z = z') := by
  refine pz_K.of rfl (Nat.le_of_ble_eq_true rfl) ?_
  change pz_E l L xs M_Mo_count 1 0 0 0 [some (.ref 166), some (.int (nI 6)), some (.int (nI a)), none] [] h z _
  refine pe_aload_n d_Mo_count_0 rfl ?_
  refine pe_iload_n d_Mo_count_1 rfl ?_
  refine pe_bipush (v := nI 9) d_Mo_count_2 (by decide) ?_
  -- 4: Mo_out
  refine pe_callV d_Mo_count_4 m_Mo_111 j_Mo_out v_Mo_out (c_Mo_out hMo hnp hnb _ _) rfl rfl (by simp [Value.category]) (by decide) hMo rfl rfl ?_
  intro v1 h1 z1 hq1
  obtain ⟨rfl, rfl, rfl⟩ := hq1
  change pz_E _ _ _ _ _ _ _ _ _ (_ :: _) _ _ _
  refine pe_if_ne (tgt := 25) d_Mo_count_7 (by decide) (fun c_7 => ?_) (fun c_7 => ?_)
  · have c_7 := pb_n0.mp c_7
    exact absurd c_7 (by rw [ot_n (by omega) (show 6 < 9 by omega)]; decide)
  · have c_7 := pb_0.mp c_7
    refine pe_iload_n d_Mo_count_10 rfl ?_
    refine pe_iconst (v := nI 2) d_Mo_count_11 (by decide) ?_
    refine pe_icmpN_le (tgt := 27) d_Mo_count_12 (by decide) (by omega) (by omega) (fun c_12 => ?_) (fun c_12 => ?_)
    · first | (exfalso; omega) | exact absurd c_12 (by decide) | exact absurd (by decide) c_12
    · refine pe_aload_n d_Mo_count_15 rfl ?_
      refine pe_iload_n d_Mo_count_16 rfl ?_
      refine pe_bipush (v := nI 6) d_Mo_count_17 (by decide) ?_
      -- 19: Mo_out
      refine pe_callV d_Mo_count_19 m_Mo_111 j_Mo_out v_Mo_out (c_Mo_out hMo hnp hnb _ _) rfl rfl (by simp [Value.category]) (by decide) hMo rfl rfl ?_
      intro v1 h1 z1 hq1
      obtain ⟨rfl, rfl, rfl⟩ := hq1
      change pz_E _ _ _ _ _ _ _ _ _ (_ :: _) _ _ _
      refine pe_if_eq (tgt := 27) d_Mo_count_22 (by decide) (fun c_22 => ?_) (fun c_22 => ?_)
      · have c_22 := pb_0.mp c_22
        refine pe_iload_n d_Mo_count_27 rfl ?_
        refine pe_if_ne (tgt := 38) d_Mo_count_28 (by decide) (fun c_28 => ?_) (fun c_28 => ?_)
        · refine pe_iload_n d_Mo_count_38 rfl ?_
          refine pe_iconst (v := nI 1) d_Mo_count_39 (by decide) ?_
          refine pe_icmpN_ne (tgt := 49) d_Mo_count_40 (by decide) (by omega) (by omega) (fun c_40 => ?_) (fun c_40 => ?_)
          · refine pe_iload_n d_Mo_count_49 rfl ?_
            refine pe_iconst (v := nI 2) d_Mo_count_50 (by decide) ?_
            refine pe_icmpN_ne (tgt := 59) d_Mo_count_51 (by decide) (by omega) (by omega) (fun c_51 => ?_) (fun c_51 => ?_)
            · refine pe_aload_n d_Mo_count_59 rfl ?_
              refine pe_getf d_Mo_count_60 f_Mo_7 hMo rfl ?_
              refine pe_iload_n d_Mo_count_63 rfl ?_
              refine pe_zaldN d_Mo_count_64 hOp (by omega) (by omega) ?_
              refine pe_if_ne (tgt := 70) d_Mo_count_65 (by decide) (fun c_65 => ?_) (fun c_65 => ?_)
              · have c_65 := pb_n0.mp c_65
                refine pe_iload_n d_Mo_count_70 rfl ?_
                refine pe_iconst (v := nI 5) d_Mo_count_71 (by decide) ?_
                refine pe_icmpN_ge (tgt := 91) d_Mo_count_72 (by decide) (by omega) (by omega) (fun c_72 => ?_) (fun c_72 => ?_)
                · refine pe_iload_n d_Mo_count_91 rfl ?_
                  refine pe_iconst (v := nI 5) d_Mo_count_92 (by decide) ?_
                  refine pe_icmpN_ne (tgt := 103) d_Mo_count_93 (by decide) (by omega) (by omega) (fun c_93 => ?_) (fun c_93 => ?_)
                  · refine pe_iload_n d_Mo_count_103 rfl ?_
                    refine pe_bipush (v := nI 6) d_Mo_count_104 (by decide) ?_
                    refine pe_icmpN_ne (tgt := 115) d_Mo_count_106 (by decide) (by omega) (by omega) (fun c_106 => ?_) (fun c_106 => ?_)
                    · first | (exfalso; omega) | exact absurd c_106 (by decide) | exact absurd (by decide) c_106
                    · refine pe_aload_n d_Mo_count_109 rfl ?_
                      refine pe_iload_n d_Mo_count_110 rfl ?_
                      -- 111: Mo_blocksOf
                      refine pe_callV d_Mo_count_111 m_Mo_159 j_Mo_blocksOf v_Mo_blocksOf (c_Mo_blocksOf hMo hnp hnb hHo _) rfl rfl (by simp [Value.category]) (by decide) hMo rfl rfl ?_
                      intro v1 h1 z1 hq1
                      obtain ⟨rfl, rfl, rfl⟩ := hq1
                      rw [Nat.sub_zero]
                      change pz_E _ _ _ _ _ _ _ _ _ (_ :: _) _ _ _
                      refine pe_iret d_Mo_count_114 rfl ?_
                      exact ⟨rfl, rfl, rfl⟩
                  · first | (exfalso; omega) | exact absurd c_93 (by decide) | exact absurd (by decide) c_93
                · first | (exfalso; omega) | exact absurd c_72 (by decide) | exact absurd (by decide) c_72
              · have c_65 := pb_0.mp c_65
                exact absurd c_65 (by rw [hop]; decide)
            · first | (exfalso; omega) | exact absurd c_51 (by decide) | exact absurd (by decide) c_51
          · first | (exfalso; omega) | exact absurd c_40 (by decide) | exact absurd (by decide) c_40
        · first | (exfalso; omega) | exact absurd c_28 (by decide) | exact absurd (by decide) c_28
      · have c_22 := pb_n0.mp c_22
        exact absurd c_22 (by rw [ot_n (by omega) ha]; decide)
set_option maxHeartbeats 4000000 in
set_option maxRecDepth 20000 in
theorem c_Mo_count_8 {l : Launch} {L : Nat} {xs : Nat → Int32} {h : pz_H} {z : Nat} {np nb now tkg lst flt byt : Nat} {sa sx : Int32} (hMo : MOB h np nb now tkg lst flt byt sa sx) (hnp : np ≤ 32) (hnb : nb ≤ 32) {Mop : Nat → Bool} (hOp : AB h 167 6 Mop) {Mmp : Nat → Bool} (hIm : AB h 168 6 Mmp) {Mow : Nat → Int32} (hOw : AI h 171 32 Mow) {Mdl : Nat → Int32} (hDl : AI h 173 32 Mdl) {Mst : Nat → Int32} (hSt : AI h 180 6 Mst) {Mfs : Nat → Nat} (hFs : AN h 182 6 Mfs) {Mho : Nat → Int32} (hHo : AI h 185 32 Mho) {Men : Nat → Nat} (hEn : AN h 188 6 Men) {a : Nat} (ha : a < 6) (hop : Mop a = true) : pz_K l L xs M_Mo_count 1 0 0 [.ref 166, .int (nI 8), .int (nI a)] h z (fun v h' z' => v = some (.int (nI (if Mmp a = true then Men a else 0))) ∧ h = h' ∧ z = z') := by
  refine pz_K.of rfl (Nat.le_of_ble_eq_true rfl) ?_
  change pz_E l L xs M_Mo_count 1 0 0 0 [some (.ref 166), some (.int (nI 8)), some (.int (nI a)), none] [] h z _
  refine pe_aload_n d_Mo_count_0 rfl ?_
  refine pe_iload_n d_Mo_count_1 rfl ?_
  refine pe_bipush (v := nI 9) d_Mo_count_2 (by decide) ?_
  -- 4: Mo_out
  refine pe_callV d_Mo_count_4 m_Mo_111 j_Mo_out v_Mo_out (c_Mo_out hMo hnp hnb _ _) rfl rfl (by simp [Value.category]) (by decide) hMo rfl rfl ?_
  intro v1 h1 z1 hq1
  obtain ⟨rfl, rfl, rfl⟩ := hq1
  change pz_E _ _ _ _ _ _ _ _ _ (_ :: _) _ _ _
  refine pe_if_ne (tgt := 25) d_Mo_count_7 (by decide) (fun c_7 => ?_) (fun c_7 => ?_)
  · have c_7 := pb_n0.mp c_7
    exact absurd c_7 (by rw [ot_n (by omega) (show 8 < 9 by omega)]; decide)
  · have c_7 := pb_0.mp c_7
    refine pe_iload_n d_Mo_count_10 rfl ?_
    refine pe_iconst (v := nI 2) d_Mo_count_11 (by decide) ?_
    refine pe_icmpN_le (tgt := 27) d_Mo_count_12 (by decide) (by omega) (by omega) (fun c_12 => ?_) (fun c_12 => ?_)
    · first | (exfalso; omega) | exact absurd c_12 (by decide) | exact absurd (by decide) c_12
    · refine pe_aload_n d_Mo_count_15 rfl ?_
      refine pe_iload_n d_Mo_count_16 rfl ?_
      refine pe_bipush (v := nI 6) d_Mo_count_17 (by decide) ?_
      -- 19: Mo_out
      refine pe_callV d_Mo_count_19 m_Mo_111 j_Mo_out v_Mo_out (c_Mo_out hMo hnp hnb _ _) rfl rfl (by simp [Value.category]) (by decide) hMo rfl rfl ?_
      intro v1 h1 z1 hq1
      obtain ⟨rfl, rfl, rfl⟩ := hq1
      change pz_E _ _ _ _ _ _ _ _ _ (_ :: _) _ _ _
      refine pe_if_eq (tgt := 27) d_Mo_count_22 (by decide) (fun c_22 => ?_) (fun c_22 => ?_)
      · have c_22 := pb_0.mp c_22
        refine pe_iload_n d_Mo_count_27 rfl ?_
        refine pe_if_ne (tgt := 38) d_Mo_count_28 (by decide) (fun c_28 => ?_) (fun c_28 => ?_)
        · refine pe_iload_n d_Mo_count_38 rfl ?_
          refine pe_iconst (v := nI 1) d_Mo_count_39 (by decide) ?_
          refine pe_icmpN_ne (tgt := 49) d_Mo_count_40 (by decide) (by omega) (by omega) (fun c_40 => ?_) (fun c_40 => ?_)
          · refine pe_iload_n d_Mo_count_49 rfl ?_
            refine pe_iconst (v := nI 2) d_Mo_count_50 (by decide) ?_
            refine pe_icmpN_ne (tgt := 59) d_Mo_count_51 (by decide) (by omega) (by omega) (fun c_51 => ?_) (fun c_51 => ?_)
            · refine pe_aload_n d_Mo_count_59 rfl ?_
              refine pe_getf d_Mo_count_60 f_Mo_7 hMo rfl ?_
              refine pe_iload_n d_Mo_count_63 rfl ?_
              refine pe_zaldN d_Mo_count_64 hOp (by omega) (by omega) ?_
              refine pe_if_ne (tgt := 70) d_Mo_count_65 (by decide) (fun c_65 => ?_) (fun c_65 => ?_)
              · have c_65 := pb_n0.mp c_65
                refine pe_iload_n d_Mo_count_70 rfl ?_
                refine pe_iconst (v := nI 5) d_Mo_count_71 (by decide) ?_
                refine pe_icmpN_ge (tgt := 91) d_Mo_count_72 (by decide) (by omega) (by omega) (fun c_72 => ?_) (fun c_72 => ?_)
                · refine pe_iload_n d_Mo_count_91 rfl ?_
                  refine pe_iconst (v := nI 5) d_Mo_count_92 (by decide) ?_
                  refine pe_icmpN_ne (tgt := 103) d_Mo_count_93 (by decide) (by omega) (by omega) (fun c_93 => ?_) (fun c_93 => ?_)
                  · refine pe_iload_n d_Mo_count_103 rfl ?_
                    refine pe_bipush (v := nI 6) d_Mo_count_104 (by decide) ?_
                    refine pe_icmpN_ne (tgt := 115) d_Mo_count_106 (by decide) (by omega) (by omega) (fun c_106 => ?_) (fun c_106 => ?_)
                    · refine pe_iload_n d_Mo_count_115 rfl ?_
                      refine pe_bipush (v := nI 8) d_Mo_count_116 (by decide) ?_
                      refine pe_icmpN_ne (tgt := 141) d_Mo_count_118 (by decide) (by omega) (by omega) (fun c_118 => ?_) (fun c_118 => ?_)
                      · first | (exfalso; omega) | exact absurd c_118 (by decide) | exact absurd (by decide) c_118
                      · refine pe_aload_n d_Mo_count_121 rfl ?_
                        refine pe_getf d_Mo_count_122 f_Mo_13 hMo rfl ?_
                        refine pe_iload_n d_Mo_count_125 rfl ?_
                        refine pe_zaldN d_Mo_count_126 hIm (by omega) (by omega) ?_
                        refine pe_if_eq (tgt := 139) d_Mo_count_127 (by decide) (fun c_127 => ?_) (fun c_127 => ?_)
                        · have c_127 := pb_0.mp c_127
                          refine pe_iconst (v := nI 0) d_Mo_count_139 (by decide) ?_
                          refine pe_iret d_Mo_count_140 rfl ?_
                          exact ⟨by rw [if_neg (by rw [c_127]; decide)], rfl, rfl⟩
                        · have c_127 := pb_n0.mp c_127
                          refine pe_aload_n d_Mo_count_130 rfl ?_
                          refine pe_getf d_Mo_count_131 f_Mo_96 hMo rfl ?_
                          refine pe_iload_n d_Mo_count_134 rfl ?_
                          refine pe_ialdN d_Mo_count_135 hEn (by omega) (by omega) ?_
                          refine pe_goto (tgt := 140) d_Mo_count_136 (by decide) ?_
                          refine pe_iret d_Mo_count_140 rfl ?_
                          exact ⟨by rw [if_pos c_127], rfl, rfl⟩
                    · first | (exfalso; omega) | exact absurd c_106 (by decide) | exact absurd (by decide) c_106
                  · first | (exfalso; omega) | exact absurd c_93 (by decide) | exact absurd (by decide) c_93
                · first | (exfalso; omega) | exact absurd c_72 (by decide) | exact absurd (by decide) c_72
              · have c_65 := pb_0.mp c_65
                exact absurd c_65 (by rw [hop]; decide)
            · first | (exfalso; omega) | exact absurd c_51 (by decide) | exact absurd (by decide) c_51
          · first | (exfalso; omega) | exact absurd c_40 (by decide) | exact absurd (by decide) c_40
        · first | (exfalso; omega) | exact absurd c_28 (by decide) | exact absurd (by decide) c_28
      · have c_22 := pb_n0.mp c_22
        exact absurd c_22 (by rw [ot_n (by omega) ha]; decide)
set_option maxHeartbeats 4000000 in
set_option maxRecDepth 20000 in
theorem c_Mo_count_7 {l : Launch} {L : Nat} {xs : Nat → Int32} {h : pz_H} {z : Nat} {np nb now tkg lst flt byt : Nat} {sa sx : Int32} (hMo : MOB h np nb now tkg lst flt byt sa sx) (hnp : np ≤ 32) (hnb : nb ≤ 32) {Mop : Nat → Bool} (hOp : AB h 167 6 Mop) {Mmp : Nat → Bool} (hIm : AB h 168 6 Mmp) {Mow : Nat → Int32} (hOw : AI h 171 32 Mow) {Mdl : Nat → Int32} (hDl : AI h 173 32 Mdl) {Mst : Nat → Int32} (hSt : AI h 180 6 Mst) {Mfs : Nat → Nat} (hFs : AN h 182 6 Mfs) {Mho : Nat → Int32} (hHo : AI h 185 32 Mho) {Men : Nat → Nat} (hEn : AN h 188 6 Men) {a : Nat} (ha : a < 6) (hop : Mop a = true) (hfl : flt ≤ 6) : pz_K l L xs M_Mo_count 1 0 0 [.ref 166, .int (nI 7), .int (nI a)] h z (fun v h' z' => v = some (.int (nI 1 + orm flt (ff (fun j => decide (Mst j = nI a)) (flt - 0) 0))) ∧ h = h' ∧ z = z') := by
  refine pz_K.of rfl (Nat.le_of_ble_eq_true rfl) ?_
  have loop : ∀ (n : Nat) (i : Nat), i ≤ flt → flt + 1 ≤ i + n → pz_E l L xs M_Mo_count 1 0 0 143 [some (.ref 166), some (.int (nI 7)), some (.int (nI a)), some (.int (nI i))] [] h z (fun v h' z' => v = some (.int (nI 1 + orm flt (ff (fun j => decide (Mst j = nI a)) (flt - i) i))) ∧ h = h' ∧ z = z') := by
    intro n
    induction n with
    | zero => intros; omega
    | succ n ih =>
      intro i hi hin
      refine pe_iload_n d_Mo_count_143 rfl ?_
      refine pe_aload_n d_Mo_count_144 rfl ?_
      refine pe_getf d_Mo_count_145 f_Mo_63 hMo rfl ?_
      refine pe_icmpN_ge (tgt := 171) d_Mo_count_148 (by decide) (by omega) (by omega) (fun c_148 => ?_) (fun c_148 => ?_)
      · refine pe_iconst (v := nI 0) d_Mo_count_171 (by decide) ?_
        refine pe_iret d_Mo_count_172 rfl ?_
        exact ⟨by rw [ff_end (P := (fun j => decide (Mst j = nI a))) (by omega), orm_ge (by omega)]; rfl, rfl, rfl⟩
      · have c_148 : i < flt := by omega
        refine pe_aload_n d_Mo_count_151 rfl ?_
        refine pe_getf d_Mo_count_152 f_Mo_60 hMo rfl ?_
        refine pe_iload_n d_Mo_count_155 rfl ?_
        refine pe_ialdN d_Mo_count_156 hSt (by omega) (by omega) ?_
        refine pe_iload_n d_Mo_count_157 rfl ?_
        refine pe_icmp_ne (tgt := 165) d_Mo_count_158 (by decide) (fun c_158 => ?_) (fun c_158 => ?_)
        · refine pe_iincN d_Mo_count_165 rfl (by decide) rfl ?_
          dsimp only [List.set]
          refine pe_goto (tgt := 143) d_Mo_count_168 (by decide) ?_
          have e := ih (i + 1) (by omega) (by omega)
          rw [← ff_no (P := (fun j => decide (Mst j = nI a))) c_148 (fun q9 => c_158 (of_decide_eq_true q9))] at e
          exact e
        · refine pe_iload_n d_Mo_count_161 rfl ?_
          refine pe_iconst (v := nI 1) d_Mo_count_162 (by decide) ?_
          refine pe_iaddN d_Mo_count_163 ?_
          refine pe_iret d_Mo_count_164 rfl ?_
          exact ⟨by rw [ff_yes (P := (fun j => decide (Mst j = nI a))) c_148 (decide_eq_true c_158), orm_lt c_148, nI_add, Nat.add_comm], rfl, rfl⟩
  change pz_E l L xs M_Mo_count 1 0 0 0 [some (.ref 166), some (.int (nI 7)), some (.int (nI a)), none] [] h z _
  refine pe_aload_n d_Mo_count_0 rfl ?_
  refine pe_iload_n d_Mo_count_1 rfl ?_
  refine pe_bipush (v := nI 9) d_Mo_count_2 (by decide) ?_
  -- 4: Mo_out
  refine pe_callV d_Mo_count_4 m_Mo_111 j_Mo_out v_Mo_out (c_Mo_out hMo hnp hnb _ _) rfl rfl (by simp [Value.category]) (by decide) hMo rfl rfl ?_
  intro v1 h1 z1 hq1
  obtain ⟨rfl, rfl, rfl⟩ := hq1
  change pz_E _ _ _ _ _ _ _ _ _ (_ :: _) _ _ _
  refine pe_if_ne (tgt := 25) d_Mo_count_7 (by decide) (fun c_7 => ?_) (fun c_7 => ?_)
  · have c_7 := pb_n0.mp c_7
    exact absurd c_7 (by rw [ot_n (by omega) (show 7 < 9 by omega)]; decide)
  · have c_7 := pb_0.mp c_7
    refine pe_iload_n d_Mo_count_10 rfl ?_
    refine pe_iconst (v := nI 2) d_Mo_count_11 (by decide) ?_
    refine pe_icmpN_le (tgt := 27) d_Mo_count_12 (by decide) (by omega) (by omega) (fun c_12 => ?_) (fun c_12 => ?_)
    · first | (exfalso; omega) | exact absurd c_12 (by decide) | exact absurd (by decide) c_12
    · refine pe_aload_n d_Mo_count_15 rfl ?_
      refine pe_iload_n d_Mo_count_16 rfl ?_
      refine pe_bipush (v := nI 6) d_Mo_count_17 (by decide) ?_
      -- 19: Mo_out
      refine pe_callV d_Mo_count_19 m_Mo_111 j_Mo_out v_Mo_out (c_Mo_out hMo hnp hnb _ _) rfl rfl (by simp [Value.category]) (by decide) hMo rfl rfl ?_
      intro v1 h1 z1 hq1
      obtain ⟨rfl, rfl, rfl⟩ := hq1
      change pz_E _ _ _ _ _ _ _ _ _ (_ :: _) _ _ _
      refine pe_if_eq (tgt := 27) d_Mo_count_22 (by decide) (fun c_22 => ?_) (fun c_22 => ?_)
      · have c_22 := pb_0.mp c_22
        refine pe_iload_n d_Mo_count_27 rfl ?_
        refine pe_if_ne (tgt := 38) d_Mo_count_28 (by decide) (fun c_28 => ?_) (fun c_28 => ?_)
        · refine pe_iload_n d_Mo_count_38 rfl ?_
          refine pe_iconst (v := nI 1) d_Mo_count_39 (by decide) ?_
          refine pe_icmpN_ne (tgt := 49) d_Mo_count_40 (by decide) (by omega) (by omega) (fun c_40 => ?_) (fun c_40 => ?_)
          · refine pe_iload_n d_Mo_count_49 rfl ?_
            refine pe_iconst (v := nI 2) d_Mo_count_50 (by decide) ?_
            refine pe_icmpN_ne (tgt := 59) d_Mo_count_51 (by decide) (by omega) (by omega) (fun c_51 => ?_) (fun c_51 => ?_)
            · refine pe_aload_n d_Mo_count_59 rfl ?_
              refine pe_getf d_Mo_count_60 f_Mo_7 hMo rfl ?_
              refine pe_iload_n d_Mo_count_63 rfl ?_
              refine pe_zaldN d_Mo_count_64 hOp (by omega) (by omega) ?_
              refine pe_if_ne (tgt := 70) d_Mo_count_65 (by decide) (fun c_65 => ?_) (fun c_65 => ?_)
              · have c_65 := pb_n0.mp c_65
                refine pe_iload_n d_Mo_count_70 rfl ?_
                refine pe_iconst (v := nI 5) d_Mo_count_71 (by decide) ?_
                refine pe_icmpN_ge (tgt := 91) d_Mo_count_72 (by decide) (by omega) (by omega) (fun c_72 => ?_) (fun c_72 => ?_)
                · refine pe_iload_n d_Mo_count_91 rfl ?_
                  refine pe_iconst (v := nI 5) d_Mo_count_92 (by decide) ?_
                  refine pe_icmpN_ne (tgt := 103) d_Mo_count_93 (by decide) (by omega) (by omega) (fun c_93 => ?_) (fun c_93 => ?_)
                  · refine pe_iload_n d_Mo_count_103 rfl ?_
                    refine pe_bipush (v := nI 6) d_Mo_count_104 (by decide) ?_
                    refine pe_icmpN_ne (tgt := 115) d_Mo_count_106 (by decide) (by omega) (by omega) (fun c_106 => ?_) (fun c_106 => ?_)
                    · refine pe_iload_n d_Mo_count_115 rfl ?_
                      refine pe_bipush (v := nI 8) d_Mo_count_116 (by decide) ?_
                      refine pe_icmpN_ne (tgt := 141) d_Mo_count_118 (by decide) (by omega) (by omega) (fun c_118 => ?_) (fun c_118 => ?_)
                      · refine pe_iconst (v := nI 0) d_Mo_count_141 (by decide) ?_
                        refine pe_istore_n d_Mo_count_142 (by decide) rfl ?_
                        dsimp only [List.set]
                        exact loop (flt + 1) 0 (by omega) (by omega)
                      · first | (exfalso; omega) | exact absurd c_118 (by decide) | exact absurd (by decide) c_118
                    · first | (exfalso; omega) | exact absurd c_106 (by decide) | exact absurd (by decide) c_106
                  · first | (exfalso; omega) | exact absurd c_93 (by decide) | exact absurd (by decide) c_93
                · first | (exfalso; omega) | exact absurd c_72 (by decide) | exact absurd (by decide) c_72
              · have c_65 := pb_0.mp c_65
                exact absurd c_65 (by rw [hop]; decide)
            · first | (exfalso; omega) | exact absurd c_51 (by decide) | exact absurd (by decide) c_51
          · first | (exfalso; omega) | exact absurd c_40 (by decide) | exact absurd (by decide) c_40
        · first | (exfalso; omega) | exact absurd c_28 (by decide) | exact absurd (by decide) c_28
      · have c_22 := pb_n0.mp c_22
        exact absurd c_22 (by rw [ot_n (by omega) ha]; decide)
