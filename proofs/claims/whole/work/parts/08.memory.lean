/-! the pages: contracts of Memory -/
set_option maxHeartbeats 2000000 in
set_option maxRecDepth 20000 in
theorem c_Memory_hasPage {l : Launch} {L : Nat} {xs : Nat → Int32} {h : pz_H} {z : Nat} {np : Nat} {mw mo mr mt : Nat → Int32} {mn : Nat → Bool} {md : Nat → Int32} {ts ck : Nat} (hm : MEM h np mw mo mr mt mn md ts ck) (x : Int32) : pz_K l L xs M_Memory_hasPage 0 0 0 [.ref 1, .int x] h z (fun v h' z' => v = some (.int (pb (decide (¬ x < 0 ∧ ¬ nI np ≤ x)))) ∧ h = h' ∧ z = z') := by
  obtain ⟨hM, hW, hO, hR, hT, hN, hD, hn1, hn2⟩ := id hm
  refine pz_K.of rfl (Nat.le_of_ble_eq_true rfl) ?_
  change pz_E l L xs M_Memory_hasPage 0 0 0 0 [some (.ref 1), some (.int x)] [] h z _
  refine pe_iload_n d_Memory_hasPage_0 rfl ?_
  refine pe_if_lt (tgt := 16) d_Memory_hasPage_1 (by decide) (fun c_1 => ?_) (fun c_1 => ?_)
  · refine pe_iconst (v := nI 0) d_Memory_hasPage_16 (by decide) ?_
    refine pe_zret d_Memory_hasPage_17 rfl (by decide) ?_
    exact ⟨pb_no (fun q => by first | exact q.1 c_1 | exact q.2 c_9), rfl, rfl⟩
  · refine pe_iload_n d_Memory_hasPage_4 rfl ?_
    refine pe_aload_n d_Memory_hasPage_5 rfl ?_
    refine pe_getf d_Memory_hasPage_6 f_Memory_9 hM rfl ?_
    refine pe_icmp_ge (tgt := 16) d_Memory_hasPage_9 (by decide) (fun c_9 => ?_) (fun c_9 => ?_)
    · refine pe_iconst (v := nI 0) d_Memory_hasPage_16 (by decide) ?_
      refine pe_zret d_Memory_hasPage_17 rfl (by decide) ?_
      exact ⟨pb_no (fun q => by first | exact q.1 c_1 | exact q.2 c_9), rfl, rfl⟩
    · refine pe_iconst (v := nI 1) d_Memory_hasPage_12 (by decide) ?_
      refine pe_goto (tgt := 17) d_Memory_hasPage_13 (by decide) ?_
      refine pe_zret d_Memory_hasPage_17 rfl (by decide) ?_
      exact ⟨pb_yes ⟨c_1, c_9⟩, rfl, rfl⟩
set_option maxHeartbeats 2000000 in
set_option maxRecDepth 20000 in
theorem c_Memory_ownerOf {l : Launch} {L : Nat} {xs : Nat → Int32} {h : pz_H} {z : Nat} {np : Nat} {mw mo mr mt : Nat → Int32} {mn : Nat → Bool} {md : Nat → Int32} {ts ck : Nat} (hm : MEM h np mw mo mr mt mn md ts ck) {p : Nat} (hp : p < np) : pz_K l L xs M_Memory_ownerOf 0 0 0 [.ref 1, .int (nI p)] h z (fun v h' z' => v = some (.int (mo p)) ∧ h = h' ∧ z = z') := by
  obtain ⟨hM, hW, hO, hR, hT, hN, hD, hn1, hn2⟩ := id hm
  refine pz_K.of rfl (Nat.le_of_ble_eq_true rfl) ?_
  change pz_E l L xs M_Memory_ownerOf 0 0 0 0 [some (.ref 1), some (.int (nI p))] [] h z _
  refine pe_aload_n d_Memory_ownerOf_0 rfl ?_
  refine pe_getf d_Memory_ownerOf_1 f_Memory_19 hM rfl ?_
  refine pe_iload_n d_Memory_ownerOf_4 rfl ?_
  refine pe_ialdN d_Memory_ownerOf_5 hO (by omega) (by omega) ?_
  refine pe_iret d_Memory_ownerOf_6 rfl ?_
  exact ⟨rfl, rfl, rfl⟩
set_option maxHeartbeats 2000000 in
set_option maxRecDepth 20000 in
theorem c_Memory_rightOf {l : Launch} {L : Nat} {xs : Nat → Int32} {h : pz_H} {z : Nat} {np : Nat} {mw mo mr mt : Nat → Int32} {mn : Nat → Bool} {md : Nat → Int32} {ts ck : Nat} (hm : MEM h np mw mo mr mt mn md ts ck) {p q : Nat} (hp : p < np) (hq : q < 6) : pz_K l L xs M_Memory_rightOf 0 0 0 [.ref 1, .int (nI p), .int (nI q)] h z (fun v h' z' => v = some (.int (mr (p * 6 + q))) ∧ h = h' ∧ z = z') := by
  obtain ⟨hM, hW, hO, hR, hT, hN, hD, hn1, hn2⟩ := id hm
  refine pz_K.of rfl (Nat.le_of_ble_eq_true rfl) ?_
  change pz_E l L xs M_Memory_rightOf 0 0 0 0 [some (.ref 1), some (.int (nI p)), some (.int (nI q))] [] h z _
  refine pe_aload_n d_Memory_rightOf_0 rfl ?_
  refine pe_getf d_Memory_rightOf_1 f_Memory_22 hM rfl ?_
  refine pe_iload_n d_Memory_rightOf_4 rfl ?_
  refine pe_bipush (v := nI 6) d_Memory_rightOf_5 (by decide) ?_
  refine pe_imulN d_Memory_rightOf_7 ?_
  refine pe_iload_n d_Memory_rightOf_8 rfl ?_
  refine pe_iaddN d_Memory_rightOf_9 ?_
  refine pe_ialdN d_Memory_rightOf_10 hR (by omega) (by omega) ?_
  refine pe_iret d_Memory_rightOf_11 rfl ?_
  exact ⟨rfl, rfl, rfl⟩
set_option maxHeartbeats 2000000 in
set_option maxRecDepth 20000 in
theorem c_Memory_wordOf {l : Launch} {L : Nat} {xs : Nat → Int32} {h : pz_H} {z : Nat} {np : Nat} {mw mo mr mt : Nat → Int32} {mn : Nat → Bool} {md : Nat → Int32} {ts ck : Nat} (hm : MEM h np mw mo mr mt mn md ts ck) {p q : Nat} (hp : p < np) (hq : q < 4) : pz_K l L xs M_Memory_wordOf 0 0 0 [.ref 1, .int (nI p), .int (nI q)] h z (fun v h' z' => v = some (.int (mw (p * 4 + q))) ∧ h = h' ∧ z = z') := by
  obtain ⟨hM, hW, hO, hR, hT, hN, hD, hn1, hn2⟩ := id hm
  refine pz_K.of rfl (Nat.le_of_ble_eq_true rfl) ?_
  change pz_E l L xs M_Memory_wordOf 0 0 0 0 [some (.ref 1), some (.int (nI p)), some (.int (nI q))] [] h z _
  refine pe_aload_n d_Memory_wordOf_0 rfl ?_
  refine pe_getf d_Memory_wordOf_1 f_Memory_15 hM rfl ?_
  refine pe_iload_n d_Memory_wordOf_4 rfl ?_
  refine pe_iconst (v := nI 4) d_Memory_wordOf_5 (by decide) ?_
  refine pe_imulN d_Memory_wordOf_6 ?_
  refine pe_iload_n d_Memory_wordOf_7 rfl ?_
  refine pe_iaddN d_Memory_wordOf_8 ?_
  refine pe_ialdN d_Memory_wordOf_9 hW (by omega) (by omega) ?_
  refine pe_iret d_Memory_wordOf_10 rfl ?_
  exact ⟨rfl, rfl, rfl⟩
set_option maxHeartbeats 2000000 in
set_option maxRecDepth 20000 in
theorem c_Memory_setRight {l : Launch} {L : Nat} {xs : Nat → Int32} {h : pz_H} {z : Nat} {np : Nat} {mw mo mr mt : Nat → Int32} {mn : Nat → Bool} {md : Nat → Int32} {ts ck : Nat} (hm : MEM h np mw mo mr mt mn md ts ck) {p q : Nat} (hp : p < np) (hq : q < 6) (x : Int32) : pz_K l L xs M_Memory_setRight 0 0 0 [.ref 1, .int (nI p), .int (nI q), .int x] h z (fun v h' z' => v = none ∧ z = z' ∧ MEM h' np mw mo (upd mr (p * 6 + q) x) mt mn md ts ck ∧ frm 1 8 h h') := by
  obtain ⟨hM, hW, hO, hR, hT, hN, hD, hn1, hn2⟩ := id hm
  have hf : frm 1 8 h h := frm.rf
  refine pz_K.of rfl (Nat.le_of_ble_eq_true rfl) ?_
  change pz_E l L xs M_Memory_setRight 0 0 0 0 [some (.ref 1), some (.int (nI p)), some (.int (nI q)), some (.int x)] [] h z _
  refine pe_aload_n d_Memory_setRight_0 rfl ?_
  refine pe_getf d_Memory_setRight_1 f_Memory_22 hM rfl ?_
  refine pe_iload_n d_Memory_setRight_4 rfl ?_
  refine pe_bipush (v := nI 6) d_Memory_setRight_5 (by decide) ?_
  refine pe_imulN d_Memory_setRight_7 ?_
  refine pe_iload_n d_Memory_setRight_8 rfl ?_
  refine pe_iaddN d_Memory_setRight_9 ?_
  refine pe_iload_n d_Memory_setRight_10 rfl ?_
  refine pe_iastN d_Memory_setRight_11 hR (by omega) (by omega) ?_
  refine pe_pu (fun h2 e2 o2 => ?_)
  have hM := (o2 (1) (by omega)).trans hM
  have hW := (o2 (2) (by omega)).trans hW
  have hO := (o2 (3) (by omega)).trans hO
  have hR := e2
  have hT := (o2 (5) (by omega)).trans hT
  have hN := (o2 (6) (by omega)).trans hN
  have hD := (o2 (7) (by omega)).trans hD
  have hf := hf.st o2 (by omega) (by omega)
  refine pe_vret d_Memory_setRight_12 rfl ?_
  exact ⟨rfl, rfl, ⟨hM, hW, hO, hR, hT, hN, hD, hn1, hn2⟩, hf⟩
set_option maxHeartbeats 2000000 in
set_option maxRecDepth 20000 in
theorem c_Memory_setWord {l : Launch} {L : Nat} {xs : Nat → Int32} {h : pz_H} {z : Nat} {np : Nat} {mw mo mr mt : Nat → Int32} {mn : Nat → Bool} {md : Nat → Int32} {ts ck : Nat} (hm : MEM h np mw mo mr mt mn md ts ck) {p q : Nat} (hp : p < np) (hq : q < 4) (x : Int32) : pz_K l L xs M_Memory_setWord 0 0 0 [.ref 1, .int (nI p), .int (nI q), .int x] h z (fun v h' z' => v = none ∧ z = z' ∧ MEM h' np (upd mw (p * 4 + q) x) mo mr mt mn md ts ck ∧ frm 1 8 h h') := by
  obtain ⟨hM, hW, hO, hR, hT, hN, hD, hn1, hn2⟩ := id hm
  have hf : frm 1 8 h h := frm.rf
  refine pz_K.of rfl (Nat.le_of_ble_eq_true rfl) ?_
  change pz_E l L xs M_Memory_setWord 0 0 0 0 [some (.ref 1), some (.int (nI p)), some (.int (nI q)), some (.int x)] [] h z _
  refine pe_aload_n d_Memory_setWord_0 rfl ?_
  refine pe_getf d_Memory_setWord_1 f_Memory_15 hM rfl ?_
  refine pe_iload_n d_Memory_setWord_4 rfl ?_
  refine pe_iconst (v := nI 4) d_Memory_setWord_5 (by decide) ?_
  refine pe_imulN d_Memory_setWord_6 ?_
  refine pe_iload_n d_Memory_setWord_7 rfl ?_
  refine pe_iaddN d_Memory_setWord_8 ?_
  refine pe_iload_n d_Memory_setWord_9 rfl ?_
  refine pe_iastN d_Memory_setWord_10 hW (by omega) (by omega) ?_
  refine pe_pu (fun h2 e2 o2 => ?_)
  have hM := (o2 (1) (by omega)).trans hM
  have hW := e2
  have hO := (o2 (3) (by omega)).trans hO
  have hR := (o2 (4) (by omega)).trans hR
  have hT := (o2 (5) (by omega)).trans hT
  have hN := (o2 (6) (by omega)).trans hN
  have hD := (o2 (7) (by omega)).trans hD
  have hf := hf.st o2 (by omega) (by omega)
  refine pe_vret d_Memory_setWord_11 rfl ?_
  exact ⟨rfl, rfl, ⟨hM, hW, hO, hR, hT, hN, hD, hn1, hn2⟩, hf⟩
set_option maxHeartbeats 2000000 in
set_option maxRecDepth 20000 in
theorem c_Memory_nameAfter {l : Launch} {L : Nat} {xs : Nat → Int32} {h : pz_H} {z : Nat} {np : Nat} {mw mo mr mt : Nat → Int32} {mn : Nat → Bool} {md : Nat → Int32} {ts ck : Nat} (hm : MEM h np mw mo mr mt mn md ts ck) {p q : Nat} (hp : p < np) : pz_K l L xs M_Memory_nameAfter 0 0 0 [.ref 1, .int (nI p), .int (nI q)] h z (fun v h' z' => v = none ∧ z = z' ∧ MEM h' np mw mo mr mt (updB mn p true) (upd md p (nI (ck + q))) ts ck ∧ frm 1 8 h h') := by
  obtain ⟨hM, hW, hO, hR, hT, hN, hD, hn1, hn2⟩ := id hm
  have hf : frm 1 8 h h := frm.rf
  refine pz_K.of rfl (Nat.le_of_ble_eq_true rfl) ?_
  change pz_E l L xs M_Memory_nameAfter 0 0 0 0 [some (.ref 1), some (.int (nI p)), some (.int (nI q))] [] h z _
  refine pe_aload_n d_Memory_nameAfter_0 rfl ?_
  refine pe_getf d_Memory_nameAfter_1 f_Memory_28 hM rfl ?_
  refine pe_iload_n d_Memory_nameAfter_4 rfl ?_
  refine pe_iconst (v := nI 1) d_Memory_nameAfter_5 (by decide) ?_
  refine pe_top (y := .int (pb true)) (by decide) ?_
  refine pe_zastN d_Memory_nameAfter_6 hN (by omega) (by omega) ?_
  rw [upb]
  refine pe_pu (fun h2 e2 o2 => ?_)
  have hM := (o2 (1) (by omega)).trans hM
  have hW := (o2 (2) (by omega)).trans hW
  have hO := (o2 (3) (by omega)).trans hO
  have hR := (o2 (4) (by omega)).trans hR
  have hT := (o2 (5) (by omega)).trans hT
  have hN := e2
  have hD := (o2 (7) (by omega)).trans hD
  have hf := hf.st o2 (by omega) (by omega)
  refine pe_aload_n d_Memory_nameAfter_7 rfl ?_
  refine pe_getf d_Memory_nameAfter_8 f_Memory_32 hM rfl ?_
  refine pe_iload_n d_Memory_nameAfter_11 rfl ?_
  refine pe_aload_n d_Memory_nameAfter_12 rfl ?_
  refine pe_getf d_Memory_nameAfter_13 f_Memory_38 hM rfl ?_
  refine pe_iload_n d_Memory_nameAfter_16 rfl ?_
  refine pe_iaddN d_Memory_nameAfter_17 ?_
  refine pe_iastN d_Memory_nameAfter_18 hD (by omega) (by omega) ?_
  refine pe_pu (fun h2 e2 o2 => ?_)
  have hM := (o2 (1) (by omega)).trans hM
  have hW := (o2 (2) (by omega)).trans hW
  have hO := (o2 (3) (by omega)).trans hO
  have hR := (o2 (4) (by omega)).trans hR
  have hT := (o2 (5) (by omega)).trans hT
  have hN := (o2 (6) (by omega)).trans hN
  have hD := e2
  have hf := hf.st o2 (by omega) (by omega)
  refine pe_vret d_Memory_nameAfter_19 rfl ?_
  exact ⟨rfl, rfl, ⟨hM, hW, hO, hR, hT, hN, hD, hn1, hn2⟩, hf⟩
set_option maxHeartbeats 2000000 in
set_option maxRecDepth 20000 in
theorem c_Memory_passTime {l : Launch} {L : Nat} {xs : Nat → Int32} {h : pz_H} {z : Nat} {np : Nat} {mw mo mr mt : Nat → Int32} {mn : Nat → Bool} {md : Nat → Int32} {ts ck : Nat} (hm : MEM h np mw mo mr mt mn md ts ck) {q : Nat} : pz_K l L xs M_Memory_passTime 0 0 0 [.ref 1, .int (nI q)] h z (fun v h' z' => v = none ∧ z = z' ∧ MEM h' np mw mo mr mt mn md ts (ck + q) ∧ frm 1 8 h h') := by
  obtain ⟨hM, hW, hO, hR, hT, hN, hD, hn1, hn2⟩ := id hm
  have hf : frm 1 8 h h := frm.rf
  refine pz_K.of rfl (Nat.le_of_ble_eq_true rfl) ?_
  change pz_E l L xs M_Memory_passTime 0 0 0 0 [some (.ref 1), some (.int (nI q))] [] h z _
  refine pe_aload_n d_Memory_passTime_0 rfl ?_
  refine pe_dup d_Memory_passTime_1 rfl ?_
  refine pe_getf d_Memory_passTime_2 f_Memory_38 hM rfl ?_
  refine pe_iload_n d_Memory_passTime_5 rfl ?_
  refine pe_iaddN d_Memory_passTime_6 ?_
  refine pe_put d_Memory_passTime_7 g_Memory_38 hM (Nat.le_of_ble_eq_true rfl) rfl ?_
  refine pe_pu (fun h2 e2 o2 => ?_)
  have hM := e2
  have hW := (o2 (2) (by omega)).trans hW
  have hO := (o2 (3) (by omega)).trans hO
  have hR := (o2 (4) (by omega)).trans hR
  have hT := (o2 (5) (by omega)).trans hT
  have hN := (o2 (6) (by omega)).trans hN
  have hD := (o2 (7) (by omega)).trans hD
  have hf := hf.st o2 (by omega) (by omega)
  refine pe_vret d_Memory_passTime_10 rfl ?_
  exact ⟨rfl, rfl, ⟨hM, hW, hO, hR, hT, hN, hD, hn1, hn2⟩, hf⟩
set_option maxHeartbeats 2000000 in
set_option maxRecDepth 20000 in
theorem c_Memory_leastFree {l : Launch} {L : Nat} {xs : Nat → Int32} {h : pz_H} {z : Nat} {np : Nat} {mw mo mr mt : Nat → Int32} {mn : Nat → Bool} {md : Nat → Int32} {ts ck : Nat} (hm : MEM h np mw mo mr mt mn md ts ck) : pz_K l L xs M_Memory_leastFree 0 0 0 [.ref 1] h z (fun v h' z' => v = some (.int (orm np (ff (fun j => decide (mo j = -1)) (np - 0) 0))) ∧ h = h' ∧ z = z') := by
  obtain ⟨hM, hW, hO, hR, hT, hN, hD, hn1, hn2⟩ := id hm
  refine pz_K.of rfl (Nat.le_of_ble_eq_true rfl) ?_
  have loop : ∀ (n : Nat) (i : Nat), i ≤ np → np + 1 ≤ i + n → pz_E l L xs M_Memory_leastFree 0 0 0 2 [some (.ref 1), some (.int (nI i))] [] h z (fun v h' z' => v = some (.int (orm np (ff (fun j => decide (mo j = -1)) (np - i) i))) ∧ h = h' ∧ z = z') := by
    intro n
    induction n with
    | zero => intros; omega
    | succ n ih =>
      intro i hi hin
      refine pe_iload_n d_Memory_leastFree_2 rfl ?_
      refine pe_aload_n d_Memory_leastFree_3 rfl ?_
      refine pe_getf d_Memory_leastFree_4 f_Memory_9 hM rfl ?_
      refine pe_icmpN_ge (tgt := 28) d_Memory_leastFree_7 (by decide) (by omega) (by omega) (fun c_7 => ?_) (fun c_7 => ?_)
      · refine pe_iconst (v := -1) d_Memory_leastFree_28 (by decide) ?_
        refine pe_iret d_Memory_leastFree_29 rfl ?_
        exact ⟨by rw [ff_end (by omega), orm_ge (by omega)], rfl, rfl⟩
      · have c_7 : i < np := by omega
        refine pe_aload_n d_Memory_leastFree_10 rfl ?_
        refine pe_getf d_Memory_leastFree_11 f_Memory_19 hM rfl ?_
        refine pe_iload_n d_Memory_leastFree_14 rfl ?_
        refine pe_ialdN d_Memory_leastFree_15 hO (by omega) (by omega) ?_
        refine pe_iconst (v := -1) d_Memory_leastFree_16 (by decide) ?_
        refine pe_icmp_ne (tgt := 22) d_Memory_leastFree_17 (by decide) (fun c_17 => ?_) (fun c_17 => ?_)
        · refine pe_iincN d_Memory_leastFree_22 rfl (by decide) rfl ?_
          dsimp only [List.set]
          refine pe_goto (tgt := 2) d_Memory_leastFree_25 (by decide) ?_
          have e := ih (i + 1) (by omega) (by omega)
          rw [← ff_no c_7 (by simpa using c_17)] at e
          exact e
        · refine pe_iload_n d_Memory_leastFree_20 rfl ?_
          refine pe_iret d_Memory_leastFree_21 rfl ?_
          exact ⟨by rw [ff_yes c_7 (decide_eq_true c_17), orm_lt c_7], rfl, rfl⟩
  change pz_E l L xs M_Memory_leastFree 0 0 0 0 [some (.ref 1), none] [] h z _
  refine pe_iconst (v := nI 0) d_Memory_leastFree_0 (by decide) ?_
  refine pe_istore_n d_Memory_leastFree_1 (by decide) rfl ?_
  dsimp only [List.set]
  exact loop (np + 1) 0 (by omega) (by omega)
set_option maxHeartbeats 2000000 in
set_option maxRecDepth 20000 in
theorem c_Memory_pagesOf {l : Launch} {L : Nat} {xs : Nat → Int32} {h : pz_H} {z : Nat} {np : Nat} {mw mo mr mt : Nat → Int32} {mn : Nat → Bool} {md : Nat → Int32} {ts ck : Nat} (hm : MEM h np mw mo mr mt mn md ts ck) (x : Int32) : pz_K l L xs M_Memory_pagesOf 0 0 0 [.ref 1, .int x] h z (fun v h' z' => v = some (.int (nI (cnt (fun j => decide (mo j = x)) (np - 0) 0))) ∧ h = h' ∧ z = z') := by
  obtain ⟨hM, hW, hO, hR, hT, hN, hD, hn1, hn2⟩ := id hm
  refine pz_K.of rfl (Nat.le_of_ble_eq_true rfl) ?_
  have loop : ∀ (n : Nat) (i u : Nat), i ≤ np → u ≤ i → np + 1 ≤ i + n → pz_E l L xs M_Memory_pagesOf 0 0 0 4 [some (.ref 1), some (.int x), some (.int (nI u)), some (.int (nI i))] [] h z (fun v h' z' => v = some (.int (nI (u + cnt (fun j => decide (mo j = x)) (np - i) i))) ∧ h = h' ∧ z = z') := by
    intro n
    induction n with
    | zero => intros; omega
    | succ n ih =>
      intro i u hi hu hin
      refine pe_iload_n d_Memory_pagesOf_4 rfl ?_
      refine pe_aload_n d_Memory_pagesOf_5 rfl ?_
      refine pe_getf d_Memory_pagesOf_6 f_Memory_9 hM rfl ?_
      refine pe_icmpN_ge (tgt := 31) d_Memory_pagesOf_9 (by decide) (by omega) (by omega) (fun c_9 => ?_) (fun c_9 => ?_)
      · refine pe_iload_n d_Memory_pagesOf_31 rfl ?_
        refine pe_iret d_Memory_pagesOf_32 rfl ?_
        rw [cnt_end (P := (fun j => decide (mo j = x))) (by omega)]
        exact ⟨rfl, rfl, rfl⟩
      · have c_9 : i < np := by omega
        refine pe_aload_n d_Memory_pagesOf_12 rfl ?_
        refine pe_getf d_Memory_pagesOf_13 f_Memory_19 hM rfl ?_
        refine pe_iload_n d_Memory_pagesOf_16 rfl ?_
        refine pe_ialdN d_Memory_pagesOf_17 hO (by omega) (by omega) ?_
        refine pe_iload_n d_Memory_pagesOf_18 rfl ?_
        refine pe_icmp_ne (tgt := 25) d_Memory_pagesOf_19 (by decide) (fun c_19 => ?_) (fun c_19 => ?_)
        · refine pe_iincN d_Memory_pagesOf_25 rfl (by decide) rfl ?_
          dsimp only [List.set]
          refine pe_goto (tgt := 4) d_Memory_pagesOf_28 (by decide) ?_
          have e := ih (i + 1) u (by omega) (by omega) (by omega)
          rw [cnt_no (P := (fun j => decide (mo j = x))) c_9 (by simp_all)]
          exact e
        · refine pe_iincN d_Memory_pagesOf_22 rfl (by decide) rfl ?_
          dsimp only [List.set]
          refine pe_iincN d_Memory_pagesOf_25 rfl (by decide) rfl ?_
          dsimp only [List.set]
          refine pe_goto (tgt := 4) d_Memory_pagesOf_28 (by decide) ?_
          have e := ih (i + 1) (u + 1) (by omega) (by omega) (by omega)
          rw [cnt_yes (P := (fun j => decide (mo j = x))) c_9 (by simp_all)]
          exact e
  change pz_E l L xs M_Memory_pagesOf 0 0 0 0 [some (.ref 1), some (.int x), none, none] [] h z _
  refine pe_iconst (v := nI 0) d_Memory_pagesOf_0 (by decide) ?_
  refine pe_istore_n d_Memory_pagesOf_1 (by decide) rfl ?_
  dsimp only [List.set]
  refine pe_iconst (v := nI 0) d_Memory_pagesOf_2 (by decide) ?_
  refine pe_istore_n d_Memory_pagesOf_3 (by decide) rfl ?_
  dsimp only [List.set]
  have e := loop (np + 1) 0 0 (by omega) (by omega) (by omega)
  rw [Nat.zero_add] at e
  exact e
set_option maxHeartbeats 2000000 in
set_option maxRecDepth 20000 in
theorem c_Memory_namedPagesOf {l : Launch} {L : Nat} {xs : Nat → Int32} {h : pz_H} {z : Nat} {np : Nat} {mw mo mr mt : Nat → Int32} {mn : Nat → Bool} {md : Nat → Int32} {ts ck : Nat} (hm : MEM h np mw mo mr mt mn md ts ck) (x : Int32) : pz_K l L xs M_Memory_namedPagesOf 0 0 0 [.ref 1, .int x] h z (fun v h' z' => v = some (.int (nI (cnt (fun j => decide (mo j = x) && mn j) (np - 0) 0))) ∧ h = h' ∧ z = z') := by
  obtain ⟨hM, hW, hO, hR, hT, hN, hD, hn1, hn2⟩ := id hm
  refine pz_K.of rfl (Nat.le_of_ble_eq_true rfl) ?_
  have loop : ∀ (n : Nat) (i u : Nat), i ≤ np → u ≤ i → np + 1 ≤ i + n → pz_E l L xs M_Memory_namedPagesOf 0 0 0 4 [some (.ref 1), some (.int x), some (.int (nI u)), some (.int (nI i))] [] h z (fun v h' z' => v = some (.int (nI (u + cnt (fun j => decide (mo j = x) && mn j) (np - i) i))) ∧ h = h' ∧ z = z') := by
    intro n
    induction n with
    | zero => intros; omega
    | succ n ih =>
      intro i u hi hu hin
      refine pe_iload_n d_Memory_namedPagesOf_4 rfl ?_
      refine pe_aload_n d_Memory_namedPagesOf_5 rfl ?_
      refine pe_getf d_Memory_namedPagesOf_6 f_Memory_9 hM rfl ?_
      refine pe_icmpN_ge (tgt := 40) d_Memory_namedPagesOf_9 (by decide) (by omega) (by omega) (fun c_9 => ?_) (fun c_9 => ?_)
      · refine pe_iload_n d_Memory_namedPagesOf_40 rfl ?_
        refine pe_iret d_Memory_namedPagesOf_41 rfl ?_
        rw [cnt_end (P := (fun j => decide (mo j = x) && mn j)) (by omega)]
        exact ⟨rfl, rfl, rfl⟩
      · have c_9 : i < np := by omega
        refine pe_aload_n d_Memory_namedPagesOf_12 rfl ?_
        refine pe_getf d_Memory_namedPagesOf_13 f_Memory_19 hM rfl ?_
        refine pe_iload_n d_Memory_namedPagesOf_16 rfl ?_
        refine pe_ialdN d_Memory_namedPagesOf_17 hO (by omega) (by omega) ?_
        refine pe_iload_n d_Memory_namedPagesOf_18 rfl ?_
        refine pe_icmp_ne (tgt := 34) d_Memory_namedPagesOf_19 (by decide) (fun c_19 => ?_) (fun c_19 => ?_)
        · refine pe_iincN d_Memory_namedPagesOf_34 rfl (by decide) rfl ?_
          dsimp only [List.set]
          refine pe_goto (tgt := 4) d_Memory_namedPagesOf_37 (by decide) ?_
          have e := ih (i + 1) u (by omega) (by omega) (by omega)
          rw [cnt_no (P := (fun j => decide (mo j = x) && mn j)) c_9 (by simp_all)]
          exact e
        · refine pe_aload_n d_Memory_namedPagesOf_22 rfl ?_
          refine pe_getf d_Memory_namedPagesOf_23 f_Memory_28 hM rfl ?_
          refine pe_iload_n d_Memory_namedPagesOf_26 rfl ?_
          refine pe_zaldN d_Memory_namedPagesOf_27 hN (by omega) (by omega) ?_
          refine pe_if_eq (tgt := 34) d_Memory_namedPagesOf_28 (by decide) (fun c_28 => ?_) (fun c_28 => ?_)
          · have c_28 := pb_0.mp c_28
            refine pe_iincN d_Memory_namedPagesOf_34 rfl (by decide) rfl ?_
            dsimp only [List.set]
            refine pe_goto (tgt := 4) d_Memory_namedPagesOf_37 (by decide) ?_
            have e := ih (i + 1) u (by omega) (by omega) (by omega)
            rw [cnt_no (P := (fun j => decide (mo j = x) && mn j)) c_9 (by simp_all)]
            exact e
          · have c_28 := pb_n0.mp c_28
            refine pe_iincN d_Memory_namedPagesOf_31 rfl (by decide) rfl ?_
            dsimp only [List.set]
            refine pe_iincN d_Memory_namedPagesOf_34 rfl (by decide) rfl ?_
            dsimp only [List.set]
            refine pe_goto (tgt := 4) d_Memory_namedPagesOf_37 (by decide) ?_
            have e := ih (i + 1) (u + 1) (by omega) (by omega) (by omega)
            rw [cnt_yes (P := (fun j => decide (mo j = x) && mn j)) c_9 (by simp_all)]
            exact e
  change pz_E l L xs M_Memory_namedPagesOf 0 0 0 0 [some (.ref 1), some (.int x), none, none] [] h z _
  refine pe_iconst (v := nI 0) d_Memory_namedPagesOf_0 (by decide) ?_
  refine pe_istore_n d_Memory_namedPagesOf_1 (by decide) rfl ?_
  dsimp only [List.set]
  refine pe_iconst (v := nI 0) d_Memory_namedPagesOf_2 (by decide) ?_
  refine pe_istore_n d_Memory_namedPagesOf_3 (by decide) rfl ?_
  dsimp only [List.set]
  have e := loop (np + 1) 0 0 (by omega) (by omega) (by omega)
  rw [Nat.zero_add] at e
  exact e
set_option maxHeartbeats 2000000 in
set_option maxRecDepth 20000 in
theorem c_Memory_bind {l : Launch} {L : Nat} {xs : Nat → Int32} {h : pz_H} {z : Nat} {np : Nat} {mw mo mr mt : Nat → Int32} {mn : Nat → Bool} {md : Nat → Int32} {ts ck : Nat} (hm : MEM h np mw mo mr mt mn md ts ck) {p : Nat} (hp : p < np) (x : Int32) : pz_K l L xs M_Memory_bind 1 0 0 [.ref 1, .int (nI p), .int x] h z (fun v h' z' => v = none ∧ z = z' ∧ MEM h' np (fil mw (fun _ => 0) (p * 4) 4) (upd mo p x) mr (upd mt p (nI ts)) mn md (ts + 1) ck ∧ frm 1 8 h h') := by
  obtain ⟨hM, hW, hO, hR, hT, hN, hD, hn1, hn2⟩ := id hm
  have hf : frm 1 8 h h := frm.rf
  refine pz_K.of rfl (Nat.le_of_ble_eq_true rfl) ?_
  have loop : ∀ (n : Nat) (i : Nat) (k : pz_H), i ≤ 4 → 5 ≤ i + n → MEM k np (fil mw (fun _ => 0) (p * 4) i) (upd mo p x) mr (upd mt p (nI ts)) mn md (ts + 1) ck → frm 1 8 h k → pz_E l L xs M_Memory_bind 1 0 0 29 [some (.ref 1), some (.int (nI p)), some (.int x), some (.int (nI i))] [] k z (fun v h' z' => v = none ∧ z = z' ∧ MEM h' np (fil mw (fun _ => 0) (p * 4) 4) (upd mo p x) mr (upd mt p (nI ts)) mn md (ts + 1) ck ∧ frm 1 8 h h') := by
    intro n
    induction n with
    | zero => intros; omega
    | succ n ih =>
      intro i k hi hin hm hf
      obtain ⟨hM, hW, hO, hR, hT, hN, hD, hn1, hn2⟩ := id hm
      refine pe_iload_n d_Memory_bind_29 rfl ?_
      refine pe_iconst (v := nI 4) d_Memory_bind_30 (by decide) ?_
      refine pe_icmpN_ge (tgt := 47) d_Memory_bind_31 (by decide) (by omega) (by omega) (fun c_31 => ?_) (fun c_31 => ?_)
      · refine pe_vret d_Memory_bind_47 rfl ?_
        have e : i = 4 := by omega
        subst e
        exact ⟨rfl, rfl, hm, hf⟩
      · refine pe_aload_n d_Memory_bind_34 rfl ?_
        refine pe_iload_n d_Memory_bind_35 rfl ?_
        refine pe_iload_n d_Memory_bind_36 rfl ?_
        refine pe_iconst (v := nI 0) d_Memory_bind_37 (by decide) ?_
        -- 38: Memory_setWord
        refine pe_callV d_Memory_bind_38 m_Memory_41 j_Memory_setWord v_Memory_setWord (c_Memory_setWord hm (p := p) (q := i) (by omega) (by omega) (nI 0)) rfl rfl (by simp [Value.category]) (by decide) hM rfl rfl ?_
        intro v1 h1 z1 hq1
        obtain ⟨rfl, rfl, hm, hf1⟩ := hq1
        obtain ⟨hM, hW, hO, hR, hT, hN, hD, hn1, hn2⟩ := id hm
        have hf := hf.tr hf1
        change pz_E _ _ _ _ _ _ _ _ _ _ _ _ _
        refine pe_iincN d_Memory_bind_41 rfl (by decide) rfl ?_
        dsimp only [List.set]
        refine pe_goto (tgt := 29) d_Memory_bind_44 (by decide) ?_
        rw [show nI 0 = (fun _ => (0 : Int32)) (p * 4 + i) from rfl, fil_s] at hm
        exact ih (i + 1) _ (by omega) (by omega) hm hf
  change pz_E l L xs M_Memory_bind 1 0 0 0 [some (.ref 1), some (.int (nI p)), some (.int x), none] [] h z _
  refine pe_aload_n d_Memory_bind_0 rfl ?_
  refine pe_getf d_Memory_bind_1 f_Memory_19 hM rfl ?_
  refine pe_iload_n d_Memory_bind_4 rfl ?_
  refine pe_iload_n d_Memory_bind_5 rfl ?_
  refine pe_iastN d_Memory_bind_6 hO (by omega) (by omega) ?_
  refine pe_pu (fun h2 e2 o2 => ?_)
  have hM := (o2 (1) (by omega)).trans hM
  have hW := (o2 (2) (by omega)).trans hW
  have hO := e2
  have hR := (o2 (4) (by omega)).trans hR
  have hT := (o2 (5) (by omega)).trans hT
  have hN := (o2 (6) (by omega)).trans hN
  have hD := (o2 (7) (by omega)).trans hD
  have hf := hf.st o2 (by omega) (by omega)
  refine pe_aload_n d_Memory_bind_7 rfl ?_
  refine pe_getf d_Memory_bind_8 f_Memory_25 hM rfl ?_
  refine pe_iload_n d_Memory_bind_11 rfl ?_
  refine pe_aload_n d_Memory_bind_12 rfl ?_
  refine pe_getf d_Memory_bind_13 f_Memory_35 hM rfl ?_
  refine pe_iastN d_Memory_bind_16 hT (by omega) (by omega) ?_
  refine pe_pu (fun h2 e2 o2 => ?_)
  have hM := (o2 (1) (by omega)).trans hM
  have hW := (o2 (2) (by omega)).trans hW
  have hO := (o2 (3) (by omega)).trans hO
  have hR := (o2 (4) (by omega)).trans hR
  have hT := e2
  have hN := (o2 (6) (by omega)).trans hN
  have hD := (o2 (7) (by omega)).trans hD
  have hf := hf.st o2 (by omega) (by omega)
  refine pe_aload_n d_Memory_bind_17 rfl ?_
  refine pe_dup d_Memory_bind_18 rfl ?_
  refine pe_getf d_Memory_bind_19 f_Memory_35 hM rfl ?_
  refine pe_iconst (v := nI 1) d_Memory_bind_22 (by decide) ?_
  refine pe_iaddN d_Memory_bind_23 ?_
  refine pe_put d_Memory_bind_24 g_Memory_35 hM (Nat.le_of_ble_eq_true rfl) rfl ?_
  refine pe_pu (fun h2 e2 o2 => ?_)
  have hM := e2
  have hW := (o2 (2) (by omega)).trans hW
  have hO := (o2 (3) (by omega)).trans hO
  have hR := (o2 (4) (by omega)).trans hR
  have hT := (o2 (5) (by omega)).trans hT
  have hN := (o2 (6) (by omega)).trans hN
  have hD := (o2 (7) (by omega)).trans hD
  have hf := hf.st o2 (by omega) (by omega)
  refine pe_iconst (v := nI 0) d_Memory_bind_27 (by decide) ?_
  refine pe_istore_n d_Memory_bind_28 (by decide) rfl ?_
  dsimp only [List.set]
  have hm : MEM h2 np (fil mw (fun _ => 0) (p * 4) 0) (upd mo p x) mr (upd mt p (nI ts)) mn md (ts + 1) ck := by rw [fil_0]; exact ⟨hM, hW, hO, hR, hT, hN, hD, hn1, hn2⟩
  exact loop 5 0 _ (by omega) (by omega) hm hf
set_option maxHeartbeats 2000000 in
set_option maxRecDepth 20000 in
theorem c_Memory_free {l : Launch} {L : Nat} {xs : Nat → Int32} {h : pz_H} {z : Nat} {np : Nat} {mw mo mr mt : Nat → Int32} {mn : Nat → Bool} {md : Nat → Int32} {ts ck : Nat} (hm : MEM h np mw mo mr mt mn md ts ck) {p : Nat} (hp : p < np) : pz_K l L xs M_Memory_free 1 0 0 [.ref 1, .int (nI p)] h z (fun v h' z' => v = none ∧ z = z' ∧ MEM h' np mw (upd mo p (-1)) (fil mr (fun _ => 0) (p * 6) 6) mt (updB mn p false) md ts ck ∧ frm 1 8 h h') := by
  obtain ⟨hM, hW, hO, hR, hT, hN, hD, hn1, hn2⟩ := id hm
  have hf : frm 1 8 h h := frm.rf
  refine pz_K.of rfl (Nat.le_of_ble_eq_true rfl) ?_
  have loop : ∀ (n : Nat) (i : Nat) (k : pz_H), i ≤ 6 → 7 ≤ i + n → MEM k np mw (upd mo p (-1)) (fil mr (fun _ => 0) (p * 6) i) mt (updB mn p false) md ts ck → frm 1 8 h k → pz_E l L xs M_Memory_free 1 0 0 16 [some (.ref 1), some (.int (nI p)), some (.int (nI i))] [] k z (fun v h' z' => v = none ∧ z = z' ∧ MEM h' np mw (upd mo p (-1)) (fil mr (fun _ => 0) (p * 6) 6) mt (updB mn p false) md ts ck ∧ frm 1 8 h h') := by
    intro n
    induction n with
    | zero => intros; omega
    | succ n ih =>
      intro i k hi hin hm hf
      obtain ⟨hM, hW, hO, hR, hT, hN, hD, hn1, hn2⟩ := id hm
      refine pe_iload_n d_Memory_free_16 rfl ?_
      refine pe_bipush (v := nI 6) d_Memory_free_17 (by decide) ?_
      refine pe_icmpN_ge (tgt := 35) d_Memory_free_19 (by decide) (by omega) (by omega) (fun c_19 => ?_) (fun c_19 => ?_)
      · refine pe_vret d_Memory_free_35 rfl ?_
        have e : i = 6 := by omega
        subst e
        exact ⟨rfl, rfl, hm, hf⟩
      · refine pe_aload_n d_Memory_free_22 rfl ?_
        refine pe_iload_n d_Memory_free_23 rfl ?_
        refine pe_iload_n d_Memory_free_24 rfl ?_
        refine pe_iconst (v := nI 0) d_Memory_free_25 (by decide) ?_
        -- 26: Memory_setRight
        refine pe_callV d_Memory_free_26 m_Memory_45 j_Memory_setRight v_Memory_setRight (c_Memory_setRight hm (p := p) (q := i) (by omega) (by omega) (nI 0)) rfl rfl (by simp [Value.category]) (by decide) hM rfl rfl ?_
        intro v1 h1 z1 hq1
        obtain ⟨rfl, rfl, hm, hf1⟩ := hq1
        obtain ⟨hM, hW, hO, hR, hT, hN, hD, hn1, hn2⟩ := id hm
        have hf := hf.tr hf1
        change pz_E _ _ _ _ _ _ _ _ _ _ _ _ _
        refine pe_iincN d_Memory_free_29 rfl (by decide) rfl ?_
        dsimp only [List.set]
        refine pe_goto (tgt := 16) d_Memory_free_32 (by decide) ?_
        rw [show nI 0 = (fun _ => (0 : Int32)) (p * 6 + i) from rfl, fil_s] at hm
        exact ih (i + 1) _ (by omega) (by omega) hm hf
  change pz_E l L xs M_Memory_free 1 0 0 0 [some (.ref 1), some (.int (nI p)), none] [] h z _
  refine pe_aload_n d_Memory_free_0 rfl ?_
  refine pe_getf d_Memory_free_1 f_Memory_19 hM rfl ?_
  refine pe_iload_n d_Memory_free_4 rfl ?_
  refine pe_iconst (v := -1) d_Memory_free_5 (by decide) ?_
  refine pe_iastN d_Memory_free_6 hO (by omega) (by omega) ?_
  refine pe_pu (fun h2 e2 o2 => ?_)
  have hM := (o2 (1) (by omega)).trans hM
  have hW := (o2 (2) (by omega)).trans hW
  have hO := e2
  have hR := (o2 (4) (by omega)).trans hR
  have hT := (o2 (5) (by omega)).trans hT
  have hN := (o2 (6) (by omega)).trans hN
  have hD := (o2 (7) (by omega)).trans hD
  have hf := hf.st o2 (by omega) (by omega)
  refine pe_aload_n d_Memory_free_7 rfl ?_
  refine pe_getf d_Memory_free_8 f_Memory_28 hM rfl ?_
  refine pe_iload_n d_Memory_free_11 rfl ?_
  refine pe_iconst (v := nI 0) d_Memory_free_12 (by decide) ?_
  refine pe_top (y := .int (pb false)) (by decide) ?_
  refine pe_zastN d_Memory_free_13 hN (by omega) (by omega) ?_
  rw [upb]
  refine pe_pu (fun h2 e2 o2 => ?_)
  have hM := (o2 (1) (by omega)).trans hM
  have hW := (o2 (2) (by omega)).trans hW
  have hO := (o2 (3) (by omega)).trans hO
  have hR := (o2 (4) (by omega)).trans hR
  have hT := (o2 (5) (by omega)).trans hT
  have hN := e2
  have hD := (o2 (7) (by omega)).trans hD
  have hf := hf.st o2 (by omega) (by omega)
  refine pe_iconst (v := nI 0) d_Memory_free_14 (by decide) ?_
  refine pe_istore_n d_Memory_free_15 (by decide) rfl ?_
  dsimp only [List.set]
  have hm : MEM h2 np mw (upd mo p (-1)) (fil mr (fun _ => 0) (p * 6) 0) mt (updB mn p false) md ts ck := by rw [fil_0]; exact ⟨hM, hW, hO, hR, hT, hN, hD, hn1, hn2⟩
  exact loop 7 0 _ (by omega) (by omega) hm hf
/-- what forgetting x (= nI a) leaves behind the pages below i -/
def fgO (mo : Nat → Int32) (x : Int32) (i : Nat) : Nat → Int32 := fun j => if j < i ∧ mo j = x then -1 else mo j
def fgN (mo : Nat → Int32) (mn : Nat → Bool) (x : Int32) (i : Nat) : Nat → Bool := fun j => if j < i ∧ mo j = x then false else mn j
def fgR (mo mr : Nat → Int32) (x : Int32) (a i : Nat) : Nat → Int32 := fun t => if t / 6 < i ∧ (mo (t / 6) = x ∨ t % 6 = a) then 0 else mr t
theorem fg_0 (mo mr : Nat → Int32) (mn : Nat → Bool) (x : Int32) (a : Nat) : fgO mo x 0 = mo ∧ fgN mo mn x 0 = mn ∧ fgR mo mr x a 0 = mr := by
  refine ⟨?_, ?_, ?_⟩ <;> funext j <;> simp [fgO, fgN, fgR]
theorem fgO_i (mo : Nat → Int32) (x : Int32) (i : Nat) : fgO mo x i i = mo i := by simp [fgO]
theorem fg_y {mo mr : Nat → Int32} {mn : Nat → Bool} {x : Int32} {a i : Nat} (ha : a < 6) (hx : mo i = x) : upd (fgO mo x i) i (-1) = fgO mo x (i + 1) ∧ updB (fgN mo mn x i) i false = fgN mo mn x (i + 1) ∧ fil (upd (fgR mo mr x a i) (i * 6 + a) 0) (fun _ => 0) (i * 6) 6 = fgR mo mr x a (i + 1) := by
  refine ⟨?_, ?_, ?_⟩
  · funext j
    by_cases e : j = i
    · subst e; simp [upd, fgO, hx]
    · have h1 : (j < i) ↔ (j < i + 1) := by omega
      simp [upd, fgO, e, h1]
  · funext j
    by_cases e : j = i
    · subst e; simp [updB, fgN, hx]
    · have h1 : (j < i) ↔ (j < i + 1) := by omega
      simp [updB, fgN, e, h1]
  · funext t
    unfold fil
    by_cases e : i * 6 ≤ t ∧ t < i * 6 + 6
    · have h1 : t / 6 = i := by omega
      rw [if_pos e]
      simp [fgR, h1, hx]
    · rw [if_neg e]
      have h1 : (t / 6 < i) ↔ (t / 6 < i + 1) := by omega
      have h2 : t ≠ i * 6 + a := by omega
      simp [upd, h2, fgR, h1]
theorem fg_n {mo mr : Nat → Int32} {mn : Nat → Bool} {x : Int32} {a i : Nat} (ha : a < 6) (hx : ¬ mo i = x) : fgO mo x i = fgO mo x (i + 1) ∧ fgN mo mn x i = fgN mo mn x (i + 1) ∧ upd (fgR mo mr x a i) (i * 6 + a) 0 = fgR mo mr x a (i + 1) := by
  refine ⟨?_, ?_, ?_⟩
  · funext j
    by_cases e : j = i
    · subst e; simp [fgO, hx]
    · have h1 : (j < i) ↔ (j < i + 1) := by omega
      simp [fgO, h1]
  · funext j
    by_cases e : j = i
    · subst e; simp [fgN, hx]
    · have h1 : (j < i) ↔ (j < i + 1) := by omega
      simp [fgN, h1]
  · funext t
    by_cases e : t = i * 6 + a
    · have h1 : t / 6 = i := by omega
      have h2 : t % 6 = a := by omega
      simp [upd, e, fgR]
      omega
    · rw [upd_ne e]
      by_cases h1 : t / 6 = i
      · have h2 : ¬ t % 6 = a := by omega
        simp [fgR, h1, h2, hx]
      · have h3 : (t / 6 < i) ↔ (t / 6 < i + 1) := by omega
        simp [fgR, h3]
set_option maxHeartbeats 2000000 in
set_option maxRecDepth 20000 in
theorem c_Memory_forget {l : Launch} {L : Nat} {xs : Nat → Int32} {h : pz_H} {z : Nat} {np : Nat} {mw mo mr mt : Nat → Int32} {mn : Nat → Bool} {md : Nat → Int32} {ts ck : Nat} (hm : MEM h np mw mo mr mt mn md ts ck) {a : Nat} (ha : a < 6) : pz_K l L xs M_Memory_forget 2 0 0 [.ref 1, .int (nI a)] h z (fun v h' z' => v = none ∧ z = z' ∧ MEM h' np mw (fgO mo (nI a) np) (fgR mo mr (nI a) a np) mt (fgN mo mn (nI a) np) md ts ck ∧ frm 1 8 h h') := by
  obtain ⟨hM, hW, hO, hR, hT, hN, hD, hn1, hn2⟩ := id hm
  have hf : frm 1 8 h h := frm.rf
  refine pz_K.of rfl (Nat.le_of_ble_eq_true rfl) ?_
  have loop : ∀ (n : Nat) (i : Nat) (k : pz_H), i ≤ np → np + 1 ≤ i + n → MEM k np mw (fgO mo (nI a) i) (fgR mo mr (nI a) a i) mt (fgN mo mn (nI a) i) md ts ck → frm 1 8 h k → pz_E l L xs M_Memory_forget 2 0 0 2 [some (.ref 1), some (.int (nI a)), some (.int (nI i))] [] k z (fun v h' z' => v = none ∧ z = z' ∧ MEM h' np mw (fgO mo (nI a) np) (fgR mo mr (nI a) a np) mt (fgN mo mn (nI a) np) md ts ck ∧ frm 1 8 h h') := by
    intro n
    induction n with
    | zero => intros; omega
    | succ n ih =>
      intro i k hi hin hm hf
      obtain ⟨hM, hW, hO, hR, hT, hN, hD, hn1, hn2⟩ := id hm
      refine pe_iload_n d_Memory_forget_2 rfl ?_
      refine pe_aload_n d_Memory_forget_3 rfl ?_
      refine pe_getf d_Memory_forget_4 f_Memory_9 hM rfl ?_
      refine pe_icmpN_ge (tgt := 38) d_Memory_forget_7 (by decide) (by omega) (by omega) (fun c_7 => ?_) (fun c_7 => ?_)
      · refine pe_vret d_Memory_forget_38 rfl ?_
        have e : i = np := by omega
        subst e
        exact ⟨rfl, rfl, hm, hf⟩
      · have c_7 : i < np := by omega
        refine pe_aload_n d_Memory_forget_10 rfl ?_
        refine pe_iload_n d_Memory_forget_11 rfl ?_
        refine pe_iload_n d_Memory_forget_12 rfl ?_
        refine pe_iconst (v := nI 0) d_Memory_forget_13 (by decide) ?_
        -- 14: Memory_setRight
        refine pe_callV d_Memory_forget_14 m_Memory_45 j_Memory_setRight v_Memory_setRight (c_Memory_setRight hm (p := i) (q := a) (by omega) (by omega) (nI 0)) rfl rfl (by simp [Value.category]) (by decide) hM rfl rfl ?_
        intro v1 h1 z1 hq1
        obtain ⟨rfl, rfl, hm, hf1⟩ := hq1
        obtain ⟨hM, hW, hO, hR, hT, hN, hD, hn1, hn2⟩ := id hm
        have hf := hf.tr hf1
        change pz_E _ _ _ _ _ _ _ _ _ _ _ _ _
        refine pe_aload_n d_Memory_forget_17 rfl ?_
        refine pe_getf d_Memory_forget_18 f_Memory_19 hM rfl ?_
        refine pe_iload_n d_Memory_forget_21 rfl ?_
        refine pe_ialdN d_Memory_forget_22 hO (by omega) (by omega) ?_
        refine pe_iload_n d_Memory_forget_23 rfl ?_
        refine pe_icmp_ne (tgt := 32) d_Memory_forget_24 (by decide) (fun c_24 => ?_) (fun c_24 => ?_)
        · refine pe_iincN d_Memory_forget_32 rfl (by decide) rfl ?_
          dsimp only [List.set]
          refine pe_goto (tgt := 2) d_Memory_forget_35 (by decide) ?_
          rw [fgO_i] at c_24
          first | (obtain ⟨e1, e2, e3⟩ := fg_y (mr := mr) (mn := mn) ha c_24; rw [show nI 0 = (0 : Int32) from rfl, e1, e2, e3] at hm; exact ih (i + 1) _ (by omega) (by omega) hm hf) | (obtain ⟨e1, e2, e3⟩ := fg_n (mr := mr) (mn := mn) ha c_24; rw [show nI 0 = (0 : Int32) from rfl, e1, e2, e3] at hm; exact ih (i + 1) _ (by omega) (by omega) hm hf)
        · refine pe_aload_n d_Memory_forget_27 rfl ?_
          refine pe_iload_n d_Memory_forget_28 rfl ?_
          -- 29: Memory_free
          refine pe_callV d_Memory_forget_29 m_Memory_48 j_Memory_free v_Memory_free (c_Memory_free hm (p := i) (by omega)) rfl rfl (by simp [Value.category]) (by decide) hM rfl rfl ?_
          intro v1 h1 z1 hq1
          obtain ⟨rfl, rfl, hm, hf1⟩ := hq1
          obtain ⟨hM, hW, hO, hR, hT, hN, hD, hn1, hn2⟩ := id hm
          have hf := hf.tr hf1
          change pz_E _ _ _ _ _ _ _ _ _ _ _ _ _
          refine pe_iincN d_Memory_forget_32 rfl (by decide) rfl ?_
          dsimp only [List.set]
          refine pe_goto (tgt := 2) d_Memory_forget_35 (by decide) ?_
          rw [fgO_i] at c_24
          first | (obtain ⟨e1, e2, e3⟩ := fg_y (mr := mr) (mn := mn) ha c_24; rw [show nI 0 = (0 : Int32) from rfl, e1, e2, e3] at hm; exact ih (i + 1) _ (by omega) (by omega) hm hf) | (obtain ⟨e1, e2, e3⟩ := fg_n (mr := mr) (mn := mn) ha c_24; rw [show nI 0 = (0 : Int32) from rfl, e1, e2, e3] at hm; exact ih (i + 1) _ (by omega) (by omega) hm hf)
  change pz_E l L xs M_Memory_forget 2 0 0 0 [some (.ref 1), some (.int (nI a)), none] [] h z _
  refine pe_iconst (v := nI 0) d_Memory_forget_0 (by decide) ?_
  refine pe_istore_n d_Memory_forget_1 (by decide) rfl ?_
  dsimp only [List.set]
  obtain ⟨e1, e2, e3⟩ := fg_0 mo mr mn (nI a) a
  have hm : MEM h np mw (fgO mo (nI a) 0) (fgR mo mr (nI a) a 0) mt (fgN mo mn (nI a) 0) md ts ck := by rw [e1, e2, e3]; exact hm
  exact loop (np + 1) 0 _ (by omega) (by omega) hm hf
set_option maxHeartbeats 2000000 in
set_option maxRecDepth 20000 in
theorem c_Memory_pageToName {l : Launch} {L : Nat} {xs : Nat → Int32} {h : pz_H} {z : Nat} {np : Nat} {mw mo mr mt : Nat → Int32} {mn : Nat → Bool} {md : Nat → Int32} {ts ck : Nat} (hm : MEM h np mw mo mr mt mn md ts ck) (x : Int32) : pz_K l L xs M_Memory_pageToName 0 0 0 [.ref 1, .int x] h z (fun v h' z' => v = some (.int (if 2 < cnt (fun j => decide (mo j = x) && !mn j) (np - 0) 0 then omi (sel (fun j => decide (mo j = x) && !mn j) (fun i l => !decide (mt i ≤ mt l)) (np - 0) 0 none) else -1)) ∧ h = h' ∧ z = z') := by
  obtain ⟨hM, hW, hO, hR, hT, hN, hD, hn1, hn2⟩ := id hm
  refine pz_K.of rfl (Nat.le_of_ble_eq_true rfl) ?_
  have loop : ∀ (n : Nat) (i u : Nat) (b : Option Nat), i ≤ np → u ≤ i → (∀ y, b = some y → y < i) → np + 1 ≤ i + n → pz_E l L xs M_Memory_pageToName 0 0 0 7 [some (.ref 1), some (.int x), some (.int (nI u)), some (.int (omi b)), some (.int (nI i))] [] h z (fun v h' z' => v = some (.int (if 2 < u + cnt (fun j => decide (mo j = x) && !mn j) (np - i) i then omi (sel (fun j => decide (mo j = x) && !mn j) (fun i l => !decide (mt i ≤ mt l)) (np - i) i b) else -1)) ∧ h = h' ∧ z = z') := by
    intro n
    induction n with
    | zero => intros; omega
    | succ n ih =>
      intro i u b hi hu hb hin
      match b, hb with
      | none, hb =>
        change pz_E l L xs M_Memory_pageToName 0 0 0 7 [some (.ref 1), some (.int x), some (.int (nI u)), some (.int (-1)), some (.int (nI i))] [] h z _
        refine pe_iload d_Memory_pageToName_7 rfl ?_
        refine pe_aload_n d_Memory_pageToName_9 rfl ?_
        refine pe_getf d_Memory_pageToName_10 f_Memory_9 hM rfl ?_
        refine pe_icmpN_ge (tgt := 70) d_Memory_pageToName_13 (by decide) (by omega) (by omega) (fun c_13 => ?_) (fun c_13 => ?_)
        · refine pe_iload_n d_Memory_pageToName_70 rfl ?_
          refine pe_iconst (v := nI 2) d_Memory_pageToName_71 (by decide) ?_
          refine pe_icmpN_le (tgt := 79) d_Memory_pageToName_72 (by decide) (by omega) (by omega) (fun c_72 => ?_) (fun c_72 => ?_)
          · refine pe_iconst (v := -1) d_Memory_pageToName_79 (by decide) ?_
            refine pe_iret d_Memory_pageToName_80 rfl ?_
            exact ⟨by rw [cnt_end (P := (fun j => decide (mo j = x) && !mn j)) (n := np) (i := i) (by omega), sel_end (C := (fun j => decide (mo j = x) && !mn j)) (lt := (fun i l => !decide (mt i ≤ mt l))) (n := np) (i := i) (by omega)]; first | (rw [if_pos (by omega)]; rfl) | (rw [if_neg (by omega)]), rfl, rfl⟩
          · refine pe_iload_n d_Memory_pageToName_75 rfl ?_
            refine pe_goto (tgt := 80) d_Memory_pageToName_76 (by decide) ?_
            refine pe_iret d_Memory_pageToName_80 rfl ?_
            exact ⟨by rw [cnt_end (P := (fun j => decide (mo j = x) && !mn j)) (n := np) (i := i) (by omega), sel_end (C := (fun j => decide (mo j = x) && !mn j)) (lt := (fun i l => !decide (mt i ≤ mt l))) (n := np) (i := i) (by omega)]; first | (rw [if_pos (by omega)]; rfl) | (rw [if_neg (by omega)]), rfl, rfl⟩
        · have c_13 : i < np := by omega
          refine pe_aload_n d_Memory_pageToName_16 rfl ?_
          refine pe_getf d_Memory_pageToName_17 f_Memory_19 hM rfl ?_
          refine pe_iload d_Memory_pageToName_20 rfl ?_
          refine pe_ialdN d_Memory_pageToName_22 hO (by omega) (by omega) ?_
          refine pe_iload_n d_Memory_pageToName_23 rfl ?_
          refine pe_icmp_ne (tgt := 64) d_Memory_pageToName_24 (by decide) (fun c_24 => ?_) (fun c_24 => ?_)
          · refine pe_iincN d_Memory_pageToName_64 rfl (by decide) rfl ?_
            dsimp only [List.set]
            refine pe_goto (tgt := 7) d_Memory_pageToName_67 (by decide) ?_
            have e := ih (i + 1) u none (by omega) (by omega) (fun y hy => by cases hy) (by omega)
            have hb9 : bst (fun j => decide (mo j = x) && !mn j) (fun i l => !decide (mt i ≤ mt l)) i none = none := by first | exact absurd c_42 (nI_nem1 (by omega)) | (simp_all [bst]; done)
            rw [sel_step (C := (fun j => decide (mo j = x) && !mn j)) (lt := (fun i l => !decide (mt i ≤ mt l))) c_13, hb9]
            rw [cnt_no (P := (fun j => decide (mo j = x) && !mn j)) c_13 (by simp_all)]
            exact e
          · refine pe_aload_n d_Memory_pageToName_27 rfl ?_
            refine pe_getf d_Memory_pageToName_28 f_Memory_28 hM rfl ?_
            refine pe_iload d_Memory_pageToName_31 rfl ?_
            refine pe_zaldN d_Memory_pageToName_33 hN (by omega) (by omega) ?_
            refine pe_if_ne (tgt := 64) d_Memory_pageToName_34 (by decide) (fun c_34 => ?_) (fun c_34 => ?_)
            · have c_34 := pb_n0.mp c_34
              refine pe_iincN d_Memory_pageToName_64 rfl (by decide) rfl ?_
              dsimp only [List.set]
              refine pe_goto (tgt := 7) d_Memory_pageToName_67 (by decide) ?_
              have e := ih (i + 1) u none (by omega) (by omega) (fun y hy => by cases hy) (by omega)
              have hb9 : bst (fun j => decide (mo j = x) && !mn j) (fun i l => !decide (mt i ≤ mt l)) i none = none := by first | exact absurd c_42 (nI_nem1 (by omega)) | (simp_all [bst]; done)
              rw [sel_step (C := (fun j => decide (mo j = x) && !mn j)) (lt := (fun i l => !decide (mt i ≤ mt l))) c_13, hb9]
              rw [cnt_no (P := (fun j => decide (mo j = x) && !mn j)) c_13 (by simp_all)]
              exact e
            · have c_34 := pb_0.mp c_34
              refine pe_iincN d_Memory_pageToName_37 rfl (by decide) rfl ?_
              dsimp only [List.set]
              refine pe_iload_n d_Memory_pageToName_40 rfl ?_
              refine pe_iconst (v := -1) d_Memory_pageToName_41 (by decide) ?_
              refine pe_icmp_eq (tgt := 61) d_Memory_pageToName_42 (by decide) (fun c_42 => ?_) (fun c_42 => ?_)
              · refine pe_iload d_Memory_pageToName_61 rfl ?_
                refine pe_istore_n d_Memory_pageToName_63 (by decide) rfl ?_
                dsimp only [List.set]
                refine pe_iincN d_Memory_pageToName_64 rfl (by decide) rfl ?_
                dsimp only [List.set]
                refine pe_goto (tgt := 7) d_Memory_pageToName_67 (by decide) ?_
                have e := ih (i + 1) (u + 1) (some i) (by omega) (by omega) (fun y hy => by cases hy; omega) (by omega)
                have hb9 : bst (fun j => decide (mo j = x) && !mn j) (fun i l => !decide (mt i ≤ mt l)) i none = (some i) := by first | exact absurd c_42 (nI_nem1 (by omega)) | (simp_all [bst]; done)
                rw [sel_step (C := (fun j => decide (mo j = x) && !mn j)) (lt := (fun i l => !decide (mt i ≤ mt l))) c_13, hb9]
                rw [cnt_yes (P := (fun j => decide (mo j = x) && !mn j)) c_13 (by simp_all)]
                exact e
              · exact absurd rfl c_42
      | some y1, hb =>
        have hl : y1 < i := hb y1 rfl
        change pz_E l L xs M_Memory_pageToName 0 0 0 7 [some (.ref 1), some (.int x), some (.int (nI u)), some (.int (nI y1)), some (.int (nI i))] [] h z _
        refine pe_iload d_Memory_pageToName_7 rfl ?_
        refine pe_aload_n d_Memory_pageToName_9 rfl ?_
        refine pe_getf d_Memory_pageToName_10 f_Memory_9 hM rfl ?_
        refine pe_icmpN_ge (tgt := 70) d_Memory_pageToName_13 (by decide) (by omega) (by omega) (fun c_13 => ?_) (fun c_13 => ?_)
        · refine pe_iload_n d_Memory_pageToName_70 rfl ?_
          refine pe_iconst (v := nI 2) d_Memory_pageToName_71 (by decide) ?_
          refine pe_icmpN_le (tgt := 79) d_Memory_pageToName_72 (by decide) (by omega) (by omega) (fun c_72 => ?_) (fun c_72 => ?_)
          · refine pe_iconst (v := -1) d_Memory_pageToName_79 (by decide) ?_
            refine pe_iret d_Memory_pageToName_80 rfl ?_
            exact ⟨by rw [cnt_end (P := (fun j => decide (mo j = x) && !mn j)) (n := np) (i := i) (by omega), sel_end (C := (fun j => decide (mo j = x) && !mn j)) (lt := (fun i l => !decide (mt i ≤ mt l))) (n := np) (i := i) (by omega)]; first | (rw [if_pos (by omega)]; rfl) | (rw [if_neg (by omega)]), rfl, rfl⟩
          · refine pe_iload_n d_Memory_pageToName_75 rfl ?_
            refine pe_goto (tgt := 80) d_Memory_pageToName_76 (by decide) ?_
            refine pe_iret d_Memory_pageToName_80 rfl ?_
            exact ⟨by rw [cnt_end (P := (fun j => decide (mo j = x) && !mn j)) (n := np) (i := i) (by omega), sel_end (C := (fun j => decide (mo j = x) && !mn j)) (lt := (fun i l => !decide (mt i ≤ mt l))) (n := np) (i := i) (by omega)]; first | (rw [if_pos (by omega)]; rfl) | (rw [if_neg (by omega)]), rfl, rfl⟩
        · have c_13 : i < np := by omega
          refine pe_aload_n d_Memory_pageToName_16 rfl ?_
          refine pe_getf d_Memory_pageToName_17 f_Memory_19 hM rfl ?_
          refine pe_iload d_Memory_pageToName_20 rfl ?_
          refine pe_ialdN d_Memory_pageToName_22 hO (by omega) (by omega) ?_
          refine pe_iload_n d_Memory_pageToName_23 rfl ?_
          refine pe_icmp_ne (tgt := 64) d_Memory_pageToName_24 (by decide) (fun c_24 => ?_) (fun c_24 => ?_)
          · refine pe_iincN d_Memory_pageToName_64 rfl (by decide) rfl ?_
            dsimp only [List.set]
            refine pe_goto (tgt := 7) d_Memory_pageToName_67 (by decide) ?_
            have e := ih (i + 1) u (some y1) (by omega) (by omega) (fun y hy => by cases hy; omega) (by omega)
            have hb9 : bst (fun j => decide (mo j = x) && !mn j) (fun i l => !decide (mt i ≤ mt l)) i (some y1) = (some y1) := by first | exact absurd c_42 (nI_nem1 (by omega)) | (simp_all [bst]; done)
            rw [sel_step (C := (fun j => decide (mo j = x) && !mn j)) (lt := (fun i l => !decide (mt i ≤ mt l))) c_13, hb9]
            rw [cnt_no (P := (fun j => decide (mo j = x) && !mn j)) c_13 (by simp_all)]
            exact e
          · refine pe_aload_n d_Memory_pageToName_27 rfl ?_
            refine pe_getf d_Memory_pageToName_28 f_Memory_28 hM rfl ?_
            refine pe_iload d_Memory_pageToName_31 rfl ?_
            refine pe_zaldN d_Memory_pageToName_33 hN (by omega) (by omega) ?_
            refine pe_if_ne (tgt := 64) d_Memory_pageToName_34 (by decide) (fun c_34 => ?_) (fun c_34 => ?_)
            · have c_34 := pb_n0.mp c_34
              refine pe_iincN d_Memory_pageToName_64 rfl (by decide) rfl ?_
              dsimp only [List.set]
              refine pe_goto (tgt := 7) d_Memory_pageToName_67 (by decide) ?_
              have e := ih (i + 1) u (some y1) (by omega) (by omega) (fun y hy => by cases hy; omega) (by omega)
              have hb9 : bst (fun j => decide (mo j = x) && !mn j) (fun i l => !decide (mt i ≤ mt l)) i (some y1) = (some y1) := by first | exact absurd c_42 (nI_nem1 (by omega)) | (simp_all [bst]; done)
              rw [sel_step (C := (fun j => decide (mo j = x) && !mn j)) (lt := (fun i l => !decide (mt i ≤ mt l))) c_13, hb9]
              rw [cnt_no (P := (fun j => decide (mo j = x) && !mn j)) c_13 (by simp_all)]
              exact e
            · have c_34 := pb_0.mp c_34
              refine pe_iincN d_Memory_pageToName_37 rfl (by decide) rfl ?_
              dsimp only [List.set]
              refine pe_iload_n d_Memory_pageToName_40 rfl ?_
              refine pe_iconst (v := -1) d_Memory_pageToName_41 (by decide) ?_
              refine pe_icmp_eq (tgt := 61) d_Memory_pageToName_42 (by decide) (fun c_42 => ?_) (fun c_42 => ?_)
              · refine pe_iload d_Memory_pageToName_61 rfl ?_
                refine pe_istore_n d_Memory_pageToName_63 (by decide) rfl ?_
                dsimp only [List.set]
                refine pe_iincN d_Memory_pageToName_64 rfl (by decide) rfl ?_
                dsimp only [List.set]
                refine pe_goto (tgt := 7) d_Memory_pageToName_67 (by decide) ?_
                have e := ih (i + 1) (u + 1) (some i) (by omega) (by omega) (fun y hy => by cases hy; omega) (by omega)
                have hb9 : bst (fun j => decide (mo j = x) && !mn j) (fun i l => !decide (mt i ≤ mt l)) i (some y1) = (some i) := by first | exact absurd c_42 (nI_nem1 (by omega)) | (simp_all [bst]; done)
                rw [sel_step (C := (fun j => decide (mo j = x) && !mn j)) (lt := (fun i l => !decide (mt i ≤ mt l))) c_13, hb9]
                rw [cnt_yes (P := (fun j => decide (mo j = x) && !mn j)) c_13 (by simp_all)]
                exact e
              · refine pe_aload_n d_Memory_pageToName_45 rfl ?_
                refine pe_getf d_Memory_pageToName_46 f_Memory_25 hM rfl ?_
                refine pe_iload d_Memory_pageToName_49 rfl ?_
                refine pe_ialdN d_Memory_pageToName_51 hT (by omega) (by omega) ?_
                refine pe_aload_n d_Memory_pageToName_52 rfl ?_
                refine pe_getf d_Memory_pageToName_53 f_Memory_25 hM rfl ?_
                refine pe_iload_n d_Memory_pageToName_56 rfl ?_
                refine pe_ialdN d_Memory_pageToName_57 hT (by omega) (by omega) ?_
                refine pe_icmp_le (tgt := 64) d_Memory_pageToName_58 (by decide) (fun c_58 => ?_) (fun c_58 => ?_)
                · refine pe_iincN d_Memory_pageToName_64 rfl (by decide) rfl ?_
                  dsimp only [List.set]
                  refine pe_goto (tgt := 7) d_Memory_pageToName_67 (by decide) ?_
                  have e := ih (i + 1) (u + 1) (some y1) (by omega) (by omega) (fun y hy => by cases hy; omega) (by omega)
                  have hb9 : bst (fun j => decide (mo j = x) && !mn j) (fun i l => !decide (mt i ≤ mt l)) i (some y1) = (some y1) := by first | exact absurd c_42 (nI_nem1 (by omega)) | (simp_all [bst]; done)
                  rw [sel_step (C := (fun j => decide (mo j = x) && !mn j)) (lt := (fun i l => !decide (mt i ≤ mt l))) c_13, hb9]
                  rw [cnt_yes (P := (fun j => decide (mo j = x) && !mn j)) c_13 (by simp_all)]
                  exact e
                · refine pe_iload d_Memory_pageToName_61 rfl ?_
                  refine pe_istore_n d_Memory_pageToName_63 (by decide) rfl ?_
                  dsimp only [List.set]
                  refine pe_iincN d_Memory_pageToName_64 rfl (by decide) rfl ?_
                  dsimp only [List.set]
                  refine pe_goto (tgt := 7) d_Memory_pageToName_67 (by decide) ?_
                  have e := ih (i + 1) (u + 1) (some i) (by omega) (by omega) (fun y hy => by cases hy; omega) (by omega)
                  have hb9 : bst (fun j => decide (mo j = x) && !mn j) (fun i l => !decide (mt i ≤ mt l)) i (some y1) = (some i) := by first | exact absurd c_42 (nI_nem1 (by omega)) | (simp_all [bst]; done)
                  rw [sel_step (C := (fun j => decide (mo j = x) && !mn j)) (lt := (fun i l => !decide (mt i ≤ mt l))) c_13, hb9]
                  rw [cnt_yes (P := (fun j => decide (mo j = x) && !mn j)) c_13 (by simp_all)]
                  exact e

  change pz_E l L xs M_Memory_pageToName 0 0 0 0 [some (.ref 1), some (.int x), none, none, none] [] h z _
  refine pe_iconst (v := nI 0) d_Memory_pageToName_0 (by decide) ?_
  refine pe_istore_n d_Memory_pageToName_1 (by decide) rfl ?_
  dsimp only [List.set]
  refine pe_iconst (v := -1) d_Memory_pageToName_2 (by decide) ?_
  refine pe_istore_n d_Memory_pageToName_3 (by decide) rfl ?_
  dsimp only [List.set]
  refine pe_iconst (v := nI 0) d_Memory_pageToName_4 (by decide) ?_
  refine pe_istore d_Memory_pageToName_5 (by decide) rfl ?_
  dsimp only [List.set]
  have e := loop (np + 1) 0 0 none (by omega) (by omega) (fun y hy => by cases hy) (by omega)
  rw [Nat.zero_add] at e
  exact e
set_option maxHeartbeats 2000000 in
set_option maxRecDepth 20000 in
theorem c_Memory_firstDue {l : Launch} {L : Nat} {xs : Nat → Int32} {h : pz_H} {z : Nat} {np : Nat} {mw mo mr mt : Nat → Int32} {mn : Nat → Bool} {md : Nat → Int32} {ts ck : Nat} (hm : MEM h np mw mo mr mt mn md ts ck) : pz_K l L xs M_Memory_firstDue 0 0 0 [.ref 1] h z (fun v h' z' => v = some (.int (omi (sel (fun j => mn j && !decide (nI ck < md j)) (fun i l => !decide (md l ≤ md i)) (np - 0) 0 none))) ∧ h = h' ∧ z = z') := by
  obtain ⟨hM, hW, hO, hR, hT, hN, hD, hn1, hn2⟩ := id hm
  refine pz_K.of rfl (Nat.le_of_ble_eq_true rfl) ?_
  have loop : ∀ (n : Nat) (i : Nat) (b : Option Nat), i ≤ np → (∀ y, b = some y → y < i) → np + 1 ≤ i + n → pz_E l L xs M_Memory_firstDue 0 0 0 4 [some (.ref 1), some (.int (omi b)), some (.int (nI i))] [] h z (fun v h' z' => v = some (.int (omi (sel (fun j => mn j && !decide (nI ck < md j)) (fun i l => !decide (md l ≤ md i)) (np - i) i b))) ∧ h = h' ∧ z = z') := by
    intro n
    induction n with
    | zero => intros; omega
    | succ n ih =>
      intro i b hi hb hin
      match b, hb with
      | none, hb =>
        change pz_E l L xs M_Memory_firstDue 0 0 0 4 [some (.ref 1), some (.int (-1)), some (.int (nI i))] [] h z _
        refine pe_iload_n d_Memory_firstDue_4 rfl ?_
        refine pe_aload_n d_Memory_firstDue_5 rfl ?_
        refine pe_getf d_Memory_firstDue_6 f_Memory_9 hM rfl ?_
        refine pe_icmpN_ge (tgt := 62) d_Memory_firstDue_9 (by decide) (by omega) (by omega) (fun c_9 => ?_) (fun c_9 => ?_)
        · refine pe_iload_n d_Memory_firstDue_62 rfl ?_
          refine pe_iret d_Memory_firstDue_63 rfl ?_
          exact ⟨by rw [sel_end (C := (fun j => mn j && !decide (nI ck < md j))) (lt := (fun i l => !decide (md l ≤ md i))) (n := np) (i := i) (by omega)]; rfl, rfl, rfl⟩
        · have c_9 : i < np := by omega
          refine pe_aload_n d_Memory_firstDue_12 rfl ?_
          refine pe_getf d_Memory_firstDue_13 f_Memory_28 hM rfl ?_
          refine pe_iload_n d_Memory_firstDue_16 rfl ?_
          refine pe_zaldN d_Memory_firstDue_17 hN (by omega) (by omega) ?_
          refine pe_if_eq (tgt := 56) d_Memory_firstDue_18 (by decide) (fun c_18 => ?_) (fun c_18 => ?_)
          · have c_18 := pb_0.mp c_18
            refine pe_iincN d_Memory_firstDue_56 rfl (by decide) rfl ?_
            dsimp only [List.set]
            refine pe_goto (tgt := 4) d_Memory_firstDue_59 (by decide) ?_
            have e := ih (i + 1) none (by omega) (fun y hy => by cases hy) (by omega)
            have hb9 : bst (fun j => mn j && !decide (nI ck < md j)) (fun i l => !decide (md l ≤ md i)) i none = none := by first | exact absurd c_36 (nI_nem1 (by omega)) | (simp_all [bst]; done)
            rw [sel_step (C := (fun j => mn j && !decide (nI ck < md j))) (lt := (fun i l => !decide (md l ≤ md i))) c_9, hb9]
            exact e
          · have c_18 := pb_n0.mp c_18
            refine pe_aload_n d_Memory_firstDue_21 rfl ?_
            refine pe_getf d_Memory_firstDue_22 f_Memory_32 hM rfl ?_
            refine pe_iload_n d_Memory_firstDue_25 rfl ?_
            refine pe_ialdN d_Memory_firstDue_26 hD (by omega) (by omega) ?_
            refine pe_aload_n d_Memory_firstDue_27 rfl ?_
            refine pe_getf d_Memory_firstDue_28 f_Memory_38 hM rfl ?_
            refine pe_icmp_gt (tgt := 56) d_Memory_firstDue_31 (by decide) (fun c_31 => ?_) (fun c_31 => ?_)
            · refine pe_iincN d_Memory_firstDue_56 rfl (by decide) rfl ?_
              dsimp only [List.set]
              refine pe_goto (tgt := 4) d_Memory_firstDue_59 (by decide) ?_
              have e := ih (i + 1) none (by omega) (fun y hy => by cases hy) (by omega)
              have hb9 : bst (fun j => mn j && !decide (nI ck < md j)) (fun i l => !decide (md l ≤ md i)) i none = none := by first | exact absurd c_36 (nI_nem1 (by omega)) | (simp_all [bst]; done)
              rw [sel_step (C := (fun j => mn j && !decide (nI ck < md j))) (lt := (fun i l => !decide (md l ≤ md i))) c_9, hb9]
              exact e
            · refine pe_iload_n d_Memory_firstDue_34 rfl ?_
              refine pe_iconst (v := -1) d_Memory_firstDue_35 (by decide) ?_
              refine pe_icmp_eq (tgt := 54) d_Memory_firstDue_36 (by decide) (fun c_36 => ?_) (fun c_36 => ?_)
              · refine pe_iload_n d_Memory_firstDue_54 rfl ?_
                refine pe_istore_n d_Memory_firstDue_55 (by decide) rfl ?_
                dsimp only [List.set]
                refine pe_iincN d_Memory_firstDue_56 rfl (by decide) rfl ?_
                dsimp only [List.set]
                refine pe_goto (tgt := 4) d_Memory_firstDue_59 (by decide) ?_
                have e := ih (i + 1) (some i) (by omega) (fun y hy => by cases hy; omega) (by omega)
                have hb9 : bst (fun j => mn j && !decide (nI ck < md j)) (fun i l => !decide (md l ≤ md i)) i none = (some i) := by first | exact absurd c_36 (nI_nem1 (by omega)) | (simp_all [bst]; done)
                rw [sel_step (C := (fun j => mn j && !decide (nI ck < md j))) (lt := (fun i l => !decide (md l ≤ md i))) c_9, hb9]
                exact e
              · exact absurd rfl c_36
      | some y1, hb =>
        have hl : y1 < i := hb y1 rfl
        change pz_E l L xs M_Memory_firstDue 0 0 0 4 [some (.ref 1), some (.int (nI y1)), some (.int (nI i))] [] h z _
        refine pe_iload_n d_Memory_firstDue_4 rfl ?_
        refine pe_aload_n d_Memory_firstDue_5 rfl ?_
        refine pe_getf d_Memory_firstDue_6 f_Memory_9 hM rfl ?_
        refine pe_icmpN_ge (tgt := 62) d_Memory_firstDue_9 (by decide) (by omega) (by omega) (fun c_9 => ?_) (fun c_9 => ?_)
        · refine pe_iload_n d_Memory_firstDue_62 rfl ?_
          refine pe_iret d_Memory_firstDue_63 rfl ?_
          exact ⟨by rw [sel_end (C := (fun j => mn j && !decide (nI ck < md j))) (lt := (fun i l => !decide (md l ≤ md i))) (n := np) (i := i) (by omega)]; rfl, rfl, rfl⟩
        · have c_9 : i < np := by omega
          refine pe_aload_n d_Memory_firstDue_12 rfl ?_
          refine pe_getf d_Memory_firstDue_13 f_Memory_28 hM rfl ?_
          refine pe_iload_n d_Memory_firstDue_16 rfl ?_
          refine pe_zaldN d_Memory_firstDue_17 hN (by omega) (by omega) ?_
          refine pe_if_eq (tgt := 56) d_Memory_firstDue_18 (by decide) (fun c_18 => ?_) (fun c_18 => ?_)
          · have c_18 := pb_0.mp c_18
            refine pe_iincN d_Memory_firstDue_56 rfl (by decide) rfl ?_
            dsimp only [List.set]
            refine pe_goto (tgt := 4) d_Memory_firstDue_59 (by decide) ?_
            have e := ih (i + 1) (some y1) (by omega) (fun y hy => by cases hy; omega) (by omega)
            have hb9 : bst (fun j => mn j && !decide (nI ck < md j)) (fun i l => !decide (md l ≤ md i)) i (some y1) = (some y1) := by first | exact absurd c_36 (nI_nem1 (by omega)) | (simp_all [bst]; done)
            rw [sel_step (C := (fun j => mn j && !decide (nI ck < md j))) (lt := (fun i l => !decide (md l ≤ md i))) c_9, hb9]
            exact e
          · have c_18 := pb_n0.mp c_18
            refine pe_aload_n d_Memory_firstDue_21 rfl ?_
            refine pe_getf d_Memory_firstDue_22 f_Memory_32 hM rfl ?_
            refine pe_iload_n d_Memory_firstDue_25 rfl ?_
            refine pe_ialdN d_Memory_firstDue_26 hD (by omega) (by omega) ?_
            refine pe_aload_n d_Memory_firstDue_27 rfl ?_
            refine pe_getf d_Memory_firstDue_28 f_Memory_38 hM rfl ?_
            refine pe_icmp_gt (tgt := 56) d_Memory_firstDue_31 (by decide) (fun c_31 => ?_) (fun c_31 => ?_)
            · refine pe_iincN d_Memory_firstDue_56 rfl (by decide) rfl ?_
              dsimp only [List.set]
              refine pe_goto (tgt := 4) d_Memory_firstDue_59 (by decide) ?_
              have e := ih (i + 1) (some y1) (by omega) (fun y hy => by cases hy; omega) (by omega)
              have hb9 : bst (fun j => mn j && !decide (nI ck < md j)) (fun i l => !decide (md l ≤ md i)) i (some y1) = (some y1) := by first | exact absurd c_36 (nI_nem1 (by omega)) | (simp_all [bst]; done)
              rw [sel_step (C := (fun j => mn j && !decide (nI ck < md j))) (lt := (fun i l => !decide (md l ≤ md i))) c_9, hb9]
              exact e
            · refine pe_iload_n d_Memory_firstDue_34 rfl ?_
              refine pe_iconst (v := -1) d_Memory_firstDue_35 (by decide) ?_
              refine pe_icmp_eq (tgt := 54) d_Memory_firstDue_36 (by decide) (fun c_36 => ?_) (fun c_36 => ?_)
              · refine pe_iload_n d_Memory_firstDue_54 rfl ?_
                refine pe_istore_n d_Memory_firstDue_55 (by decide) rfl ?_
                dsimp only [List.set]
                refine pe_iincN d_Memory_firstDue_56 rfl (by decide) rfl ?_
                dsimp only [List.set]
                refine pe_goto (tgt := 4) d_Memory_firstDue_59 (by decide) ?_
                have e := ih (i + 1) (some i) (by omega) (fun y hy => by cases hy; omega) (by omega)
                have hb9 : bst (fun j => mn j && !decide (nI ck < md j)) (fun i l => !decide (md l ≤ md i)) i (some y1) = (some i) := by first | exact absurd c_36 (nI_nem1 (by omega)) | (simp_all [bst]; done)
                rw [sel_step (C := (fun j => mn j && !decide (nI ck < md j))) (lt := (fun i l => !decide (md l ≤ md i))) c_9, hb9]
                exact e
              · refine pe_aload_n d_Memory_firstDue_39 rfl ?_
                refine pe_getf d_Memory_firstDue_40 f_Memory_32 hM rfl ?_
                refine pe_iload_n d_Memory_firstDue_43 rfl ?_
                refine pe_ialdN d_Memory_firstDue_44 hD (by omega) (by omega) ?_
                refine pe_aload_n d_Memory_firstDue_45 rfl ?_
                refine pe_getf d_Memory_firstDue_46 f_Memory_32 hM rfl ?_
                refine pe_iload_n d_Memory_firstDue_49 rfl ?_
                refine pe_ialdN d_Memory_firstDue_50 hD (by omega) (by omega) ?_
                refine pe_icmp_ge (tgt := 56) d_Memory_firstDue_51 (by decide) (fun c_51 => ?_) (fun c_51 => ?_)
                · refine pe_iincN d_Memory_firstDue_56 rfl (by decide) rfl ?_
                  dsimp only [List.set]
                  refine pe_goto (tgt := 4) d_Memory_firstDue_59 (by decide) ?_
                  have e := ih (i + 1) (some y1) (by omega) (fun y hy => by cases hy; omega) (by omega)
                  have hb9 : bst (fun j => mn j && !decide (nI ck < md j)) (fun i l => !decide (md l ≤ md i)) i (some y1) = (some y1) := by first | exact absurd c_36 (nI_nem1 (by omega)) | (simp_all [bst]; done)
                  rw [sel_step (C := (fun j => mn j && !decide (nI ck < md j))) (lt := (fun i l => !decide (md l ≤ md i))) c_9, hb9]
                  exact e
                · refine pe_iload_n d_Memory_firstDue_54 rfl ?_
                  refine pe_istore_n d_Memory_firstDue_55 (by decide) rfl ?_
                  dsimp only [List.set]
                  refine pe_iincN d_Memory_firstDue_56 rfl (by decide) rfl ?_
                  dsimp only [List.set]
                  refine pe_goto (tgt := 4) d_Memory_firstDue_59 (by decide) ?_
                  have e := ih (i + 1) (some i) (by omega) (fun y hy => by cases hy; omega) (by omega)
                  have hb9 : bst (fun j => mn j && !decide (nI ck < md j)) (fun i l => !decide (md l ≤ md i)) i (some y1) = (some i) := by first | exact absurd c_36 (nI_nem1 (by omega)) | (simp_all [bst]; done)
                  rw [sel_step (C := (fun j => mn j && !decide (nI ck < md j))) (lt := (fun i l => !decide (md l ≤ md i))) c_9, hb9]
                  exact e

  change pz_E l L xs M_Memory_firstDue 0 0 0 0 [some (.ref 1), none, none] [] h z _
  refine pe_iconst (v := -1) d_Memory_firstDue_0 (by decide) ?_
  refine pe_istore_n d_Memory_firstDue_1 (by decide) rfl ?_
  dsimp only [List.set]
  refine pe_iconst (v := nI 0) d_Memory_firstDue_2 (by decide) ?_
  refine pe_istore_n d_Memory_firstDue_3 (by decide) rfl ?_
  dsimp only [List.set]
  exact loop (np + 1) 0 none (by omega) (fun y hy => by cases hy) (by omega)
