/-! queues of frames, tables of entries: contracts of FrameQueue, EntryTable -/
set_option maxHeartbeats 4000000 in
set_option maxRecDepth 20000 in
theorem c_Frame_copyFrom {l : Launch} {L : Nat} {xs : Nat → Int32} {h : pz_H} {z : Nat}  {a : Nat} {fb : Nat → Int32} {fl : Nat} {b : Nat} {gb : Nat → Int32} {gl : Nat} (hr : FRA a h fb fl) (hr2 : FRA b h gb gl) (hab : a + 2 ≤ b ∨ b + 2 ≤ a) : pz_K l L xs M_Frame_copyFrom 1 0 0 [.ref a, .ref b] h z (fun v h' z' => v = none ∧ z = z' ∧ FRA a h' (va_cpy gb fb 0 0 gl) gl ∧ frm a (a + 2) h h') := by
  obtain ⟨hFO, hFB, hfl⟩ := id hr
  obtain ⟨hGO, hGB, hgl⟩ := id hr2
  have hf : frm a (a + 2) h h := frm.rf
  refine pz_K.of rfl (Nat.le_of_ble_eq_true rfl) ?_
  change pz_E l L xs M_Frame_copyFrom 1 0 0 0 [some (.ref a), some (.ref b)] [] h z _
  refine pe_aload_n d_Frame_copyFrom_0 rfl ?_
  refine pe_getf d_Frame_copyFrom_1 f_Frame_9 hGO rfl ?_
  refine pe_iconst (v := nI 0) d_Frame_copyFrom_4 (by decide) ?_
  refine pe_aload_n d_Frame_copyFrom_5 rfl ?_
  refine pe_getf d_Frame_copyFrom_6 f_Frame_9 hFO rfl ?_
  refine pe_iconst (v := nI 0) d_Frame_copyFrom_9 (by decide) ?_
  refine pe_aload_n d_Frame_copyFrom_10 rfl ?_
  refine pe_getf d_Frame_copyFrom_11 f_Frame_13 hGO rfl ?_
  refine pe_copy d_Frame_copyFrom_14 ay_Frame_17 ay_n ay_s ay_i hGB hFB (by omega) (by omega) (by omega) (by simp [Value.category]) (by decide) ?_
  refine pe_pu (fun h2 e2 o2 => ?_)
  have hFO := (o2 (a) (by omega)).trans hFO
  have hFB := e2
  have hGO := (o2 (b) (by omega)).trans hGO
  have hGB := (o2 (b + 1) (by omega)).trans hGB
  have hf := hf.st o2 (by omega) (by omega)
  refine pe_aload_n d_Frame_copyFrom_17 rfl ?_
  refine pe_aload_n d_Frame_copyFrom_18 rfl ?_
  refine pe_getf d_Frame_copyFrom_19 f_Frame_13 hGO rfl ?_
  refine pe_put d_Frame_copyFrom_22 g_Frame_13 hFO (Nat.le_of_ble_eq_true rfl) rfl ?_
  refine pe_pu (fun h2 e2 o2 => ?_)
  have hFO := e2
  have hFB := (o2 (a + 1) (by omega)).trans hFB
  have hGO := (o2 (b) (by omega)).trans hGO
  have hGB := (o2 (b + 1) (by omega)).trans hGB
  have hf := hf.st o2 (by omega) (by omega)
  refine pe_vret d_Frame_copyFrom_25 rfl ?_
  exact ⟨rfl, rfl, ⟨hFO, hFB, by omega⟩, hf⟩
set_option maxHeartbeats 4000000 in
set_option maxRecDepth 20000 in
theorem c_FrameQueue_isFull {l : Launch} {L : Nat} {xs : Nat → Int32} {h : pz_H} {z : Nat}  {a : Nat} {qb : Nat → Nat → Int32} {qn : Nat → Nat} {qf ql : Nat} (hq : QUE a h qb qn qf ql) : pz_K l L xs M_FrameQueue_isFull 0 0 0 [.ref a] h z (fun v h' z' => v = some (.int (pb (decide (ql = 4)))) ∧ h = h' ∧ z = z') := by
  obtain ⟨hQO, hQA, hQF, hqf, hql⟩ := id hq
  refine pz_K.of rfl (Nat.le_of_ble_eq_true rfl) ?_
  change pz_E l L xs M_FrameQueue_isFull 0 0 0 0 [some (.ref a)] [] h z _
  refine pe_aload_n d_FrameQueue_isFull_0 rfl ?_
  refine pe_getf d_FrameQueue_isFull_1 f_FrameQueue_19 hQO rfl ?_
  refine pe_iconst (v := nI 4) d_FrameQueue_isFull_4 (by decide) ?_
  refine pe_icmpN_ne (tgt := 12) d_FrameQueue_isFull_5 (by decide) (by omega) (by omega) (fun c_5 => ?_) (fun c_5 => ?_)
  · refine pe_iconst (v := nI 0) d_FrameQueue_isFull_12 (by decide) ?_
    refine pe_zret d_FrameQueue_isFull_13 rfl (by decide) ?_
    exact ⟨pb_no (fun q => by first | exact c_5 q), rfl, rfl⟩
  · refine pe_iconst (v := nI 1) d_FrameQueue_isFull_8 (by decide) ?_
    refine pe_goto (tgt := 13) d_FrameQueue_isFull_9 (by decide) ?_
    refine pe_zret d_FrameQueue_isFull_13 rfl (by decide) ?_
    exact ⟨pb_yes c_5, rfl, rfl⟩
set_option maxHeartbeats 4000000 in
set_option maxRecDepth 20000 in
theorem c_FrameQueue_clear {l : Launch} {L : Nat} {xs : Nat → Int32} {h : pz_H} {z : Nat}  {a : Nat} {qb : Nat → Nat → Int32} {qn : Nat → Nat} {qf ql : Nat} (hq : QUE a h qb qn qf ql) : pz_K l L xs M_FrameQueue_clear 0 0 0 [.ref a] h z (fun v h' z' => v = none ∧ z = z' ∧ QUE a h' qb qn qf 0 ∧ frm a (a + 10) h h') := by
  obtain ⟨hQO, hQA, hQF, hqf, hql⟩ := id hq
  have hf : frm a (a + 10) h h := frm.rf
  refine pz_K.of rfl (Nat.le_of_ble_eq_true rfl) ?_
  change pz_E l L xs M_FrameQueue_clear 0 0 0 0 [some (.ref a)] [] h z _
  refine pe_aload_n d_FrameQueue_clear_0 rfl ?_
  refine pe_iconst (v := nI 0) d_FrameQueue_clear_1 (by decide) ?_
  refine pe_put d_FrameQueue_clear_2 g_FrameQueue_19 hQO (Nat.le_of_ble_eq_true rfl) rfl ?_
  refine pe_pu (fun h2 e2 o2 => ?_)
  have hQO := e2
  have hQA := (o2 (a + 1) (by omega)).trans hQA
  have hf := hf.st o2 (by omega) (by omega)
  have hQF := fun j hj => (hQF j hj).st o2 (by omega) (by omega)
  refine pe_vret d_FrameQueue_clear_5 rfl ?_
  exact ⟨rfl, rfl, ⟨hQO, hQA, hQF, hqf, by omega⟩, hf⟩
set_option maxHeartbeats 4000000 in
set_option maxRecDepth 20000 in
theorem c_FrameQueue_oldest {l : Launch} {L : Nat} {xs : Nat → Int32} {h : pz_H} {z : Nat}  {a : Nat} {qb : Nat → Nat → Int32} {qn : Nat → Nat} {qf ql : Nat} (hq : QUE a h qb qn qf ql) : pz_K l L xs M_FrameQueue_oldest 0 0 0 [.ref a] h z (fun v h' z' => v = some (.ref (a + 2 + 2 * qf)) ∧ h = h' ∧ z = z') := by
  obtain ⟨hQO, hQA, hQF, hqf, hql⟩ := id hq
  refine pz_K.of rfl (Nat.le_of_ble_eq_true rfl) ?_
  change pz_E l L xs M_FrameQueue_oldest 0 0 0 0 [some (.ref a)] [] h z _
  refine pe_aload_n d_FrameQueue_oldest_0 rfl ?_
  refine pe_getf d_FrameQueue_oldest_1 f_FrameQueue_11 hQO rfl ?_
  refine pe_aload_n d_FrameQueue_oldest_4 rfl ?_
  refine pe_getf d_FrameQueue_oldest_5 f_FrameQueue_15 hQO rfl ?_
  refine pe_aaldN d_FrameQueue_oldest_8 rfl hQA (by omega) (by omega) rfl ?_
  refine pe_aret d_FrameQueue_oldest_9 rfl ?_
  exact ⟨rfl, rfl, rfl⟩
set_option maxHeartbeats 4000000 in
set_option maxRecDepth 20000 in
theorem c_FrameQueue_dropOldest {l : Launch} {L : Nat} {xs : Nat → Int32} {h : pz_H} {z : Nat}  {a : Nat} {qb : Nat → Nat → Int32} {qn : Nat → Nat} {qf ql : Nat} (hq : QUE a h qb qn qf ql) (hl0 : 0 < ql) : pz_K l L xs M_FrameQueue_dropOldest 0 0 0 [.ref a] h z (fun v h' z' => v = none ∧ z = z' ∧ QUE a h' qb qn ((qf + 1) % 4) (ql - 1) ∧ frm a (a + 10) h h') := by
  obtain ⟨hQO, hQA, hQF, hqf, hql⟩ := id hq
  have hf : frm a (a + 10) h h := frm.rf
  refine pz_K.of rfl (Nat.le_of_ble_eq_true rfl) ?_
  change pz_E l L xs M_FrameQueue_dropOldest 0 0 0 0 [some (.ref a)] [] h z _
  refine pe_aload_n d_FrameQueue_dropOldest_0 rfl ?_
  refine pe_aload_n d_FrameQueue_dropOldest_1 rfl ?_
  refine pe_getf d_FrameQueue_dropOldest_2 f_FrameQueue_15 hQO rfl ?_
  refine pe_iconst (v := nI 1) d_FrameQueue_dropOldest_5 (by decide) ?_
  refine pe_iaddN d_FrameQueue_dropOldest_6 ?_
  refine pe_iconst (v := nI 4) d_FrameQueue_dropOldest_7 (by decide) ?_
  refine pe_iremN d_FrameQueue_dropOldest_8 (by omega) (by omega) (by omega) ?_
  refine pe_put d_FrameQueue_dropOldest_9 g_FrameQueue_15 hQO (Nat.le_of_ble_eq_true rfl) rfl ?_
  refine pe_pu (fun h2 e2 o2 => ?_)
  have hQO := e2
  have hQA := (o2 (a + 1) (by omega)).trans hQA
  have hf := hf.st o2 (by omega) (by omega)
  have hQF := fun j hj => (hQF j hj).st o2 (by omega) (by omega)
  refine pe_aload_n d_FrameQueue_dropOldest_12 rfl ?_
  refine pe_dup d_FrameQueue_dropOldest_13 rfl ?_
  refine pe_getf d_FrameQueue_dropOldest_14 f_FrameQueue_19 hQO rfl ?_
  refine pe_iconst (v := nI 1) d_FrameQueue_dropOldest_17 (by decide) ?_
  refine pe_isubN d_FrameQueue_dropOldest_18 (by omega) ?_
  refine pe_put d_FrameQueue_dropOldest_19 g_FrameQueue_19 hQO (Nat.le_of_ble_eq_true rfl) rfl ?_
  refine pe_pu (fun h2 e2 o2 => ?_)
  have hQO := e2
  have hQA := (o2 (a + 1) (by omega)).trans hQA
  have hf := hf.st o2 (by omega) (by omega)
  have hQF := fun j hj => (hQF j hj).st o2 (by omega) (by omega)
  refine pe_vret d_FrameQueue_dropOldest_22 rfl ?_
  exact ⟨rfl, rfl, ⟨hQO, hQA, hQF, by omega, by omega⟩, hf⟩
set_option maxHeartbeats 4000000 in
set_option maxRecDepth 20000 in
theorem c_FrameQueue_append {l : Launch} {L : Nat} {xs : Nat → Int32} {h : pz_H} {z : Nat}  {a : Nat} {qb : Nat → Nat → Int32} {qn : Nat → Nat} {qf ql : Nat} {b : Nat} {gb : Nat → Int32} {gl : Nat} (hq : QUE a h qb qn qf ql) (hr2 : FRA b h gb gl) (hab : a + 10 ≤ b ∨ b + 2 ≤ a) (hlt : ql < 4) : pz_K l L xs M_FrameQueue_append 2 0 0 [.ref a, .ref b] h z (fun v h' z' => v = none ∧ z = z' ∧ QUE a h' (va_up qb ((qf + ql) % 4) (va_cpy gb (qb ((qf + ql) % 4)) 0 0 gl)) (va_up qn ((qf + ql) % 4) gl) qf (ql + 1) ∧ frm a (a + 10) h h') := by
  obtain ⟨hQO, hQA, hQF, hqf, hql⟩ := id hq
  obtain ⟨hGO, hGB, hgl⟩ := id hr2
  have hf : frm a (a + 10) h h := frm.rf
  refine pz_K.of rfl (Nat.le_of_ble_eq_true rfl) ?_
  change pz_E l L xs M_FrameQueue_append 2 0 0 0 [some (.ref a), some (.ref b)] [] h z _
  refine pe_aload_n d_FrameQueue_append_0 rfl ?_
  refine pe_getf d_FrameQueue_append_1 f_FrameQueue_11 hQO rfl ?_
  refine pe_aload_n d_FrameQueue_append_4 rfl ?_
  refine pe_getf d_FrameQueue_append_5 f_FrameQueue_15 hQO rfl ?_
  refine pe_aload_n d_FrameQueue_append_8 rfl ?_
  refine pe_getf d_FrameQueue_append_9 f_FrameQueue_19 hQO rfl ?_
  refine pe_iaddN d_FrameQueue_append_12 ?_
  refine pe_iconst (v := nI 4) d_FrameQueue_append_13 (by decide) ?_
  refine pe_iremN d_FrameQueue_append_14 (by omega) (by omega) (by omega) ?_
  have hJ := hQF ((qf + ql) % 4) (by omega)
  obtain ⟨hJO, hJB, hJl⟩ := id hJ
  refine pe_aaldN d_FrameQueue_append_15 rfl hQA (by omega) (by omega) rfl ?_
  refine pe_aload_n d_FrameQueue_append_16 rfl ?_
  -- 17: Frame_copyFrom
  refine pe_callV d_FrameQueue_append_17 m_FrameQueue_23 j_Frame_copyFrom v_Frame_copyFrom (c_Frame_copyFrom hJ hr2 (by omega)) rfl rfl (by simp [Value.category]) (by decide) hJO rfl rfl ?_
  intro v1 h1 z1 hq1
  obtain ⟨rfl, rfl, hJ1, hf1⟩ := hq1
  have hQO := (hf1 a (by omega)).trans hQO
  have hQA := (hf1 (a + 1) (by omega)).trans hQA
  have hQF : ∀ j, j < 4 → FRA (a + 2 + 2 * j) h1 (va_up qb ((qf + ql) % 4) (va_cpy gb (qb ((qf + ql) % 4)) 0 0 gl) j) (va_up qn ((qf + ql) % 4) gl j) := by
    intro j hj
    by_cases e : j = ((qf + ql) % 4)
    · subst e; simp only [va_up, if_pos]; exact hJ1
    · simp only [va_up, if_neg e]; exact (hQF j hj).frm hf1 (by omega)
  have hf := hf.tr (hf1.wd (lo' := a) (hi' := a + 10) (by omega) (by omega))
  have hr2 := hr2.frm hf1 (by omega)
  obtain ⟨hGO, hGB, hgl⟩ := id hr2
  change pz_E _ _ _ _ _ _ _ _ _ _ _ _ _
  refine pe_aload_n d_FrameQueue_append_20 rfl ?_
  refine pe_dup d_FrameQueue_append_21 rfl ?_
  refine pe_getf d_FrameQueue_append_22 f_FrameQueue_19 hQO rfl ?_
  refine pe_iconst (v := nI 1) d_FrameQueue_append_25 (by decide) ?_
  refine pe_iaddN d_FrameQueue_append_26 ?_
  refine pe_put d_FrameQueue_append_27 g_FrameQueue_19 hQO (Nat.le_of_ble_eq_true rfl) rfl ?_
  refine pe_pu (fun h2 e2 o2 => ?_)
  have hQO := e2
  have hQA := (o2 (a + 1) (by omega)).trans hQA
  have hGO := (o2 (b) (by omega)).trans hGO
  have hGB := (o2 (b + 1) (by omega)).trans hGB
  have hf := hf.st o2 (by omega) (by omega)
  have hQF := fun j hj => (hQF j hj).st o2 (by omega) (by omega)
  refine pe_vret d_FrameQueue_append_30 rfl ?_
  exact ⟨rfl, rfl, ⟨hQO, hQA, hQF, hqf, by omega⟩, hf⟩
/-- the place of entry q's key among the words, its data blocks being tb -/
def eka (tb : Nat → Nat) (q : Nat) : Nat := tb (q / 4) * 8 + 2 * (q % 4)
set_option maxHeartbeats 4000000 in
set_option maxRecDepth 20000 in
theorem c_EntryTable_keyWordOf {l : Launch} {L : Nat} {xs : Nat → Int32} {h : pz_H} {z : Nat} {q : Nat} (hq : q < 28) : pz_K l L xs M_EntryTable_keyWordOf 0 0 0 [.int (nI q)] h z (fun v h' z' => v = some (.int (nI (2 * (q % 4)))) ∧ h = h' ∧ z = z') := by
  refine pz_K.of rfl (Nat.le_of_ble_eq_true rfl) ?_
  change pz_E l L xs M_EntryTable_keyWordOf 0 0 0 0 [some (.int (nI q))] [] h z _
  refine pe_iconst (v := nI 2) d_EntryTable_keyWordOf_0 (by decide) ?_
  refine pe_iload_n d_EntryTable_keyWordOf_1 rfl ?_
  refine pe_iconst (v := nI 4) d_EntryTable_keyWordOf_2 (by decide) ?_
  refine pe_iremN d_EntryTable_keyWordOf_3 (by omega) (by omega) (by omega) ?_
  refine pe_imulN d_EntryTable_keyWordOf_4 ?_
  refine pe_iret d_EntryTable_keyWordOf_5 rfl ?_
  exact ⟨rfl, rfl, rfl⟩
set_option maxHeartbeats 4000000 in
set_option maxRecDepth 20000 in
theorem c_EntryTable_blockOf {l : Launch} {L : Nat} {xs : Nat → Int32} {h : pz_H} {z : Nat}  {a : Nat} {td : Nat → Int32} {tl : Nat} (ht : TAB a h td tl) {q : Nat} (hq : q < 28) : pz_K l L xs M_EntryTable_blockOf 0 0 0 [.ref a, .int (nI q)] h z (fun v h' z' => v = some (.int (td (q / 4))) ∧ h = h' ∧ z = z') := by
  obtain ⟨hTO, hTD, htl⟩ := id ht
  refine pz_K.of rfl (Nat.le_of_ble_eq_true rfl) ?_
  change pz_E l L xs M_EntryTable_blockOf 0 0 0 0 [some (.ref a), some (.int (nI q))] [] h z _
  refine pe_aload_n d_EntryTable_blockOf_0 rfl ?_
  refine pe_getf d_EntryTable_blockOf_1 f_EntryTable_11 hTO rfl ?_
  refine pe_iload_n d_EntryTable_blockOf_4 rfl ?_
  refine pe_iconst (v := nI 4) d_EntryTable_blockOf_5 (by decide) ?_
  refine pe_idivN d_EntryTable_blockOf_6 (by omega) (by omega) (by omega) ?_
  refine pe_ialdN d_EntryTable_blockOf_7 hTD (by omega) (by omega) ?_
  refine pe_iret d_EntryTable_blockOf_8 rfl ?_
  exact ⟨rfl, rfl, rfl⟩
set_option maxHeartbeats 4000000 in
set_option maxRecDepth 20000 in
theorem c_EntryTable_clear {l : Launch} {L : Nat} {xs : Nat → Int32} {h : pz_H} {z : Nat}  {a : Nat} {td : Nat → Int32} {tl : Nat} (ht : TAB a h td tl) : pz_K l L xs M_EntryTable_clear 0 0 0 [.ref a] h z (fun v h' z' => v = none ∧ z = z' ∧ TAB a h' td 0 ∧ frm a (a + 2) h h') := by
  obtain ⟨hTO, hTD, htl⟩ := id ht
  have hf : frm a (a + 2) h h := frm.rf
  refine pz_K.of rfl (Nat.le_of_ble_eq_true rfl) ?_
  change pz_E l L xs M_EntryTable_clear 0 0 0 0 [some (.ref a)] [] h z _
  refine pe_aload_n d_EntryTable_clear_0 rfl ?_
  refine pe_iconst (v := nI 0) d_EntryTable_clear_1 (by decide) ?_
  refine pe_put d_EntryTable_clear_2 g_EntryTable_15 hTO (Nat.le_of_ble_eq_true rfl) rfl ?_
  refine pe_pu (fun h2 e2 o2 => ?_)
  have hTO := e2
  have hTD := (o2 (a + 1) (by omega)).trans hTD
  have hf := hf.st o2 (by omega) (by omega)
  refine pe_vret d_EntryTable_clear_5 rfl ?_
  exact ⟨rfl, rfl, ⟨hTO, hTD, by omega⟩, hf⟩
set_option maxHeartbeats 4000000 in
set_option maxRecDepth 20000 in
theorem c_EntryTable_keyAt {l : Launch} {L : Nat} {xs : Nat → Int32} {h : pz_H} {z : Nat}  {a : Nat} {td : Nat → Int32} {tl : Nat} {nb : Nat} {dw dn : Nat → Int32} (ht : TAB a h td tl) (hd : DSK h nb dw dn) {q bb : Nat} (hq : q < 28) (hbb : td (q / 4) = nI bb) (hb : bb < nb) : pz_K l L xs M_EntryTable_keyAt 1 0 0 [.ref a, .ref 8, .int (nI q)] h z (fun v h' z' => v = some (.int (dw (bb * 8 + 2 * (q % 4)))) ∧ h = h' ∧ z = z') := by
  obtain ⟨hTO, hTD, htl⟩ := id ht
  obtain ⟨hDS, hDW, hDO, hb1, hb2⟩ := id hd
  refine pz_K.of rfl (Nat.le_of_ble_eq_true rfl) ?_
  change pz_E l L xs M_EntryTable_keyAt 1 0 0 0 [some (.ref a), some (.ref 8), some (.int (nI q))] [] h z _
  refine pe_aload_n d_EntryTable_keyAt_0 rfl ?_
  refine pe_aload_n d_EntryTable_keyAt_1 rfl ?_
  refine pe_iload_n d_EntryTable_keyAt_2 rfl ?_
  -- 3: EntryTable_blockOf
  refine pe_callV d_EntryTable_keyAt_3 m_EntryTable_40 j_EntryTable_blockOf v_EntryTable_blockOf (c_EntryTable_blockOf ht (q := q) (by omega)) rfl rfl (by simp [Value.category]) (by decide) hTO rfl rfl ?_
  intro v1 h1 z1 hq1
  obtain ⟨rfl, rfl, rfl⟩ := hq1
  rw [hbb]
  change pz_E _ _ _ _ _ _ _ _ _ (_ :: _) _ _ _
  refine pe_iload_n d_EntryTable_keyAt_6 rfl ?_
  -- 7: EntryTable_keyWordOf
  refine pe_callS d_EntryTable_keyAt_7 m_EntryTable_48 s_EntryTable_keyWordOf (c_EntryTable_keyWordOf (q := q) (by omega)) rfl rfl (by simp [Value.category]) (by decide) ?_
  intro v1 h1 z1 hq1
  obtain ⟨rfl, rfl, rfl⟩ := hq1
  change pz_E _ _ _ _ _ _ _ _ _ (_ :: _) _ _ _
  -- 10: Disk_wordOf
  refine pe_callV d_EntryTable_keyAt_10 m_EntryTable_51 j_Disk_wordOf v_Disk_wordOf (c_Disk_wordOf hd (by omega) (by omega)) rfl rfl (by simp [Value.category]) (by decide) hDS rfl rfl ?_
  intro v1 h1 z1 hq1
  obtain ⟨rfl, rfl, rfl⟩ := hq1
  change pz_E _ _ _ _ _ _ _ _ _ (_ :: _) _ _ _
  refine pe_iret d_EntryTable_keyAt_13 rfl ?_
  exact ⟨rfl, rfl, rfl⟩
set_option maxHeartbeats 4000000 in
set_option maxRecDepth 20000 in
theorem c_EntryTable_valueAt {l : Launch} {L : Nat} {xs : Nat → Int32} {h : pz_H} {z : Nat}  {a : Nat} {td : Nat → Int32} {tl : Nat} {nb : Nat} {dw dn : Nat → Int32} (ht : TAB a h td tl) (hd : DSK h nb dw dn) {q bb : Nat} (hq : q < 28) (hbb : td (q / 4) = nI bb) (hb : bb < nb) : pz_K l L xs M_EntryTable_valueAt 1 0 0 [.ref a, .ref 8, .int (nI q)] h z (fun v h' z' => v = some (.int (dw (bb * 8 + (2 * (q % 4) + 1)))) ∧ h = h' ∧ z = z') := by
  obtain ⟨hTO, hTD, htl⟩ := id ht
  obtain ⟨hDS, hDW, hDO, hb1, hb2⟩ := id hd
  refine pz_K.of rfl (Nat.le_of_ble_eq_true rfl) ?_
  change pz_E l L xs M_EntryTable_valueAt 1 0 0 0 [some (.ref a), some (.ref 8), some (.int (nI q))] [] h z _
  refine pe_aload_n d_EntryTable_valueAt_0 rfl ?_
  refine pe_aload_n d_EntryTable_valueAt_1 rfl ?_
  refine pe_iload_n d_EntryTable_valueAt_2 rfl ?_
  -- 3: EntryTable_blockOf
  refine pe_callV d_EntryTable_valueAt_3 m_EntryTable_40 j_EntryTable_blockOf v_EntryTable_blockOf (c_EntryTable_blockOf ht (q := q) (by omega)) rfl rfl (by simp [Value.category]) (by decide) hTO rfl rfl ?_
  intro v1 h1 z1 hq1
  obtain ⟨rfl, rfl, rfl⟩ := hq1
  rw [hbb]
  change pz_E _ _ _ _ _ _ _ _ _ (_ :: _) _ _ _
  refine pe_iload_n d_EntryTable_valueAt_6 rfl ?_
  -- 7: EntryTable_keyWordOf
  refine pe_callS d_EntryTable_valueAt_7 m_EntryTable_48 s_EntryTable_keyWordOf (c_EntryTable_keyWordOf (q := q) (by omega)) rfl rfl (by simp [Value.category]) (by decide) ?_
  intro v1 h1 z1 hq1
  obtain ⟨rfl, rfl, rfl⟩ := hq1
  change pz_E _ _ _ _ _ _ _ _ _ (_ :: _) _ _ _
  refine pe_iconst (v := nI 1) d_EntryTable_valueAt_10 (by decide) ?_
  refine pe_iaddN d_EntryTable_valueAt_11 ?_
  -- 12: Disk_wordOf
  refine pe_callV d_EntryTable_valueAt_12 m_EntryTable_51 j_Disk_wordOf v_Disk_wordOf (c_Disk_wordOf hd (by omega) (by omega)) rfl rfl (by simp [Value.category]) (by decide) hDS rfl rfl ?_
  intro v1 h1 z1 hq1
  obtain ⟨rfl, rfl, rfl⟩ := hq1
  change pz_E _ _ _ _ _ _ _ _ _ (_ :: _) _ _ _
  refine pe_iret d_EntryTable_valueAt_15 rfl ?_
  exact ⟨rfl, rfl, rfl⟩
set_option maxHeartbeats 4000000 in
set_option maxRecDepth 20000 in
theorem c_EntryTable_setEntry {l : Launch} {L : Nat} {xs : Nat → Int32} {h : pz_H} {z : Nat}  {a : Nat} {td : Nat → Int32} {tl : Nat} {nb : Nat} {dw dn : Nat → Int32} (ht : TAB a h td tl) (hd : DSK h nb dw dn) {q bb : Nat} (hq : q < 28) (hbb : td (q / 4) = nI bb) (hb : bb < nb) (hab : a + 2 ≤ 8 ∨ 11 ≤ a) (x y : Int32) : pz_K l L xs M_EntryTable_setEntry 1 0 0 [.ref a, .ref 8, .int (nI q), .int x, .int y] h z (fun v h' z' => v = none ∧ z = z' ∧ DSK h' nb (upd (upd dw (bb * 8 + 2 * (q % 4)) x) (bb * 8 + (2 * (q % 4) + 1)) y) dn ∧ frm 8 11 h h') := by
  obtain ⟨hTO, hTD, htl⟩ := id ht
  obtain ⟨hDS, hDW, hDO, hb1, hb2⟩ := id hd
  refine pz_K.of rfl (Nat.le_of_ble_eq_true rfl) ?_
  have hf : frm 8 11 h h := frm.rf
  change pz_E l L xs M_EntryTable_setEntry 1 0 0 0 [some (.ref a), some (.ref 8), some (.int (nI q)), some (.int x), some (.int y)] [] h z _
  refine pe_aload_n d_EntryTable_setEntry_0 rfl ?_
  refine pe_aload_n d_EntryTable_setEntry_1 rfl ?_
  refine pe_iload_n d_EntryTable_setEntry_2 rfl ?_
  -- 3: EntryTable_blockOf
  refine pe_callV d_EntryTable_setEntry_3 m_EntryTable_40 j_EntryTable_blockOf v_EntryTable_blockOf (c_EntryTable_blockOf ht (q := q) (by omega)) rfl rfl (by simp [Value.category]) (by decide) hTO rfl rfl ?_
  intro v1 h1 z1 hq1
  obtain ⟨rfl, rfl, rfl⟩ := hq1
  rw [hbb]
  change pz_E _ _ _ _ _ _ _ _ _ (_ :: _) _ _ _
  refine pe_iload_n d_EntryTable_setEntry_6 rfl ?_
  -- 7: EntryTable_keyWordOf
  refine pe_callS d_EntryTable_setEntry_7 m_EntryTable_48 s_EntryTable_keyWordOf (c_EntryTable_keyWordOf (q := q) (by omega)) rfl rfl (by simp [Value.category]) (by decide) ?_
  intro v1 h1 z1 hq1
  obtain ⟨rfl, rfl, rfl⟩ := hq1
  change pz_E _ _ _ _ _ _ _ _ _ (_ :: _) _ _ _
  refine pe_iload_n d_EntryTable_setEntry_10 rfl ?_
  -- 11: Disk_setWord
  refine pe_callV d_EntryTable_setEntry_11 m_EntryTable_55 j_Disk_setWord v_Disk_setWord (c_Disk_setWord hd (by omega) (by omega) _) rfl rfl (by simp [Value.category]) (by decide) hDS rfl rfl ?_
  intro v1 h1 z1 hq1
  obtain ⟨rfl, rfl, hd, hf1⟩ := hq1
  have ht := ht.frm hf1 (by omega)
  have hf := hf.tr hf1
  obtain ⟨hTO, hTD, htl⟩ := id ht
  obtain ⟨hDS, hDW, hDO, hb1, hb2⟩ := id hd
  change pz_E _ _ _ _ _ _ _ _ _ _ _ _ _
  refine pe_aload_n d_EntryTable_setEntry_14 rfl ?_
  refine pe_aload_n d_EntryTable_setEntry_15 rfl ?_
  refine pe_iload_n d_EntryTable_setEntry_16 rfl ?_
  -- 17: EntryTable_blockOf
  refine pe_callV d_EntryTable_setEntry_17 m_EntryTable_40 j_EntryTable_blockOf v_EntryTable_blockOf (c_EntryTable_blockOf ht (q := q) (by omega)) rfl rfl (by simp [Value.category]) (by decide) hTO rfl rfl ?_
  intro v1 h1 z1 hq1
  obtain ⟨rfl, rfl, rfl⟩ := hq1
  rw [hbb]
  change pz_E _ _ _ _ _ _ _ _ _ (_ :: _) _ _ _
  refine pe_iload_n d_EntryTable_setEntry_20 rfl ?_
  -- 21: EntryTable_keyWordOf
  refine pe_callS d_EntryTable_setEntry_21 m_EntryTable_48 s_EntryTable_keyWordOf (c_EntryTable_keyWordOf (q := q) (by omega)) rfl rfl (by simp [Value.category]) (by decide) ?_
  intro v1 h1 z1 hq1
  obtain ⟨rfl, rfl, rfl⟩ := hq1
  change pz_E _ _ _ _ _ _ _ _ _ (_ :: _) _ _ _
  refine pe_iconst (v := nI 1) d_EntryTable_setEntry_24 (by decide) ?_
  refine pe_iaddN d_EntryTable_setEntry_25 ?_
  refine pe_iload d_EntryTable_setEntry_26 rfl ?_
  -- 28: Disk_setWord
  refine pe_callV d_EntryTable_setEntry_28 m_EntryTable_55 j_Disk_setWord v_Disk_setWord (c_Disk_setWord hd (by omega) (by omega) _) rfl rfl (by simp [Value.category]) (by decide) hDS rfl rfl ?_
  intro v1 h1 z1 hq1
  obtain ⟨rfl, rfl, hd, hf1⟩ := hq1
  have ht := ht.frm hf1 (by omega)
  have hf := hf.tr hf1
  obtain ⟨hTO, hTD, htl⟩ := id ht
  obtain ⟨hDS, hDW, hDO, hb1, hb2⟩ := id hd
  change pz_E _ _ _ _ _ _ _ _ _ _ _ _ _
  refine pe_vret d_EntryTable_setEntry_31 rfl ?_
  exact ⟨rfl, rfl, hd, hf⟩
set_option maxHeartbeats 4000000 in
set_option maxRecDepth 20000 in
theorem c_EntryTable_placeOf {l : Launch} {L : Nat} {xs : Nat → Int32} {h : pz_H} {z : Nat}  {a : Nat} {td : Nat → Int32} {tl : Nat} {nb : Nat} {dw dn : Nat → Int32} (ht : TAB a h td tl) (hd : DSK h nb dw dn) {tb : Nat → Nat} (htb : ∀ j, j * 4 < tl → td j = nI (tb j) ∧ tb j < nb) (x : Int32) : pz_K l L xs M_EntryTable_placeOf 2 0 0 [.ref a, .ref 8, .int x] h z (fun v h' z' => v = some (.int (orm tl (ff (fun q => decide (dw (eka tb q) = x)) (tl - 0) 0))) ∧ h = h' ∧ z = z') := by
  obtain ⟨hTO, hTD, htl⟩ := id ht
  obtain ⟨hDS, hDW, hDO, hb1, hb2⟩ := id hd
  refine pz_K.of rfl (Nat.le_of_ble_eq_true rfl) ?_
  have loop : ∀ (n : Nat) (i : Nat), i ≤ tl → tl + 1 ≤ i + n → pz_E l L xs M_EntryTable_placeOf 2 0 0 2 [some (.ref a), some (.ref 8), some (.int x), some (.int (nI i))] [] h z (fun v h' z' => v = some (.int (orm tl (ff (fun q => decide (dw (eka tb q) = x)) (tl - i) i))) ∧ h = h' ∧ z = z') := by
    intro n
    induction n with
    | zero => intros; omega
    | succ n ih =>
      intro i hi hin
      refine pe_iload_n d_EntryTable_placeOf_2 rfl ?_
      refine pe_aload_n d_EntryTable_placeOf_3 rfl ?_
      refine pe_getf d_EntryTable_placeOf_4 f_EntryTable_15 hTO rfl ?_
      refine pe_icmpN_ge (tgt := 28) d_EntryTable_placeOf_7 (by decide) (by omega) (by omega) (fun c_7 => ?_) (fun c_7 => ?_)
      · refine pe_iconst (v := -1) d_EntryTable_placeOf_28 (by decide) ?_
        refine pe_iret d_EntryTable_placeOf_29 rfl ?_
        exact ⟨by rw [ff_end (by omega), orm_ge (by omega)], rfl, rfl⟩
      · have c_7 : i < tl := by omega
        have h9 := htb (i / 4) (by omega)
        refine pe_aload_n d_EntryTable_placeOf_10 rfl ?_
        refine pe_aload_n d_EntryTable_placeOf_11 rfl ?_
        refine pe_iload_n d_EntryTable_placeOf_12 rfl ?_
        -- 13: EntryTable_keyAt
        refine pe_callV d_EntryTable_placeOf_13 m_EntryTable_19 j_EntryTable_keyAt v_EntryTable_keyAt (c_EntryTable_keyAt ht hd (q := i) (by omega) h9.1 h9.2) rfl rfl (by simp [Value.category]) (by decide) hTO rfl rfl ?_
        intro v1 h1 z1 hq1
        obtain ⟨rfl, rfl, rfl⟩ := hq1
        change pz_E _ _ _ _ _ _ _ _ _ (_ :: _) _ _ _
        refine pe_iload_n d_EntryTable_placeOf_16 rfl ?_
        refine pe_icmp_ne (tgt := 22) d_EntryTable_placeOf_17 (by decide) (fun c_17 => ?_) (fun c_17 => ?_)
        · refine pe_iincN d_EntryTable_placeOf_22 rfl (by decide) rfl ?_
          dsimp only [List.set]
          refine pe_goto (tgt := 2) d_EntryTable_placeOf_25 (by decide) ?_
          have e := ih (i + 1) (by omega) (by omega)
          rw [← ff_no c_7 (fun q9 => c_17 (of_decide_eq_true q9))] at e
          exact e
        · refine pe_iload_n d_EntryTable_placeOf_20 rfl ?_
          refine pe_iret d_EntryTable_placeOf_21 rfl ?_
          exact ⟨by rw [ff_yes c_7 (decide_eq_true c_17), orm_lt c_7], rfl, rfl⟩
  change pz_E l L xs M_EntryTable_placeOf 2 0 0 0 [some (.ref a), some (.ref 8), some (.int x), none] [] h z _
  refine pe_iconst (v := nI 0) d_EntryTable_placeOf_0 (by decide) ?_
  refine pe_istore_n d_EntryTable_placeOf_1 (by decide) rfl ?_
  dsimp only [List.set]
  exact loop (tl + 1) 0 (by omega) (by omega)
set_option maxHeartbeats 4000000 in
set_option maxRecDepth 20000 in
theorem c_EntryTable_append_full {l : Launch} {L : Nat} {xs : Nat → Int32} {h : pz_H} {z : Nat}  {a : Nat} {td : Nat → Int32} {tl : Nat} {nb : Nat} {dw dn : Nat → Int32} (ht : TAB a h td tl) (hd : DSK h nb dw dn) (w x y : Int32) (h28 : tl = 28) : pz_K l L xs M_EntryTable_append 3 0 0 [.ref a, .ref 8, .int w, .int x, .int y] h z (fun v h' z' => v = some (.int (-2)) ∧ h = h' ∧ z = z') := by
  obtain ⟨hTO, hTD, htl⟩ := id ht
  obtain ⟨hDS, hDW, hDO, hb1, hb2⟩ := id hd
  refine pz_K.of rfl (Nat.le_of_ble_eq_true rfl) ?_
  change pz_E l L xs M_EntryTable_append 3 0 0 0 [some (.ref a), some (.ref 8), some (.int w), some (.int x), some (.int y), none] [] h z _
  refine pe_aload_n d_EntryTable_append_0 rfl ?_
  refine pe_getf d_EntryTable_append_1 f_EntryTable_15 hTO rfl ?_
  refine pe_bipush (v := nI 28) d_EntryTable_append_4 (by decide) ?_
  refine pe_icmpN_ne (tgt := 12) d_EntryTable_append_6 (by decide) (by omega) (by omega) (fun c_6 => ?_) (fun c_6 => ?_)
  · exfalso; omega
  · refine pe_bipush (v := -2) d_EntryTable_append_9 (by decide) ?_
    refine pe_iret d_EntryTable_append_11 rfl ?_
    exact ⟨rfl, rfl, rfl⟩
set_option maxHeartbeats 4000000 in
set_option maxRecDepth 20000 in
theorem c_EntryTable_append_none {l : Launch} {L : Nat} {xs : Nat → Int32} {h : pz_H} {z : Nat}  {a : Nat} {td : Nat → Int32} {tl : Nat} {nb : Nat} {dw dn : Nat → Int32} (ht : TAB a h td tl) (hd : DSK h nb dw dn) (w x y : Int32) (h28 : tl < 28) (h4 : tl % 4 = 0) (hno : ¬ ff (fun j => decide (dn j = -1)) nb 0 < nb) : pz_K l L xs M_EntryTable_append 3 0 0 [.ref a, .ref 8, .int w, .int x, .int y] h z (fun v h' z' => v = some (.int (-2)) ∧ h = h' ∧ z = z') := by
  obtain ⟨hTO, hTD, htl⟩ := id ht
  obtain ⟨hDS, hDW, hDO, hb1, hb2⟩ := id hd
  refine pz_K.of rfl (Nat.le_of_ble_eq_true rfl) ?_
  change pz_E l L xs M_EntryTable_append 3 0 0 0 [some (.ref a), some (.ref 8), some (.int w), some (.int x), some (.int y), none] [] h z _
  refine pe_aload_n d_EntryTable_append_0 rfl ?_
  refine pe_getf d_EntryTable_append_1 f_EntryTable_15 hTO rfl ?_
  refine pe_bipush (v := nI 28) d_EntryTable_append_4 (by decide) ?_
  refine pe_icmpN_ne (tgt := 12) d_EntryTable_append_6 (by decide) (by omega) (by omega) (fun c_6 => ?_) (fun c_6 => ?_)
  · refine pe_aload_n d_EntryTable_append_12 rfl ?_
    refine pe_getf d_EntryTable_append_13 f_EntryTable_15 hTO rfl ?_
    refine pe_iconst (v := nI 4) d_EntryTable_append_16 (by decide) ?_
    refine pe_iremN d_EntryTable_append_17 (by omega) (by omega) (by omega) ?_
    refine pe_if_ne (tgt := 58) d_EntryTable_append_18 (by decide) (fun c_18 => ?_) (fun c_18 => ?_)
    · exact absurd (show nI (tl % 4) = 0 by rw [h4]; rfl) c_18
    · refine pe_aload_n d_EntryTable_append_21 rfl ?_
      -- 22: Disk_leastFree
      refine pe_callV d_EntryTable_append_22 m_EntryTable_23 j_Disk_leastFree v_Disk_leastFree (c_Disk_leastFree hd) rfl rfl (by simp [Value.category]) (by decide) hDS rfl rfl ?_
      intro v1 h1 z1 hq1
      obtain ⟨rfl, rfl, rfl⟩ := hq1
      rw [Nat.sub_zero]
      rw [orm_ge hno]
      change pz_E _ _ _ _ _ _ _ _ _ (_ :: _) _ _ _
      refine pe_istore d_EntryTable_append_25 (by decide) rfl ?_
      dsimp only [List.set]
      refine pe_iload d_EntryTable_append_27 rfl ?_
      refine pe_iconst (v := -1) d_EntryTable_append_29 (by decide) ?_
      refine pe_icmp_ne (tgt := 36) d_EntryTable_append_30 (by decide) (fun c_30 => ?_) (fun c_30 => ?_)
      · exact absurd rfl c_30
      · refine pe_bipush (v := -2) d_EntryTable_append_33 (by decide) ?_
        refine pe_iret d_EntryTable_append_35 rfl ?_
        exact ⟨rfl, rfl, rfl⟩
  · exfalso; omega
set_option maxHeartbeats 4000000 in
set_option maxRecDepth 20000 in
theorem c_EntryTable_append_in {l : Launch} {L : Nat} {xs : Nat → Int32} {h : pz_H} {z : Nat}  {a : Nat} {td : Nat → Int32} {tl : Nat} {nb : Nat} {dw dn : Nat → Int32} (ht : TAB a h td tl) (hd : DSK h nb dw dn) (w x y : Int32) (h28 : tl < 28) (h4 : ¬ tl % 4 = 0) {bb : Nat} (hbb : td (tl / 4) = nI bb) (hb : bb < nb) (hab : a + 2 ≤ 8 ∨ 11 ≤ a) : pz_K l L xs M_EntryTable_append 3 0 0 [.ref a, .ref 8, .int w, .int x, .int y] h z (fun v h' z' => v = some (.int (nI 0)) ∧ z = z' ∧ DSK h' nb (upd (upd dw (bb * 8 + 2 * (tl % 4)) x) (bb * 8 + (2 * (tl % 4) + 1)) y) dn ∧ TAB a h' td (tl + 1) ∧ fr2 8 11 a (a + 2) h h') := by
  obtain ⟨hTO, hTD, htl⟩ := id ht
  obtain ⟨hDS, hDW, hDO, hb1, hb2⟩ := id hd
  refine pz_K.of rfl (Nat.le_of_ble_eq_true rfl) ?_
  have hf : fr2 8 11 a (a + 2) h h := fr2.rf
  change pz_E l L xs M_EntryTable_append 3 0 0 0 [some (.ref a), some (.ref 8), some (.int w), some (.int x), some (.int y), none] [] h z _
  refine pe_aload_n d_EntryTable_append_0 rfl ?_
  refine pe_getf d_EntryTable_append_1 f_EntryTable_15 hTO rfl ?_
  refine pe_bipush (v := nI 28) d_EntryTable_append_4 (by decide) ?_
  refine pe_icmpN_ne (tgt := 12) d_EntryTable_append_6 (by decide) (by omega) (by omega) (fun c_6 => ?_) (fun c_6 => ?_)
  · refine pe_aload_n d_EntryTable_append_12 rfl ?_
    refine pe_getf d_EntryTable_append_13 f_EntryTable_15 hTO rfl ?_
    refine pe_iconst (v := nI 4) d_EntryTable_append_16 (by decide) ?_
    refine pe_iremN d_EntryTable_append_17 (by omega) (by omega) (by omega) ?_
    refine pe_if_ne (tgt := 58) d_EntryTable_append_18 (by decide) (fun c_18 => ?_) (fun c_18 => ?_)
    · refine pe_aload_n d_EntryTable_append_58 rfl ?_
      refine pe_aload_n d_EntryTable_append_59 rfl ?_
      refine pe_aload_n d_EntryTable_append_60 rfl ?_
      refine pe_getf d_EntryTable_append_61 f_EntryTable_15 hTO rfl ?_
      refine pe_iload_n d_EntryTable_append_64 rfl ?_
      refine pe_iload d_EntryTable_append_65 rfl ?_
      -- 67: EntryTable_setEntry
      refine pe_callV d_EntryTable_append_67 m_EntryTable_33 j_EntryTable_setEntry v_EntryTable_setEntry (c_EntryTable_setEntry ht hd (q := tl) (bb := bb) (by omega) hbb hb hab _ _) rfl rfl (by simp [Value.category]) (by decide) hTO rfl rfl ?_
      intro v1 h1 z1 hq1
      obtain ⟨rfl, rfl, hd, hf1⟩ := hq1
      have ht := ht.frm hf1 (by omega)
      have hf := hf.l hf1
      obtain ⟨hTO, hTD, htl⟩ := id ht
      obtain ⟨hDS, hDW, hDO, hb1, hb2⟩ := id hd
      change pz_E _ _ _ _ _ _ _ _ _ _ _ _ _
      refine pe_aload_n d_EntryTable_append_70 rfl ?_
      refine pe_dup d_EntryTable_append_71 rfl ?_
      refine pe_getf d_EntryTable_append_72 f_EntryTable_15 hTO rfl ?_
      refine pe_iconst (v := nI 1) d_EntryTable_append_75 (by decide) ?_
      refine pe_iaddN d_EntryTable_append_76 ?_
      refine pe_put d_EntryTable_append_77 g_EntryTable_15 hTO (Nat.le_of_ble_eq_true rfl) rfl ?_
      refine pe_pu (fun h2 e2 o2 => ?_)
      have hTO := e2
      have hTD := (o2 (a + 1) (by omega)).trans hTD
      have hDS := (o2 (8) (by omega)).trans hDS
      have hDW := (o2 (9) (by omega)).trans hDW
      have hDO := (o2 (10) (by omega)).trans hDO
      have hf := hf.st o2 (by omega)
      refine pe_iconst (v := nI 0) d_EntryTable_append_80 (by decide) ?_
      refine pe_iret d_EntryTable_append_81 rfl ?_
      exact ⟨rfl, rfl, ⟨hDS, hDW, hDO, hb1, hb2⟩, ⟨hTO, hTD, by omega⟩, hf⟩
    · exact absurd (nI_inj (by omega) (by decide) (c_18.trans nI_0.symm)) h4
  · exfalso; omega
set_option maxHeartbeats 4000000 in
set_option maxRecDepth 20000 in
theorem c_EntryTable_append_new {l : Launch} {L : Nat} {xs : Nat → Int32} {h : pz_H} {z : Nat}  {a : Nat} {td : Nat → Int32} {tl : Nat} {nb : Nat} {dw dn : Nat → Int32} (ht : TAB a h td tl) (hd : DSK h nb dw dn) (w x y : Int32) (h28 : tl < 28) (h4 : tl % 4 = 0) {bb : Nat} (hbe : bb = ff (fun j => decide (dn j = -1)) nb 0) (hb : bb < nb) (hab : a + 2 ≤ 8 ∨ 11 ≤ a) : pz_K l L xs M_EntryTable_append 3 0 0 [.ref a, .ref 8, .int w, .int x, .int y] h z (fun v h' z' => v = some (.int (nI 0)) ∧ z = z' ∧ DSK h' nb (upd (upd (fil dw (lkw bb 0 0) (bb * 8) 8) (bb * 8 + 2 * (tl % 4)) x) (bb * 8 + (2 * (tl % 4) + 1)) y) (upd dn bb w) ∧ TAB a h' (upd td (tl / 4) (nI bb)) (tl + 1) ∧ fr2 8 11 a (a + 2) h h') := by
  obtain ⟨hTO, hTD, htl⟩ := id ht
  obtain ⟨hDS, hDW, hDO, hb1, hb2⟩ := id hd
  refine pz_K.of rfl (Nat.le_of_ble_eq_true rfl) ?_
  have hf : fr2 8 11 a (a + 2) h h := fr2.rf
  change pz_E l L xs M_EntryTable_append 3 0 0 0 [some (.ref a), some (.ref 8), some (.int w), some (.int x), some (.int y), none] [] h z _
  refine pe_aload_n d_EntryTable_append_0 rfl ?_
  refine pe_getf d_EntryTable_append_1 f_EntryTable_15 hTO rfl ?_
  refine pe_bipush (v := nI 28) d_EntryTable_append_4 (by decide) ?_
  refine pe_icmpN_ne (tgt := 12) d_EntryTable_append_6 (by decide) (by omega) (by omega) (fun c_6 => ?_) (fun c_6 => ?_)
  · refine pe_aload_n d_EntryTable_append_12 rfl ?_
    refine pe_getf d_EntryTable_append_13 f_EntryTable_15 hTO rfl ?_
    refine pe_iconst (v := nI 4) d_EntryTable_append_16 (by decide) ?_
    refine pe_iremN d_EntryTable_append_17 (by omega) (by omega) (by omega) ?_
    refine pe_if_ne (tgt := 58) d_EntryTable_append_18 (by decide) (fun c_18 => ?_) (fun c_18 => ?_)
    · exact absurd (show nI (tl % 4) = 0 by rw [h4]; rfl) c_18
    · refine pe_aload_n d_EntryTable_append_21 rfl ?_
      -- 22: Disk_leastFree
      refine pe_callV d_EntryTable_append_22 m_EntryTable_23 j_Disk_leastFree v_Disk_leastFree (c_Disk_leastFree hd) rfl rfl (by simp [Value.category]) (by decide) hDS rfl rfl ?_
      intro v1 h1 z1 hq1
      obtain ⟨rfl, rfl, rfl⟩ := hq1
      rw [Nat.sub_zero]
      rw [← hbe, orm_lt hb]
      change pz_E _ _ _ _ _ _ _ _ _ (_ :: _) _ _ _
      refine pe_istore d_EntryTable_append_25 (by decide) rfl ?_
      dsimp only [List.set]
      refine pe_iload d_EntryTable_append_27 rfl ?_
      refine pe_iconst (v := -1) d_EntryTable_append_29 (by decide) ?_
      refine pe_icmp_ne (tgt := 36) d_EntryTable_append_30 (by decide) (fun c_30 => ?_) (fun c_30 => ?_)
      · refine pe_aload_n d_EntryTable_append_36 rfl ?_
        refine pe_iload d_EntryTable_append_37 rfl ?_
        refine pe_iload_n d_EntryTable_append_39 rfl ?_
        refine pe_iconst (v := nI 0) d_EntryTable_append_40 (by decide) ?_
        refine pe_iconst (v := nI 0) d_EntryTable_append_41 (by decide) ?_
        -- 42: Disk_bind
        refine pe_callV d_EntryTable_append_42 m_EntryTable_29 j_Disk_bind v_Disk_bind (c_Disk_bind hd (b := bb) (fi := 0) (lk := 0) (by omega) (by omega) w) rfl rfl (by simp [Value.category]) (by decide) hDS rfl rfl ?_
        intro v1 h1 z1 hq1
        obtain ⟨rfl, rfl, hd, hf1⟩ := hq1
        have ht := ht.frm hf1 (by omega)
        have hf := hf.l hf1
        obtain ⟨hTO, hTD, htl⟩ := id ht
        obtain ⟨hDS, hDW, hDO, hb1, hb2⟩ := id hd
        change pz_E _ _ _ _ _ _ _ _ _ _ _ _ _
        refine pe_aload_n d_EntryTable_append_45 rfl ?_
        refine pe_getf d_EntryTable_append_46 f_EntryTable_11 hTO rfl ?_
        refine pe_aload_n d_EntryTable_append_49 rfl ?_
        refine pe_getf d_EntryTable_append_50 f_EntryTable_15 hTO rfl ?_
        refine pe_iconst (v := nI 4) d_EntryTable_append_53 (by decide) ?_
        refine pe_idivN d_EntryTable_append_54 (by omega) (by omega) (by omega) ?_
        refine pe_iload d_EntryTable_append_55 rfl ?_
        refine pe_iastN d_EntryTable_append_57 hTD (by omega) (by omega) ?_
        refine pe_pu (fun h2 e2 o2 => ?_)
        have hTO := (o2 (a) (by omega)).trans hTO
        have hTD := e2
        have hDS := (o2 (8) (by omega)).trans hDS
        have hDW := (o2 (9) (by omega)).trans hDW
        have hDO := (o2 (10) (by omega)).trans hDO
        have hf := hf.st o2 (by omega)
        have ht : TAB a h2 (upd td (tl / 4) (nI bb)) tl := ⟨hTO, hTD, htl⟩
        have hd : DSK h2 nb (fil dw (lkw bb 0 0) (bb * 8) 8) (upd dn bb w) := ⟨hDS, hDW, hDO, hb1, hb2⟩
        refine pe_aload_n d_EntryTable_append_58 rfl ?_
        refine pe_aload_n d_EntryTable_append_59 rfl ?_
        refine pe_aload_n d_EntryTable_append_60 rfl ?_
        refine pe_getf d_EntryTable_append_61 f_EntryTable_15 hTO rfl ?_
        refine pe_iload_n d_EntryTable_append_64 rfl ?_
        refine pe_iload d_EntryTable_append_65 rfl ?_
        -- 67: EntryTable_setEntry
        refine pe_callV d_EntryTable_append_67 m_EntryTable_33 j_EntryTable_setEntry v_EntryTable_setEntry (c_EntryTable_setEntry ht hd (q := tl) (bb := bb) (by omega) (upd_eq _ _ _) hb hab _ _) rfl rfl (by simp [Value.category]) (by decide) hTO rfl rfl ?_
        intro v1 h1 z1 hq1
        obtain ⟨rfl, rfl, hd, hf1⟩ := hq1
        have ht := ht.frm hf1 (by omega)
        have hf := hf.l hf1
        obtain ⟨hTO, hTD, htl⟩ := id ht
        obtain ⟨hDS, hDW, hDO, hb1, hb2⟩ := id hd
        change pz_E _ _ _ _ _ _ _ _ _ _ _ _ _
        refine pe_aload_n d_EntryTable_append_70 rfl ?_
        refine pe_dup d_EntryTable_append_71 rfl ?_
        refine pe_getf d_EntryTable_append_72 f_EntryTable_15 hTO rfl ?_
        refine pe_iconst (v := nI 1) d_EntryTable_append_75 (by decide) ?_
        refine pe_iaddN d_EntryTable_append_76 ?_
        refine pe_put d_EntryTable_append_77 g_EntryTable_15 hTO (Nat.le_of_ble_eq_true rfl) rfl ?_
        refine pe_pu (fun h2 e2 o2 => ?_)
        have hTO := e2
        have hTD := (o2 (a + 1) (by omega)).trans hTD
        have hDS := (o2 (8) (by omega)).trans hDS
        have hDW := (o2 (9) (by omega)).trans hDW
        have hDO := (o2 (10) (by omega)).trans hDO
        have hf := hf.st o2 (by omega)
        refine pe_iconst (v := nI 0) d_EntryTable_append_80 (by decide) ?_
        refine pe_iret d_EntryTable_append_81 rfl ?_
        exact ⟨rfl, rfl, ⟨hDS, hDW, hDO, hb1, hb2⟩, ⟨hTO, hTD, by omega⟩, hf⟩
      · exact absurd c_30 (nI_nem1 (by omega))
  · exfalso; omega
set_option maxHeartbeats 4000000 in
set_option maxRecDepth 20000 in
theorem c_EntryTable_removeAt_keep {l : Launch} {L : Nat} {xs : Nat → Int32} {h : pz_H} {z : Nat}  {a : Nat} {td : Nat → Int32} {tl : Nat} {nb : Nat} {dw dn : Nat → Int32} (ht : TAB a h td tl) (hd : DSK h nb dw dn) {tb : Nat → Nat} (htb : ∀ j, j * 4 < tl → td j = nI (tb j) ∧ tb j < nb) {q : Nat} (hq : q < tl) (h4 : ¬ (tl - 1) % 4 = 0) (hab : a + 2 ≤ 8 ∨ 11 ≤ a) : pz_K l L xs M_EntryTable_removeAt 2 0 0 [.ref a, .ref 8, .int (nI q)] h z (fun v h' z' => v = none ∧ z = z' ∧ DSK h' nb (upd (upd dw (eka tb q) (dw (eka tb (tl - 1)))) (eka tb q + 1) (dw (eka tb (tl - 1) + 1))) dn ∧ TAB a h' td (tl - 1) ∧ fr2 8 11 a (a + 2) h h') := by
  obtain ⟨hTO, hTD, htl⟩ := id ht
  obtain ⟨hDS, hDW, hDO, hb1, hb2⟩ := id hd
  refine pz_K.of rfl (Nat.le_of_ble_eq_true rfl) ?_
  have hf : fr2 8 11 a (a + 2) h h := fr2.rf
  have hlb := htb ((tl - 1) / 4) (by omega)
  have hqb := htb (q / 4) (by omega)
  change pz_E l L xs M_EntryTable_removeAt 2 0 0 0 [some (.ref a), some (.ref 8), some (.int (nI q)), none] [] h z _
  refine pe_aload_n d_EntryTable_removeAt_0 rfl ?_
  refine pe_getf d_EntryTable_removeAt_1 f_EntryTable_15 hTO rfl ?_
  refine pe_iconst (v := nI 1) d_EntryTable_removeAt_4 (by decide) ?_
  refine pe_isubN d_EntryTable_removeAt_5 (by omega) ?_
  refine pe_istore_n d_EntryTable_removeAt_6 (by decide) rfl ?_
  dsimp only [List.set]
  refine pe_aload_n d_EntryTable_removeAt_7 rfl ?_
  refine pe_aload_n d_EntryTable_removeAt_8 rfl ?_
  refine pe_iload_n d_EntryTable_removeAt_9 rfl ?_
  refine pe_aload_n d_EntryTable_removeAt_10 rfl ?_
  refine pe_aload_n d_EntryTable_removeAt_11 rfl ?_
  refine pe_iload_n d_EntryTable_removeAt_12 rfl ?_
  -- 13: EntryTable_keyAt
  refine pe_callV d_EntryTable_removeAt_13 m_EntryTable_19 j_EntryTable_keyAt v_EntryTable_keyAt (c_EntryTable_keyAt ht hd (q := tl - 1) (by omega) hlb.1 hlb.2) rfl rfl (by simp [Value.category]) (by decide) hTO rfl rfl ?_
  intro v1 h1 z1 hq1
  obtain ⟨rfl, rfl, rfl⟩ := hq1
  change pz_E _ _ _ _ _ _ _ _ _ (_ :: _) _ _ _
  refine pe_aload_n d_EntryTable_removeAt_16 rfl ?_
  refine pe_aload_n d_EntryTable_removeAt_17 rfl ?_
  refine pe_iload_n d_EntryTable_removeAt_18 rfl ?_
  -- 19: EntryTable_valueAt
  refine pe_callV d_EntryTable_removeAt_19 m_EntryTable_37 j_EntryTable_valueAt v_EntryTable_valueAt (c_EntryTable_valueAt ht hd (q := tl - 1) (by omega) hlb.1 hlb.2) rfl rfl (by simp [Value.category]) (by decide) hTO rfl rfl ?_
  intro v1 h1 z1 hq1
  obtain ⟨rfl, rfl, rfl⟩ := hq1
  change pz_E _ _ _ _ _ _ _ _ _ (_ :: _) _ _ _
  -- 22: EntryTable_setEntry
  refine pe_callV d_EntryTable_removeAt_22 m_EntryTable_33 j_EntryTable_setEntry v_EntryTable_setEntry (c_EntryTable_setEntry ht hd (q := q) (by omega) hqb.1 hqb.2 hab _ _) rfl rfl (by simp [Value.category]) (by decide) hTO rfl rfl ?_
  intro v1 h1 z1 hq1
  obtain ⟨rfl, rfl, hd, hf1⟩ := hq1
  have ht := ht.frm hf1 (by omega)
  have hf := hf.l hf1
  obtain ⟨hTO, hTD, htl⟩ := id ht
  obtain ⟨hDS, hDW, hDO, hb1, hb2⟩ := id hd
  change pz_E _ _ _ _ _ _ _ _ _ _ _ _ _
  refine pe_iload_n d_EntryTable_removeAt_25 rfl ?_
  refine pe_iconst (v := nI 4) d_EntryTable_removeAt_26 (by decide) ?_
  refine pe_iremN d_EntryTable_removeAt_27 (by omega) (by omega) (by omega) ?_
  refine pe_if_ne (tgt := 40) d_EntryTable_removeAt_28 (by decide) (fun c_28 => ?_) (fun c_28 => ?_)
  · refine pe_aload_n d_EntryTable_removeAt_40 rfl ?_
    refine pe_iload_n d_EntryTable_removeAt_41 rfl ?_
    refine pe_put d_EntryTable_removeAt_42 g_EntryTable_15 hTO (Nat.le_of_ble_eq_true rfl) rfl ?_
    refine pe_pu (fun h2 e2 o2 => ?_)
    have hTO := e2
    have hTD := (o2 (a + 1) (by omega)).trans hTD
    have hDS := (o2 (8) (by omega)).trans hDS
    have hDW := (o2 (9) (by omega)).trans hDW
    have hDO := (o2 (10) (by omega)).trans hDO
    have hf := hf.st o2 (by omega)
    refine pe_vret d_EntryTable_removeAt_45 rfl ?_
    exact ⟨rfl, rfl, ⟨hDS, hDW, hDO, hb1, hb2⟩, ⟨hTO, hTD, by omega⟩, hf⟩
  · exact absurd (nI_inj (by omega) (by decide) (c_28.trans nI_0.symm)) h4
set_option maxHeartbeats 4000000 in
set_option maxRecDepth 20000 in
theorem c_EntryTable_removeAt_free {l : Launch} {L : Nat} {xs : Nat → Int32} {h : pz_H} {z : Nat}  {a : Nat} {td : Nat → Int32} {tl : Nat} {nb : Nat} {dw dn : Nat → Int32} (ht : TAB a h td tl) (hd : DSK h nb dw dn) {tb : Nat → Nat} (htb : ∀ j, j * 4 < tl → td j = nI (tb j) ∧ tb j < nb) {q : Nat} (hq : q < tl) (h4 : (tl - 1) % 4 = 0) (hab : a + 2 ≤ 8 ∨ 11 ≤ a) : pz_K l L xs M_EntryTable_removeAt 2 0 0 [.ref a, .ref 8, .int (nI q)] h z (fun v h' z' => v = none ∧ z = z' ∧ DSK h' nb (upd (upd dw (eka tb q) (dw (eka tb (tl - 1)))) (eka tb q + 1) (dw (eka tb (tl - 1) + 1))) (upd dn (tb ((tl - 1) / 4)) (-1)) ∧ TAB a h' td (tl - 1) ∧ fr2 8 11 a (a + 2) h h') := by
  obtain ⟨hTO, hTD, htl⟩ := id ht
  obtain ⟨hDS, hDW, hDO, hb1, hb2⟩ := id hd
  refine pz_K.of rfl (Nat.le_of_ble_eq_true rfl) ?_
  have hf : fr2 8 11 a (a + 2) h h := fr2.rf
  have hlb := htb ((tl - 1) / 4) (by omega)
  have hqb := htb (q / 4) (by omega)
  change pz_E l L xs M_EntryTable_removeAt 2 0 0 0 [some (.ref a), some (.ref 8), some (.int (nI q)), none] [] h z _
  refine pe_aload_n d_EntryTable_removeAt_0 rfl ?_
  refine pe_getf d_EntryTable_removeAt_1 f_EntryTable_15 hTO rfl ?_
  refine pe_iconst (v := nI 1) d_EntryTable_removeAt_4 (by decide) ?_
  refine pe_isubN d_EntryTable_removeAt_5 (by omega) ?_
  refine pe_istore_n d_EntryTable_removeAt_6 (by decide) rfl ?_
  dsimp only [List.set]
  refine pe_aload_n d_EntryTable_removeAt_7 rfl ?_
  refine pe_aload_n d_EntryTable_removeAt_8 rfl ?_
  refine pe_iload_n d_EntryTable_removeAt_9 rfl ?_
  refine pe_aload_n d_EntryTable_removeAt_10 rfl ?_
  refine pe_aload_n d_EntryTable_removeAt_11 rfl ?_
  refine pe_iload_n d_EntryTable_removeAt_12 rfl ?_
  -- 13: EntryTable_keyAt
  refine pe_callV d_EntryTable_removeAt_13 m_EntryTable_19 j_EntryTable_keyAt v_EntryTable_keyAt (c_EntryTable_keyAt ht hd (q := tl - 1) (by omega) hlb.1 hlb.2) rfl rfl (by simp [Value.category]) (by decide) hTO rfl rfl ?_
  intro v1 h1 z1 hq1
  obtain ⟨rfl, rfl, rfl⟩ := hq1
  change pz_E _ _ _ _ _ _ _ _ _ (_ :: _) _ _ _
  refine pe_aload_n d_EntryTable_removeAt_16 rfl ?_
  refine pe_aload_n d_EntryTable_removeAt_17 rfl ?_
  refine pe_iload_n d_EntryTable_removeAt_18 rfl ?_
  -- 19: EntryTable_valueAt
  refine pe_callV d_EntryTable_removeAt_19 m_EntryTable_37 j_EntryTable_valueAt v_EntryTable_valueAt (c_EntryTable_valueAt ht hd (q := tl - 1) (by omega) hlb.1 hlb.2) rfl rfl (by simp [Value.category]) (by decide) hTO rfl rfl ?_
  intro v1 h1 z1 hq1
  obtain ⟨rfl, rfl, rfl⟩ := hq1
  change pz_E _ _ _ _ _ _ _ _ _ (_ :: _) _ _ _
  -- 22: EntryTable_setEntry
  refine pe_callV d_EntryTable_removeAt_22 m_EntryTable_33 j_EntryTable_setEntry v_EntryTable_setEntry (c_EntryTable_setEntry ht hd (q := q) (by omega) hqb.1 hqb.2 hab _ _) rfl rfl (by simp [Value.category]) (by decide) hTO rfl rfl ?_
  intro v1 h1 z1 hq1
  obtain ⟨rfl, rfl, hd, hf1⟩ := hq1
  have ht := ht.frm hf1 (by omega)
  have hf := hf.l hf1
  obtain ⟨hTO, hTD, htl⟩ := id ht
  obtain ⟨hDS, hDW, hDO, hb1, hb2⟩ := id hd
  change pz_E _ _ _ _ _ _ _ _ _ _ _ _ _
  refine pe_iload_n d_EntryTable_removeAt_25 rfl ?_
  refine pe_iconst (v := nI 4) d_EntryTable_removeAt_26 (by decide) ?_
  refine pe_iremN d_EntryTable_removeAt_27 (by omega) (by omega) (by omega) ?_
  refine pe_if_ne (tgt := 40) d_EntryTable_removeAt_28 (by decide) (fun c_28 => ?_) (fun c_28 => ?_)
  · exact absurd (show nI ((tl - 1) % 4) = 0 by rw [h4]; rfl) c_28
  · refine pe_aload_n d_EntryTable_removeAt_31 rfl ?_
    refine pe_aload_n d_EntryTable_removeAt_32 rfl ?_
    refine pe_iload_n d_EntryTable_removeAt_33 rfl ?_
    -- 34: EntryTable_blockOf
    refine pe_callV d_EntryTable_removeAt_34 m_EntryTable_40 j_EntryTable_blockOf v_EntryTable_blockOf (c_EntryTable_blockOf ht (q := tl - 1) (by omega)) rfl rfl (by simp [Value.category]) (by decide) hTO rfl rfl ?_
    intro v1 h1 z1 hq1
    obtain ⟨rfl, rfl, rfl⟩ := hq1
    rw [hlb.1]
    change pz_E _ _ _ _ _ _ _ _ _ (_ :: _) _ _ _
    -- 37: Disk_free
    refine pe_callV d_EntryTable_removeAt_37 m_EntryTable_44 j_Disk_free v_Disk_free (c_Disk_free hd (by omega)) rfl rfl (by simp [Value.category]) (by decide) hDS rfl rfl ?_
    intro v1 h1 z1 hq1
    obtain ⟨rfl, rfl, hd, hf1⟩ := hq1
    have ht := ht.frm hf1 (by omega)
    have hf := hf.l hf1
    obtain ⟨hTO, hTD, htl⟩ := id ht
    obtain ⟨hDS, hDW, hDO, hb1, hb2⟩ := id hd
    change pz_E _ _ _ _ _ _ _ _ _ _ _ _ _
    refine pe_aload_n d_EntryTable_removeAt_40 rfl ?_
    refine pe_iload_n d_EntryTable_removeAt_41 rfl ?_
    refine pe_put d_EntryTable_removeAt_42 g_EntryTable_15 hTO (Nat.le_of_ble_eq_true rfl) rfl ?_
    refine pe_pu (fun h2 e2 o2 => ?_)
    have hTO := e2
    have hTD := (o2 (a + 1) (by omega)).trans hTD
    have hDS := (o2 (8) (by omega)).trans hDS
    have hDW := (o2 (9) (by omega)).trans hDW
    have hDO := (o2 (10) (by omega)).trans hDO
    have hf := hf.st o2 (by omega)
    refine pe_vret d_EntryTable_removeAt_45 rfl ?_
    exact ⟨rfl, rfl, ⟨hDS, hDW, hDO, hb1, hb2⟩, ⟨hTO, hTD, by omega⟩, hf⟩
