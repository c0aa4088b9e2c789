/-! the kernel: contracts of BindingKernel, second part -/
set_option maxHeartbeats 4000000 in
set_option maxRecDepth 20000 in
theorem c_K_next_no {l : Launch} {L : Nat} {xs : Nat → Int32} {h : pz_H} {z : Nat} {lost : Nat} (hK : KOB h lost) {dr fl : Nat → Nat} {op mp : Nat → Bool} {fi lk : Nat → Nat} (hap : ∀ i, i < 6 → AOB (16 + 25 * i) h (dr i) (fl i) (op i) (mp i) (fi i) (lk i)) (x : Int32) (hno : opn op x = false) : pz_K l L xs M_K_next 3 0 0 [.ref 0, .int x] h z (fun v h' z' => v = some (.int (-1)) ∧ h = h' ∧ z = z') := by
  refine pz_K.of rfl (Nat.le_of_ble_eq_true rfl) ?_
  change pz_E l L xs M_K_next 3 0 0 0 [some (.ref 0), some (.int x)] [] h z _
  refine pe_aload_n d_K_next_0 rfl ?_
  refine pe_iload_n d_K_next_1 rfl ?_
  -- 2: K_isOpen
  refine pe_callV d_K_next_2 m_K_84 j_K_isOpen v_K_isOpen (c_K_isOpen hK hap _) rfl rfl (by simp [Value.category]) (by decide) hK.1 rfl rfl ?_
  intro v1 h1 z1 hq1
  obtain ⟨rfl, rfl, rfl⟩ := hq1
  change pz_E _ _ _ _ _ _ _ _ _ (_ :: _) _ _ _
  refine pe_if_eq (tgt := 23) d_K_next_5 (by decide) (fun c_5 => ?_) (fun c_5 => ?_)
  · have c_5 := pb_0.mp c_5
    refine pe_iconst (v := -1) d_K_next_23 (by decide) ?_
    refine pe_iret d_K_next_24 rfl ?_
    exact ⟨rfl, rfl, rfl⟩
  · have c_5 := pb_n0.mp c_5
    exact absurd (c_5.symm.trans hno) (by decide)
set_option maxHeartbeats 4000000 in
set_option maxRecDepth 20000 in
theorem c_K_next_none {l : Launch} {L : Nat} {xs : Nat → Int32} {h : pz_H} {z : Nat} {lost : Nat} (hK : KOB h lost) {dr fl : Nat → Nat} {op mp : Nat → Bool} {fi lk : Nat → Nat} (hap : ∀ i, i < 6 → AOB (16 + 25 * i) h (dr i) (fl i) (op i) (mp i) (fi i) (lk i)) {a : Nat} (ha : a < 6) {qb : Nat → Nat → Int32} {qn : Nat → Nat} {qf ql : Nat} (hq : QUE (16 + 25 * a + 3) h qb qn qf ql) (hyes : opn op (nI a) = true) (h0 : ql = 0) : pz_K l L xs M_K_next 3 0 0 [.ref 0, .int (nI a)] h z (fun v h' z' => v = some (.int (-1)) ∧ h = h' ∧ z = z') := by
  refine pz_K.of rfl (Nat.le_of_ble_eq_true rfl) ?_
  have hA := hap a ha
  have hqf := hq.2.2.2.1
  have hql := hq.2.2.2.2
  change pz_E l L xs M_K_next 3 0 0 0 [some (.ref 0), some (.int (nI a))] [] h z _
  refine pe_aload_n d_K_next_0 rfl ?_
  refine pe_iload_n d_K_next_1 rfl ?_
  -- 2: K_isOpen
  refine pe_callV d_K_next_2 m_K_84 j_K_isOpen v_K_isOpen (c_K_isOpen hK hap _) rfl rfl (by simp [Value.category]) (by decide) hK.1 rfl rfl ?_
  intro v1 h1 z1 hq1
  obtain ⟨rfl, rfl, rfl⟩ := hq1
  change pz_E _ _ _ _ _ _ _ _ _ (_ :: _) _ _ _
  refine pe_if_eq (tgt := 23) d_K_next_5 (by decide) (fun c_5 => ?_) (fun c_5 => ?_)
  · have c_5 := pb_0.mp c_5
    exact absurd (c_5.symm.trans hyes) (by decide)
  · have c_5 := pb_n0.mp c_5
    refine pe_aload_n d_K_next_8 rfl ?_
    refine pe_getf d_K_next_9 f_K_49 hK.1 rfl ?_
    refine pe_iload_n d_K_next_12 rfl ?_
    refine pe_aaldN d_K_next_13 rfl hK.2 (by omega) (by omega) rfl ?_
    refine pe_getf d_K_next_14 f_K_194 hA rfl ?_
    refine pe_getf d_K_next_17 f_K_198 hq.1 rfl ?_
    refine pe_if_ne (tgt := 25) d_K_next_20 (by decide) (fun c_20 => ?_) (fun c_20 => ?_)
    · exact absurd (by rw [h0]; rfl) c_20
    · refine pe_iconst (v := -1) d_K_next_23 (by decide) ?_
      refine pe_iret d_K_next_24 rfl ?_
      exact ⟨rfl, rfl, rfl⟩
set_option maxHeartbeats 4000000 in
set_option maxRecDepth 20000 in
theorem c_K_next_ok {l : Launch} {L : Nat} {xs : Nat → Int32} {h : pz_H} {z : Nat} {lost : Nat} (hK : KOB h lost) {dr fl : Nat → Nat} {op mp : Nat → Bool} {fi lk : Nat → Nat} (hap : ∀ i, i < 6 → AOB (16 + 25 * i) h (dr i) (fl i) (op i) (mp i) (fi i) (lk i)) {a : Nat} (ha : a < 6) {qb : Nat → Nat → Int32} {qn : Nat → Nat} {qf ql : Nat} (hq : QUE (16 + 25 * a + 3) h qb qn qf ql) (hyes : opn op (nI a) = true) (h0 : 0 < ql) : pz_K l L xs M_K_next 3 0 0 [.ref 0, .int (nI a)] h z (fun v h' z' => v = some (.int (nI (ql - 1))) ∧ z = z' ∧ QUE (16 + 25 * a + 3) h' qb qn ((qf + 1) % 4) (ql - 1) ∧ frm (16 + 25 * a + 3) (16 + 25 * a + 13) h h') := by
  refine pz_K.of rfl (Nat.le_of_ble_eq_true rfl) ?_
  have hA := hap a ha
  have hqf := hq.2.2.2.1
  have hql := hq.2.2.2.2
  change pz_E l L xs M_K_next 3 0 0 0 [some (.ref 0), some (.int (nI a))] [] h z _
  refine pe_aload_n d_K_next_0 rfl ?_
  refine pe_iload_n d_K_next_1 rfl ?_
  -- 2: K_isOpen
  refine pe_callV d_K_next_2 m_K_84 j_K_isOpen v_K_isOpen (c_K_isOpen hK hap _) rfl rfl (by simp [Value.category]) (by decide) hK.1 rfl rfl ?_
  intro v1 h1 z1 hq1
  obtain ⟨rfl, rfl, rfl⟩ := hq1
  change pz_E _ _ _ _ _ _ _ _ _ (_ :: _) _ _ _
  refine pe_if_eq (tgt := 23) d_K_next_5 (by decide) (fun c_5 => ?_) (fun c_5 => ?_)
  · have c_5 := pb_0.mp c_5
    exact absurd (c_5.symm.trans hyes) (by decide)
  · have c_5 := pb_n0.mp c_5
    refine pe_aload_n d_K_next_8 rfl ?_
    refine pe_getf d_K_next_9 f_K_49 hK.1 rfl ?_
    refine pe_iload_n d_K_next_12 rfl ?_
    refine pe_aaldN d_K_next_13 rfl hK.2 (by omega) (by omega) rfl ?_
    refine pe_getf d_K_next_14 f_K_194 hA rfl ?_
    refine pe_getf d_K_next_17 f_K_198 hq.1 rfl ?_
    refine pe_if_ne (tgt := 25) d_K_next_20 (by decide) (fun c_20 => ?_) (fun c_20 => ?_)
    · refine pe_aload_n d_K_next_25 rfl ?_
      refine pe_getf d_K_next_26 f_K_49 hK.1 rfl ?_
      refine pe_iload_n d_K_next_29 rfl ?_
      refine pe_aaldN d_K_next_30 rfl hK.2 (by omega) (by omega) rfl ?_
      refine pe_getf d_K_next_31 f_K_194 hA rfl ?_
      -- 34: FrameQueue_dropOldest
      refine pe_callV d_K_next_34 m_K_212 j_FrameQueue_dropOldest v_FrameQueue_dropOldest (c_FrameQueue_dropOldest hq h0) rfl rfl (by simp [Value.category]) (by decide) hq.1 rfl rfl ?_
      intro v1 h1 z1 hq1
      obtain ⟨rfl, rfl, hq, hf1⟩ := hq1
      have hK := hK.on (hf1.on (by omega)) (hf1.on (by omega))
      have hA := hA.on (hf1.on (by omega))
      change pz_E _ _ _ _ _ _ _ _ _ _ _ _ _
      refine pe_aload_n d_K_next_37 rfl ?_
      refine pe_getf d_K_next_38 f_K_49 hK.1 rfl ?_
      refine pe_iload_n d_K_next_41 rfl ?_
      refine pe_aaldN d_K_next_42 rfl hK.2 (by omega) (by omega) rfl ?_
      refine pe_getf d_K_next_43 f_K_194 hA rfl ?_
      refine pe_getf d_K_next_46 f_K_198 hq.1 rfl ?_
      refine pe_iret d_K_next_49 rfl ?_
      exact ⟨rfl, rfl, hq, hf1⟩
    · exact absurd c_20 (nI_ne0 h0 (by omega))
set_option maxHeartbeats 4000000 in
set_option maxRecDepth 20000 in
theorem c_K_got_no {l : Launch} {L : Nat} {xs : Nat → Int32} {h : pz_H} {z : Nat} {lost : Nat} (hK : KOB h lost) {dr fl : Nat → Nat} {op mp : Nat → Bool} {fi lk : Nat → Nat} (hap : ∀ i, i < 6 → AOB (16 + 25 * i) h (dr i) (fl i) (op i) (mp i) (fi i) (lk i)) (x i : Int32) (hno : opn op x = false) : pz_K l L xs M_K_got 3 0 0 [.ref 0, .int x, .int i] h z (fun v h' z' => v = some (.int (-1)) ∧ h = h' ∧ z = z') := by
  refine pz_K.of rfl (Nat.le_of_ble_eq_true rfl) ?_
  change pz_E l L xs M_K_got 3 0 0 0 [some (.ref 0), some (.int x), some (.int i), none] [] h z _
  refine pe_aload_n d_K_got_0 rfl ?_
  refine pe_iload_n d_K_got_1 rfl ?_
  -- 2: K_isOpen
  refine pe_callV d_K_got_2 m_K_84 j_K_isOpen v_K_isOpen (c_K_isOpen hK hap _) rfl rfl (by simp [Value.category]) (by decide) hK.1 rfl rfl ?_
  intro v1 h1 z1 hq1
  obtain ⟨rfl, rfl, rfl⟩ := hq1
  change pz_E _ _ _ _ _ _ _ _ _ (_ :: _) _ _ _
  refine pe_if_eq (tgt := 23) d_K_got_5 (by decide) (fun c_5 => ?_) (fun c_5 => ?_)
  · have c_5 := pb_0.mp c_5
    refine pe_iconst (v := -1) d_K_got_23 (by decide) ?_
    refine pe_iret d_K_got_24 rfl ?_
    exact ⟨rfl, rfl, rfl⟩
  · have c_5 := pb_n0.mp c_5
    exact absurd (c_5.symm.trans hno) (by decide)
set_option maxHeartbeats 4000000 in
set_option maxRecDepth 20000 in
theorem c_K_got_none {l : Launch} {L : Nat} {xs : Nat → Int32} {h : pz_H} {z : Nat} {lost : Nat} (hK : KOB h lost) {dr fl : Nat → Nat} {op mp : Nat → Bool} {fi lk : Nat → Nat} (hap : ∀ i, i < 6 → AOB (16 + 25 * i) h (dr i) (fl i) (op i) (mp i) (fi i) (lk i)) {a : Nat} (ha : a < 6) {qb : Nat → Nat → Int32} {qn : Nat → Nat} {qf ql : Nat} (hq : QUE (16 + 25 * a + 3) h qb qn qf ql) (hyes : opn op (nI a) = true) (i : Int32) (h0 : ql = 0) : pz_K l L xs M_K_got 3 0 0 [.ref 0, .int (nI a), .int i] h z (fun v h' z' => v = some (.int (-1)) ∧ h = h' ∧ z = z') := by
  refine pz_K.of rfl (Nat.le_of_ble_eq_true rfl) ?_
  have hA := hap a ha
  have hqf := hq.2.2.2.1
  have hql := hq.2.2.2.2
  change pz_E l L xs M_K_got 3 0 0 0 [some (.ref 0), some (.int (nI a)), some (.int i), none] [] h z _
  refine pe_aload_n d_K_got_0 rfl ?_
  refine pe_iload_n d_K_got_1 rfl ?_
  -- 2: K_isOpen
  refine pe_callV d_K_got_2 m_K_84 j_K_isOpen v_K_isOpen (c_K_isOpen hK hap _) rfl rfl (by simp [Value.category]) (by decide) hK.1 rfl rfl ?_
  intro v1 h1 z1 hq1
  obtain ⟨rfl, rfl, rfl⟩ := hq1
  change pz_E _ _ _ _ _ _ _ _ _ (_ :: _) _ _ _
  refine pe_if_eq (tgt := 23) d_K_got_5 (by decide) (fun c_5 => ?_) (fun c_5 => ?_)
  · have c_5 := pb_0.mp c_5
    exact absurd (c_5.symm.trans hyes) (by decide)
  · have c_5 := pb_n0.mp c_5
    refine pe_aload_n d_K_got_8 rfl ?_
    refine pe_getf d_K_got_9 f_K_49 hK.1 rfl ?_
    refine pe_iload_n d_K_got_12 rfl ?_
    refine pe_aaldN d_K_got_13 rfl hK.2 (by omega) (by omega) rfl ?_
    refine pe_getf d_K_got_14 f_K_194 hA rfl ?_
    refine pe_getf d_K_got_17 f_K_198 hq.1 rfl ?_
    refine pe_if_ne (tgt := 25) d_K_got_20 (by decide) (fun c_20 => ?_) (fun c_20 => ?_)
    · exact absurd (by rw [h0]; rfl) c_20
    · refine pe_iconst (v := -1) d_K_got_23 (by decide) ?_
      refine pe_iret d_K_got_24 rfl ?_
      exact ⟨rfl, rfl, rfl⟩
set_option maxHeartbeats 4000000 in
set_option maxRecDepth 20000 in
theorem c_K_got_len {l : Launch} {L : Nat} {xs : Nat → Int32} {h : pz_H} {z : Nat} {lost : Nat} (hK : KOB h lost) {dr fl : Nat → Nat} {op mp : Nat → Bool} {fi lk : Nat → Nat} (hap : ∀ i, i < 6 → AOB (16 + 25 * i) h (dr i) (fl i) (op i) (mp i) (fi i) (lk i)) {a : Nat} (ha : a < 6) {qb : Nat → Nat → Int32} {qn : Nat → Nat} {qf ql : Nat} (hq : QUE (16 + 25 * a + 3) h qb qn qf ql) (hyes : opn op (nI a) = true) (i : Int32) (h0 : 0 < ql) (hi : i = -1) : pz_K l L xs M_K_got 3 0 0 [.ref 0, .int (nI a), .int i] h z (fun v h' z' => v = some (.int (nI (qn qf))) ∧ h = h' ∧ z = z') := by
  refine pz_K.of rfl (Nat.le_of_ble_eq_true rfl) ?_
  have hA := hap a ha
  have hqf := hq.2.2.2.1
  have hql := hq.2.2.2.2
  have hJ := hq.2.2.1 qf hqf
  change pz_E l L xs M_K_got 3 0 0 0 [some (.ref 0), some (.int (nI a)), some (.int i), none] [] h z _
  refine pe_aload_n d_K_got_0 rfl ?_
  refine pe_iload_n d_K_got_1 rfl ?_
  -- 2: K_isOpen
  refine pe_callV d_K_got_2 m_K_84 j_K_isOpen v_K_isOpen (c_K_isOpen hK hap _) rfl rfl (by simp [Value.category]) (by decide) hK.1 rfl rfl ?_
  intro v1 h1 z1 hq1
  obtain ⟨rfl, rfl, rfl⟩ := hq1
  change pz_E _ _ _ _ _ _ _ _ _ (_ :: _) _ _ _
  refine pe_if_eq (tgt := 23) d_K_got_5 (by decide) (fun c_5 => ?_) (fun c_5 => ?_)
  · have c_5 := pb_0.mp c_5
    exact absurd (c_5.symm.trans hyes) (by decide)
  · have c_5 := pb_n0.mp c_5
    refine pe_aload_n d_K_got_8 rfl ?_
    refine pe_getf d_K_got_9 f_K_49 hK.1 rfl ?_
    refine pe_iload_n d_K_got_12 rfl ?_
    refine pe_aaldN d_K_got_13 rfl hK.2 (by omega) (by omega) rfl ?_
    refine pe_getf d_K_got_14 f_K_194 hA rfl ?_
    refine pe_getf d_K_got_17 f_K_198 hq.1 rfl ?_
    refine pe_if_ne (tgt := 25) d_K_got_20 (by decide) (fun c_20 => ?_) (fun c_20 => ?_)
    · refine pe_aload_n d_K_got_25 rfl ?_
      refine pe_getf d_K_got_26 f_K_49 hK.1 rfl ?_
      refine pe_iload_n d_K_got_29 rfl ?_
      refine pe_aaldN d_K_got_30 rfl hK.2 (by omega) (by omega) rfl ?_
      refine pe_getf d_K_got_31 f_K_194 hA rfl ?_
      -- 34: FrameQueue_oldest
      refine pe_callV d_K_got_34 m_K_201 j_FrameQueue_oldest v_FrameQueue_oldest (c_FrameQueue_oldest hq) rfl rfl (by simp [Value.category]) (by decide) hq.1 rfl rfl ?_
      intro v1 h1 z1 hq1
      obtain ⟨rfl, rfl, rfl⟩ := hq1
      change pz_E _ _ _ _ _ _ _ _ _ (_ :: _) _ _ _
      refine pe_astore_n d_K_got_37 (by decide) rfl ?_
      dsimp only [List.set]
      refine pe_iload_n d_K_got_38 rfl ?_
      refine pe_iconst (v := -1) d_K_got_39 (by decide) ?_
      refine pe_icmp_ne (tgt := 48) d_K_got_40 (by decide) (fun c_40 => ?_) (fun c_40 => ?_)
      · exact absurd hi c_40
      · refine pe_aload_n d_K_got_43 rfl ?_
        refine pe_getf d_K_got_44 f_K_186 hJ.1 rfl ?_
        refine pe_iret d_K_got_47 rfl ?_
        exact ⟨rfl, rfl, rfl⟩
    · exact absurd c_20 (nI_ne0 h0 (by omega))
set_option maxHeartbeats 4000000 in
set_option maxRecDepth 20000 in
theorem c_K_got_nob {l : Launch} {L : Nat} {xs : Nat → Int32} {h : pz_H} {z : Nat} {lost : Nat} (hK : KOB h lost) {dr fl : Nat → Nat} {op mp : Nat → Bool} {fi lk : Nat → Nat} (hap : ∀ i, i < 6 → AOB (16 + 25 * i) h (dr i) (fl i) (op i) (mp i) (fi i) (lk i)) {a : Nat} (ha : a < 6) {qb : Nat → Nat → Int32} {qn : Nat → Nat} {qf ql : Nat} (hq : QUE (16 + 25 * a + 3) h qb qn qf ql) (hyes : opn op (nI a) = true) (i : Int32) (h0 : 0 < ql) (hi : ¬ i = -1) (hb : inb i.toInt64 (qn qf) = false) : pz_K l L xs M_K_got 3 0 0 [.ref 0, .int (nI a), .int i] h z (fun v h' z' => v = some (.int (-1)) ∧ h = h' ∧ z = z') := by
  refine pz_K.of rfl (Nat.le_of_ble_eq_true rfl) ?_
  have hA := hap a ha
  have hqf := hq.2.2.2.1
  have hql := hq.2.2.2.2
  have hJ := hq.2.2.1 qf hqf
  change pz_E l L xs M_K_got 3 0 0 0 [some (.ref 0), some (.int (nI a)), some (.int i), none] [] h z _
  refine pe_aload_n d_K_got_0 rfl ?_
  refine pe_iload_n d_K_got_1 rfl ?_
  -- 2: K_isOpen
  refine pe_callV d_K_got_2 m_K_84 j_K_isOpen v_K_isOpen (c_K_isOpen hK hap _) rfl rfl (by simp [Value.category]) (by decide) hK.1 rfl rfl ?_
  intro v1 h1 z1 hq1
  obtain ⟨rfl, rfl, rfl⟩ := hq1
  change pz_E _ _ _ _ _ _ _ _ _ (_ :: _) _ _ _
  refine pe_if_eq (tgt := 23) d_K_got_5 (by decide) (fun c_5 => ?_) (fun c_5 => ?_)
  · have c_5 := pb_0.mp c_5
    exact absurd (c_5.symm.trans hyes) (by decide)
  · have c_5 := pb_n0.mp c_5
    refine pe_aload_n d_K_got_8 rfl ?_
    refine pe_getf d_K_got_9 f_K_49 hK.1 rfl ?_
    refine pe_iload_n d_K_got_12 rfl ?_
    refine pe_aaldN d_K_got_13 rfl hK.2 (by omega) (by omega) rfl ?_
    refine pe_getf d_K_got_14 f_K_194 hA rfl ?_
    refine pe_getf d_K_got_17 f_K_198 hq.1 rfl ?_
    refine pe_if_ne (tgt := 25) d_K_got_20 (by decide) (fun c_20 => ?_) (fun c_20 => ?_)
    · refine pe_aload_n d_K_got_25 rfl ?_
      refine pe_getf d_K_got_26 f_K_49 hK.1 rfl ?_
      refine pe_iload_n d_K_got_29 rfl ?_
      refine pe_aaldN d_K_got_30 rfl hK.2 (by omega) (by omega) rfl ?_
      refine pe_getf d_K_got_31 f_K_194 hA rfl ?_
      -- 34: FrameQueue_oldest
      refine pe_callV d_K_got_34 m_K_201 j_FrameQueue_oldest v_FrameQueue_oldest (c_FrameQueue_oldest hq) rfl rfl (by simp [Value.category]) (by decide) hq.1 rfl rfl ?_
      intro v1 h1 z1 hq1
      obtain ⟨rfl, rfl, rfl⟩ := hq1
      change pz_E _ _ _ _ _ _ _ _ _ (_ :: _) _ _ _
      refine pe_astore_n d_K_got_37 (by decide) rfl ?_
      dsimp only [List.set]
      refine pe_iload_n d_K_got_38 rfl ?_
      refine pe_iconst (v := -1) d_K_got_39 (by decide) ?_
      refine pe_icmp_ne (tgt := 48) d_K_got_40 (by decide) (fun c_40 => ?_) (fun c_40 => ?_)
      · refine pe_aload_n d_K_got_48 rfl ?_
        refine pe_iload_n d_K_got_49 rfl ?_
        refine pe_i2l d_K_got_50 ?_
        -- 51: Frame_hasByte
        refine pe_callV d_K_got_51 m_K_205 j_Frame_hasByte v_Frame_hasByte (c_Frame_hasByte hJ _) rfl rfl (by simp [Value.category]) (by decide) hJ.1 rfl rfl ?_
        intro v1 h1 z1 hq1
        obtain ⟨rfl, rfl, rfl⟩ := hq1
        change pz_E _ _ _ _ _ _ _ _ _ (_ :: _) _ _ _
        refine pe_if_eq (tgt := 65) d_K_got_54 (by decide) (fun c_54 => ?_) (fun c_54 => ?_)
        · have c_54 := pb_0.mp c_54
          refine pe_iconst (v := -1) d_K_got_65 (by decide) ?_
          refine pe_iret d_K_got_66 rfl ?_
          exact ⟨rfl, rfl, rfl⟩
        · have c_54 := pb_n0.mp c_54
          exact absurd (c_54.symm.trans hb) (by decide)
      · exact absurd c_40 hi
    · exact absurd c_20 (nI_ne0 h0 (by omega))
set_option maxHeartbeats 4000000 in
set_option maxRecDepth 20000 in
theorem c_K_got_byte {l : Launch} {L : Nat} {xs : Nat → Int32} {h : pz_H} {z : Nat} {lost : Nat} (hK : KOB h lost) {dr fl : Nat → Nat} {op mp : Nat → Bool} {fi lk : Nat → Nat} (hap : ∀ i, i < 6 → AOB (16 + 25 * i) h (dr i) (fl i) (op i) (mp i) (fi i) (lk i)) {a : Nat} (ha : a < 6) {qb : Nat → Nat → Int32} {qn : Nat → Nat} {qf ql : Nat} (hq : QUE (16 + 25 * a + 3) h qb qn qf ql) (hyes : opn op (nI a) = true) {q : Nat} (h0 : 0 < ql) (hq16 : q < 16) (hb : inb (nI q).toInt64 (qn qf) = true) : pz_K l L xs M_K_got 3 0 0 [.ref 0, .int (nI a), .int (nI q)] h z (fun v h' z' => v = some (.int (qb qf q)) ∧ h = h' ∧ z = z') := by
  refine pz_K.of rfl (Nat.le_of_ble_eq_true rfl) ?_
  have hA := hap a ha
  have hqf := hq.2.2.2.1
  have hql := hq.2.2.2.2
  have hJ := hq.2.2.1 qf hqf
  change pz_E l L xs M_K_got 3 0 0 0 [some (.ref 0), some (.int (nI a)), some (.int (nI q)), none] [] h z _
  refine pe_aload_n d_K_got_0 rfl ?_
  refine pe_iload_n d_K_got_1 rfl ?_
  -- 2: K_isOpen
  refine pe_callV d_K_got_2 m_K_84 j_K_isOpen v_K_isOpen (c_K_isOpen hK hap _) rfl rfl (by simp [Value.category]) (by decide) hK.1 rfl rfl ?_
  intro v1 h1 z1 hq1
  obtain ⟨rfl, rfl, rfl⟩ := hq1
  change pz_E _ _ _ _ _ _ _ _ _ (_ :: _) _ _ _
  refine pe_if_eq (tgt := 23) d_K_got_5 (by decide) (fun c_5 => ?_) (fun c_5 => ?_)
  · have c_5 := pb_0.mp c_5
    exact absurd (c_5.symm.trans hyes) (by decide)
  · have c_5 := pb_n0.mp c_5
    refine pe_aload_n d_K_got_8 rfl ?_
    refine pe_getf d_K_got_9 f_K_49 hK.1 rfl ?_
    refine pe_iload_n d_K_got_12 rfl ?_
    refine pe_aaldN d_K_got_13 rfl hK.2 (by omega) (by omega) rfl ?_
    refine pe_getf d_K_got_14 f_K_194 hA rfl ?_
    refine pe_getf d_K_got_17 f_K_198 hq.1 rfl ?_
    refine pe_if_ne (tgt := 25) d_K_got_20 (by decide) (fun c_20 => ?_) (fun c_20 => ?_)
    · refine pe_aload_n d_K_got_25 rfl ?_
      refine pe_getf d_K_got_26 f_K_49 hK.1 rfl ?_
      refine pe_iload_n d_K_got_29 rfl ?_
      refine pe_aaldN d_K_got_30 rfl hK.2 (by omega) (by omega) rfl ?_
      refine pe_getf d_K_got_31 f_K_194 hA rfl ?_
      -- 34: FrameQueue_oldest
      refine pe_callV d_K_got_34 m_K_201 j_FrameQueue_oldest v_FrameQueue_oldest (c_FrameQueue_oldest hq) rfl rfl (by simp [Value.category]) (by decide) hq.1 rfl rfl ?_
      intro v1 h1 z1 hq1
      obtain ⟨rfl, rfl, rfl⟩ := hq1
      change pz_E _ _ _ _ _ _ _ _ _ (_ :: _) _ _ _
      refine pe_astore_n d_K_got_37 (by decide) rfl ?_
      dsimp only [List.set]
      refine pe_iload_n d_K_got_38 rfl ?_
      refine pe_iconst (v := -1) d_K_got_39 (by decide) ?_
      refine pe_icmp_ne (tgt := 48) d_K_got_40 (by decide) (fun c_40 => ?_) (fun c_40 => ?_)
      · refine pe_aload_n d_K_got_48 rfl ?_
        refine pe_iload_n d_K_got_49 rfl ?_
        refine pe_i2l d_K_got_50 ?_
        -- 51: Frame_hasByte
        refine pe_callV d_K_got_51 m_K_205 j_Frame_hasByte v_Frame_hasByte (c_Frame_hasByte hJ _) rfl rfl (by simp [Value.category]) (by decide) hJ.1 rfl rfl ?_
        intro v1 h1 z1 hq1
        obtain ⟨rfl, rfl, rfl⟩ := hq1
        change pz_E _ _ _ _ _ _ _ _ _ (_ :: _) _ _ _
        refine pe_if_eq (tgt := 65) d_K_got_54 (by decide) (fun c_54 => ?_) (fun c_54 => ?_)
        · have c_54 := pb_0.mp c_54
          exact absurd (c_54.symm.trans hb) (by decide)
        · have c_54 := pb_n0.mp c_54
          refine pe_aload_n d_K_got_57 rfl ?_
          refine pe_iload_n d_K_got_58 rfl ?_
          -- 59: Frame_byteAt
          refine pe_callV d_K_got_59 m_K_209 j_Frame_byteAt v_Frame_byteAt (c_Frame_byteAt hJ hq16) rfl rfl (by simp [Value.category]) (by decide) hJ.1 rfl rfl ?_
          intro v1 h1 z1 hq1
          obtain ⟨rfl, rfl, rfl⟩ := hq1
          change pz_E _ _ _ _ _ _ _ _ _ (_ :: _) _ _ _
          refine pe_goto (tgt := 66) d_K_got_62 (by decide) ?_
          refine pe_iret d_K_got_66 rfl ?_
          exact ⟨rfl, rfl, rfl⟩
      · exact absurd c_40 (nI_nem1 (by omega))
    · exact absurd c_20 (nI_ne0 h0 (by omega))
set_option maxHeartbeats 4000000 in
set_option maxRecDepth 20000 in
theorem c_K_holder_0 {l : Launch} {L : Nat} {xs : Nat → Int32} {h : pz_H} {z : Nat} {lost : Nat} (hK : KOB h lost) {dr fl : Nat → Nat} {op mp : Nat → Bool} {fi lk : Nat → Nat} (hap : ∀ i, i < 6 → AOB (16 + 25 * i) h (dr i) (fl i) (op i) (mp i) (fi i) (lk i)) {np : Nat} {mw mo mr mt : Nat → Int32} {mn : Nat → Bool} {md : Nat → Int32} {ts ck : Nat} (hm : MEM h np mw mo mr mt mn md ts ck) (x y : Int32) (hx : x = 0) : pz_K l L xs M_K_holder 1 0 0 [.ref 0, .int x, .int y] h z (fun v h' z' => v = some (.int (if inn y np = true then mo y.toNatClampNeg else -1)) ∧ h = h' ∧ z = z') := by
  refine pz_K.of rfl (Nat.le_of_ble_eq_true rfl) ?_
  change pz_E l L xs M_K_holder 1 0 0 0 [some (.ref 0), some (.int x), some (.int y), none] [] h z _
  refine pe_iload_n d_K_holder_0 rfl ?_
  refine pe_if_ne (tgt := 28) d_K_holder_1 (by decide) (fun c_1 => ?_) (fun c_1 => ?_)
  · exact absurd hx c_1
  · refine pe_aload_n d_K_holder_4 rfl ?_
    refine pe_getf d_K_holder_5 f_K_18 hK.1 rfl ?_
    refine pe_iload_n d_K_holder_8 rfl ?_
    -- 9: Memory_hasPage
    refine pe_callV d_K_holder_9 m_K_263 j_Memory_hasPage v_Memory_hasPage (c_Memory_hasPage hm _) rfl rfl (by simp [Value.category]) (by decide) hm.1 rfl rfl ?_
    intro v1 h1 z1 hq1
    obtain ⟨rfl, rfl, rfl⟩ := hq1
    change pz_E _ _ _ _ _ _ _ _ _ (_ :: _) _ _ _
    refine pe_if_eq (tgt := 26) d_K_holder_12 (by decide) (fun c_12 => ?_) (fun c_12 => ?_)
    · have c_12 := pb_0.mp c_12
      refine pe_iconst (v := -1) d_K_holder_26 (by decide) ?_
      refine pe_iret d_K_holder_27 rfl ?_
      exact ⟨by rw [if_neg (by rw [show inn y np = false from c_12]; decide)], rfl, rfl⟩
    · have c_12 := pb_n0.mp c_12
      obtain ⟨q, hq, rfl⟩ := inn_N (by have := hm.2.2.2.2.2.2.2.2; omega) c_12
      have hn2 := hm.2.2.2.2.2.2.2.2
      refine pe_aload_n d_K_holder_15 rfl ?_
      refine pe_getf d_K_holder_16 f_K_18 hK.1 rfl ?_
      refine pe_iload_n d_K_holder_19 rfl ?_
      -- 20: Memory_ownerOf
      refine pe_callV d_K_holder_20 m_K_144 j_Memory_ownerOf v_Memory_ownerOf (c_Memory_ownerOf hm (by omega)) rfl rfl (by simp [Value.category]) (by decide) hm.1 rfl rfl ?_
      intro v1 h1 z1 hq1
      obtain ⟨rfl, rfl, rfl⟩ := hq1
      change pz_E _ _ _ _ _ _ _ _ _ (_ :: _) _ _ _
      refine pe_goto (tgt := 27) d_K_holder_23 (by decide) ?_
      refine pe_iret d_K_holder_27 rfl ?_
      exact ⟨by rw [if_pos (show inn (nI q) np = true from c_12), nI_clamp (by omega)], rfl, rfl⟩
set_option maxHeartbeats 4000000 in
set_option maxRecDepth 20000 in
theorem c_K_holder_1 {l : Launch} {L : Nat} {xs : Nat → Int32} {h : pz_H} {z : Nat} {lost : Nat} (hK : KOB h lost) {dr fl : Nat → Nat} {op mp : Nat → Bool} {fi lk : Nat → Nat} (hap : ∀ i, i < 6 → AOB (16 + 25 * i) h (dr i) (fl i) (op i) (mp i) (fi i) (lk i)) {nb : Nat} {dw dn : Nat → Int32} (hd : DSK h nb dw dn) (x y : Int32) (hx : x = nI 1) : pz_K l L xs M_K_holder 1 0 0 [.ref 0, .int x, .int y] h z (fun v h' z' => v = some (.int (if inn y nb = true then dn y.toNatClampNeg else -1)) ∧ h = h' ∧ z = z') := by
  refine pz_K.of rfl (Nat.le_of_ble_eq_true rfl) ?_
  change pz_E l L xs M_K_holder 1 0 0 0 [some (.ref 0), some (.int x), some (.int y), none] [] h z _
  refine pe_iload_n d_K_holder_0 rfl ?_
  refine pe_if_ne (tgt := 28) d_K_holder_1 (by decide) (fun c_1 => ?_) (fun c_1 => ?_)
  · refine pe_iload_n d_K_holder_28 rfl ?_
    refine pe_iconst (v := nI 1) d_K_holder_29 (by decide) ?_
    refine pe_icmp_ne (tgt := 57) d_K_holder_30 (by decide) (fun c_30 => ?_) (fun c_30 => ?_)
    · exact absurd hx c_30
    · refine pe_aload_n d_K_holder_33 rfl ?_
      refine pe_getf d_K_holder_34 f_K_25 hK.1 rfl ?_
      refine pe_iload_n d_K_holder_37 rfl ?_
      -- 38: Disk_hasBlock
      refine pe_callV d_K_holder_38 m_K_215 j_Disk_hasBlock v_Disk_hasBlock (c_Disk_hasBlock hd _) rfl rfl (by simp [Value.category]) (by decide) hd.1 rfl rfl ?_
      intro v1 h1 z1 hq1
      obtain ⟨rfl, rfl, rfl⟩ := hq1
      change pz_E _ _ _ _ _ _ _ _ _ (_ :: _) _ _ _
      refine pe_if_eq (tgt := 55) d_K_holder_41 (by decide) (fun c_41 => ?_) (fun c_41 => ?_)
      · have c_41 := pb_0.mp c_41
        refine pe_iconst (v := -1) d_K_holder_55 (by decide) ?_
        refine pe_iret d_K_holder_56 rfl ?_
        exact ⟨by rw [if_neg (by rw [show inn y nb = false from c_41]; decide)], rfl, rfl⟩
      · have c_41 := pb_n0.mp c_41
        obtain ⟨q, hq, rfl⟩ := inn_N (by have := hd.2.2.2.2; omega) c_41
        have hn2 := hd.2.2.2.2
        refine pe_aload_n d_K_holder_44 rfl ?_
        refine pe_getf d_K_holder_45 f_K_25 hK.1 rfl ?_
        refine pe_iload_n d_K_holder_48 rfl ?_
        -- 49: Disk_ownerOf
        refine pe_callV d_K_holder_49 m_K_221 j_Disk_ownerOf v_Disk_ownerOf (c_Disk_ownerOf hd (by omega)) rfl rfl (by simp [Value.category]) (by decide) hd.1 rfl rfl ?_
        intro v1 h1 z1 hq1
        obtain ⟨rfl, rfl, rfl⟩ := hq1
        change pz_E _ _ _ _ _ _ _ _ _ (_ :: _) _ _ _
        refine pe_goto (tgt := 56) d_K_holder_52 (by decide) ?_
        refine pe_iret d_K_holder_56 rfl ?_
        exact ⟨by rw [if_pos (show inn (nI q) nb = true from c_41), nI_clamp (by omega)], rfl, rfl⟩
  · exact absurd (hx.symm.trans c_1) (by decide)
set_option maxHeartbeats 4000000 in
set_option maxRecDepth 20000 in
theorem c_K_holder_no {l : Launch} {L : Nat} {xs : Nat → Int32} {h : pz_H} {z : Nat} {lost : Nat} (hK : KOB h lost) {dr fl : Nat → Nat} {op mp : Nat → Bool} {fi lk : Nat → Nat} (hap : ∀ i, i < 6 → AOB (16 + 25 * i) h (dr i) (fl i) (op i) (mp i) (fi i) (lk i)) (x y : Int32) (hx0 : ¬ x = 0) (hx1 : ¬ x = nI 1) (hno : rng x (nI 2) (nI 7) = false) : pz_K l L xs M_K_holder 1 0 0 [.ref 0, .int x, .int y] h z (fun v h' z' => v = some (.int (-1)) ∧ h = h' ∧ z = z') := by
  refine pz_K.of rfl (Nat.le_of_ble_eq_true rfl) ?_
  change pz_E l L xs M_K_holder 1 0 0 0 [some (.ref 0), some (.int x), some (.int y), none] [] h z _
  refine pe_iload_n d_K_holder_0 rfl ?_
  refine pe_if_ne (tgt := 28) d_K_holder_1 (by decide) (fun c_1 => ?_) (fun c_1 => ?_)
  · refine pe_iload_n d_K_holder_28 rfl ?_
    refine pe_iconst (v := nI 1) d_K_holder_29 (by decide) ?_
    refine pe_icmp_ne (tgt := 57) d_K_holder_30 (by decide) (fun c_30 => ?_) (fun c_30 => ?_)
    · refine pe_iload_n d_K_holder_57 rfl ?_
      refine pe_iconst (v := nI 2) d_K_holder_58 (by decide) ?_
      refine pe_bipush (v := nI 7) d_K_holder_59 (by decide) ?_
      -- 61: K_isIn
      refine pe_callS d_K_holder_61 m_K_108 s_K_isIn (c_K_isIn _ _ _) rfl rfl (by simp [Value.category]) (by decide) ?_
      intro v1 h1 z1 hq1
      obtain ⟨rfl, rfl, rfl⟩ := hq1
      change pz_E _ _ _ _ _ _ _ _ _ (_ :: _) _ _ _
      refine pe_if_ne (tgt := 69) d_K_holder_64 (by decide) (fun c_64 => ?_) (fun c_64 => ?_)
      · have c_64 := pb_n0.mp c_64
        exact absurd (c_64.symm.trans hno) (by decide)
      · have c_64 := pb_0.mp c_64
        refine pe_iconst (v := -1) d_K_holder_67 (by decide) ?_
        refine pe_iret d_K_holder_68 rfl ?_
        exact ⟨rfl, rfl, rfl⟩
    · exact absurd c_30 hx1
  · exact absurd c_1 hx0
set_option maxHeartbeats 4000000 in
set_option maxRecDepth 20000 in
theorem c_K_holder_app {l : Launch} {L : Nat} {xs : Nat → Int32} {h : pz_H} {z : Nat} {lost : Nat} (hK : KOB h lost) {dr fl : Nat → Nat} {op mp : Nat → Bool} {fi lk : Nat → Nat} (hap : ∀ i, i < 6 → AOB (16 + 25 * i) h (dr i) (fl i) (op i) (mp i) (fi i) (lk i)) {a : Nat} (ha : a < 6) {pp : Nat → Int32} {pl pe : Nat} (hg : PGL (16 + 25 * a + 1) h pp pl pe) (y : Int32) : pz_K l L xs M_K_holder 1 0 0 [.ref 0, .int (nI (a + 2)), .int y] h z (fun v h' z' => v = some (.int (if inn y pl = true then pp ((pe + 8 - 1 - y.toNatClampNeg) % 8) else -1)) ∧ h = h' ∧ z = z') := by
  refine pz_K.of rfl (Nat.le_of_ble_eq_true rfl) ?_
  have hA := hap a ha
  change pz_E l L xs M_K_holder 1 0 0 0 [some (.ref 0), some (.int (nI (a + 2))), some (.int y), none] [] h z _
  refine pe_iload_n d_K_holder_0 rfl ?_
  refine pe_if_ne (tgt := 28) d_K_holder_1 (by decide) (fun c_1 => ?_) (fun c_1 => ?_)
  · refine pe_iload_n d_K_holder_28 rfl ?_
    refine pe_iconst (v := nI 1) d_K_holder_29 (by decide) ?_
    refine pe_icmpN_ne (tgt := 57) d_K_holder_30 (by decide) (by omega) (by omega) (fun c_30 => ?_) (fun c_30 => ?_)
    · refine pe_iload_n d_K_holder_57 rfl ?_
      refine pe_iconst (v := nI 2) d_K_holder_58 (by decide) ?_
      refine pe_bipush (v := nI 7) d_K_holder_59 (by decide) ?_
      -- 61: K_isIn
      refine pe_callS d_K_holder_61 m_K_108 s_K_isIn (c_K_isIn _ _ _) rfl rfl (by simp [Value.category]) (by decide) ?_
      intro v1 h1 z1 hq1
      obtain ⟨rfl, rfl, rfl⟩ := hq1
      change pz_E _ _ _ _ _ _ _ _ _ (_ :: _) _ _ _
      refine pe_if_ne (tgt := 69) d_K_holder_64 (by decide) (fun c_64 => ?_) (fun c_64 => ?_)
      · have c_64 := pb_n0.mp c_64
        refine pe_aload_n d_K_holder_69 rfl ?_
        refine pe_getf d_K_holder_70 f_K_49 hK.1 rfl ?_
        refine pe_iload_n d_K_holder_73 rfl ?_
        refine pe_iconst (v := nI 2) d_K_holder_74 (by decide) ?_
        refine pe_isubN d_K_holder_75 (by omega) ?_
        rw [Nat.add_sub_cancel]
        refine pe_aaldN d_K_holder_76 rfl hK.2 (by omega) (by omega) rfl ?_
        refine pe_getf d_K_holder_77 f_K_147 hA rfl ?_
        refine pe_astore_n d_K_holder_80 (by decide) rfl ?_
        dsimp only [List.set]
        refine pe_aload_n d_K_holder_81 rfl ?_
        refine pe_iload_n d_K_holder_82 rfl ?_
        -- 83: PageList_keeps
        refine pe_callV d_K_holder_83 m_K_266 j_PageList_keeps v_PageList_keeps (c_PageList_keeps hg _) rfl rfl (by simp [Value.category]) (by decide) hg.1 rfl rfl ?_
        intro v1 h1 z1 hq1
        obtain ⟨rfl, rfl, rfl⟩ := hq1
        change pz_E _ _ _ _ _ _ _ _ _ (_ :: _) _ _ _
        refine pe_if_eq (tgt := 97) d_K_holder_86 (by decide) (fun c_86 => ?_) (fun c_86 => ?_)
        · have c_86 := pb_0.mp c_86
          refine pe_iconst (v := -1) d_K_holder_97 (by decide) ?_
          refine pe_iret d_K_holder_98 rfl ?_
          exact ⟨by rw [if_neg (by rw [show inn y pl = false from c_86]; decide)], rfl, rfl⟩
        · have c_86 := pb_n0.mp c_86
          obtain ⟨q, hq, rfl⟩ := inn_N (by have := hg.2.2.1; omega) c_86
          have hpl := hg.2.2.1
          refine pe_aload_n d_K_holder_89 rfl ?_
          refine pe_iload_n d_K_holder_90 rfl ?_
          -- 91: PageList_beforeLast
          refine pe_callV d_K_holder_91 m_K_269 j_PageList_beforeLast v_PageList_beforeLast (c_PageList_beforeLast hg (by omega)) rfl rfl (by simp [Value.category]) (by decide) hg.1 rfl rfl ?_
          intro v1 h1 z1 hq1
          obtain ⟨rfl, rfl, rfl⟩ := hq1
          change pz_E _ _ _ _ _ _ _ _ _ (_ :: _) _ _ _
          refine pe_goto (tgt := 98) d_K_holder_94 (by decide) ?_
          refine pe_iret d_K_holder_98 rfl ?_
          exact ⟨by rw [if_pos (show inn (nI q) pl = true from c_86), nI_clamp (by omega)], rfl, rfl⟩
      · have c_64 := pb_0.mp c_64
        exact absurd (c_64.symm.trans (rng_y (by decide) (by omega) (by omega))) (by decide)
    · exfalso; omega
  · exact absurd c_1 (by rw [show (0 : Int32) = nI 0 from rfl]; exact fun e => by have := nI_inj (by omega) (by decide) e; omega)
set_option maxHeartbeats 4000000 in
set_option maxRecDepth 20000 in
theorem c_K_count_0 {l : Launch} {L : Nat} {xs : Nat → Int32} {h : pz_H} {z : Nat} {lost : Nat} (hK : KOB h lost) {dr fl : Nat → Nat} {op mp : Nat → Bool} {fi lk : Nat → Nat} (hap : ∀ i, i < 6 → AOB (16 + 25 * i) h (dr i) (fl i) (op i) (mp i) (fi i) (lk i)) {np : Nat} {mw mo mr mt : Nat → Int32} {mn : Nat → Bool} {md : Nat → Int32} {ts ck : Nat} (hm : MEM h np mw mo mr mt mn md ts ck) (x y : Int32) (hx : x.toInt = 0) : pz_K l L xs M_K_count 3 0 0 [.ref 0, .int x, .int y] h z (fun v h' z' => v = some (.int (nI (cnt (fun j => decide (mo j = -1)) np 0))) ∧ h = h' ∧ z = z') := by
  refine pz_K.of rfl (Nat.le_of_ble_eq_true rfl) ?_
  change pz_E l L xs M_K_count 3 0 0 0 [some (.ref 0), some (.int x), some (.int y)] [] h z _
  refine pe_iload_n d_K_count_0 rfl ?_
  by_cases sw_1i : (x : Int32).toInt < 0 ∨ 2 < (x : Int32).toInt
  · exfalso; omega
  have sw_1r : (x : Int32).toInt = 0 ∨ (x : Int32).toInt = 1 ∨ (x : Int32).toInt = 2 := by omega
  rcases sw_1r with sw_1 | sw_1 | sw_1
  · refine pe_tableIn (tgt := 28) d_K_count_1 (by omega) (by omega) (by rw [sw_1]; rfl) (by decide) ?_
    refine pe_aload_n d_K_count_28 rfl ?_
    refine pe_getf d_K_count_29 f_K_18 hK.1 rfl ?_
    refine pe_iconst (v := -1) d_K_count_32 (by decide) ?_
    -- 33: Memory_pagesOf
    refine pe_callV d_K_count_33 m_K_272 j_Memory_pagesOf v_Memory_pagesOf (c_Memory_pagesOf hm _) rfl rfl (by simp [Value.category]) (by decide) hm.1 rfl rfl ?_
    intro v1 h1 z1 hq1
    obtain ⟨rfl, rfl, rfl⟩ := hq1
    rw [Nat.sub_zero]
    change pz_E _ _ _ _ _ _ _ _ _ (_ :: _) _ _ _
    refine pe_iret d_K_count_36 rfl ?_
    exact ⟨rfl, rfl, rfl⟩
  · exfalso; omega
  · exfalso; omega
set_option maxHeartbeats 4000000 in
set_option maxRecDepth 20000 in
theorem c_K_count_1 {l : Launch} {L : Nat} {xs : Nat → Int32} {h : pz_H} {z : Nat} {lost : Nat} (hK : KOB h lost) {dr fl : Nat → Nat} {op mp : Nat → Bool} {fi lk : Nat → Nat} (hap : ∀ i, i < 6 → AOB (16 + 25 * i) h (dr i) (fl i) (op i) (mp i) (fi i) (lk i)) {nb : Nat} {dw dn : Nat → Int32} (hd : DSK h nb dw dn) (x y : Int32) (hx : x.toInt = 1) : pz_K l L xs M_K_count 3 0 0 [.ref 0, .int x, .int y] h z (fun v h' z' => v = some (.int (nI (cnt (fun j => decide (dn j = -1)) nb 0))) ∧ h = h' ∧ z = z') := by
  refine pz_K.of rfl (Nat.le_of_ble_eq_true rfl) ?_
  change pz_E l L xs M_K_count 3 0 0 0 [some (.ref 0), some (.int x), some (.int y)] [] h z _
  refine pe_iload_n d_K_count_0 rfl ?_
  by_cases sw_1i : (x : Int32).toInt < 0 ∨ 2 < (x : Int32).toInt
  · exfalso; omega
  have sw_1r : (x : Int32).toInt = 0 ∨ (x : Int32).toInt = 1 ∨ (x : Int32).toInt = 2 := by omega
  rcases sw_1r with sw_1 | sw_1 | sw_1
  · exfalso; omega
  · refine pe_tableIn (tgt := 37) d_K_count_1 (by omega) (by omega) (by rw [sw_1]; rfl) (by decide) ?_
    refine pe_aload_n d_K_count_37 rfl ?_
    refine pe_getf d_K_count_38 f_K_25 hK.1 rfl ?_
    refine pe_iconst (v := -1) d_K_count_41 (by decide) ?_
    -- 42: Disk_blocksOf
    refine pe_callV d_K_count_42 m_K_275 j_Disk_blocksOf v_Disk_blocksOf (c_Disk_blocksOf hd _) rfl rfl (by simp [Value.category]) (by decide) hd.1 rfl rfl ?_
    intro v1 h1 z1 hq1
    obtain ⟨rfl, rfl, rfl⟩ := hq1
    rw [Nat.sub_zero]
    change pz_E _ _ _ _ _ _ _ _ _ (_ :: _) _ _ _
    refine pe_iret d_K_count_45 rfl ?_
    exact ⟨rfl, rfl, rfl⟩
  · exfalso; omega
set_option maxHeartbeats 4000000 in
set_option maxRecDepth 20000 in
theorem c_K_count_2 {l : Launch} {L : Nat} {xs : Nat → Int32} {h : pz_H} {z : Nat} {lost : Nat} (hK : KOB h lost) {dr fl : Nat → Nat} {op mp : Nat → Bool} {fi lk : Nat → Nat} (hap : ∀ i, i < 6 → AOB (16 + 25 * i) h (dr i) (fl i) (op i) (mp i) (fi i) (lk i)) (x y : Int32) (hx : x.toInt = 2) : pz_K l L xs M_K_count 3 0 0 [.ref 0, .int x, .int y] h z (fun v h' z' => v = some (.int (nI lost)) ∧ h = h' ∧ z = z') := by
  refine pz_K.of rfl (Nat.le_of_ble_eq_true rfl) ?_
  change pz_E l L xs M_K_count 3 0 0 0 [some (.ref 0), some (.int x), some (.int y)] [] h z _
  refine pe_iload_n d_K_count_0 rfl ?_
  by_cases sw_1i : (x : Int32).toInt < 0 ∨ 2 < (x : Int32).toInt
  · exfalso; omega
  have sw_1r : (x : Int32).toInt = 0 ∨ (x : Int32).toInt = 1 ∨ (x : Int32).toInt = 2 := by omega
  rcases sw_1r with sw_1 | sw_1 | sw_1
  · exfalso; omega
  · exfalso; omega
  · refine pe_tableIn (tgt := 46) d_K_count_1 (by omega) (by omega) (by rw [sw_1]; rfl) (by decide) ?_
    refine pe_aload_n d_K_count_46 rfl ?_
    refine pe_getf d_K_count_47 f_K_43 hK.1 rfl ?_
    refine pe_iret d_K_count_50 rfl ?_
    exact ⟨rfl, rfl, rfl⟩
set_option maxHeartbeats 4000000 in
set_option maxRecDepth 20000 in
theorem c_K_count_no {l : Launch} {L : Nat} {xs : Nat → Int32} {h : pz_H} {z : Nat} {lost : Nat} (hK : KOB h lost) {dr fl : Nat → Nat} {op mp : Nat → Bool} {fi lk : Nat → Nat} (hap : ∀ i, i < 6 → AOB (16 + 25 * i) h (dr i) (fl i) (op i) (mp i) (fi i) (lk i)) (x y : Int32) (hx : x.toInt < 0 ∨ 2 < x.toInt) (hno : rng y (nI 0) (nI 5) = false) : pz_K l L xs M_K_count 3 0 0 [.ref 0, .int x, .int y] h z (fun v h' z' => v = some (.int (-1)) ∧ h = h' ∧ z = z') := by
  refine pz_K.of rfl (Nat.le_of_ble_eq_true rfl) ?_
  change pz_E l L xs M_K_count 3 0 0 0 [some (.ref 0), some (.int x), some (.int y)] [] h z _
  refine pe_iload_n d_K_count_0 rfl ?_
  by_cases sw_1i : (x : Int32).toInt < 0 ∨ 2 < (x : Int32).toInt
  · refine pe_tableOut (tgt := 51) d_K_count_1 sw_1i (by decide) ?_
    refine pe_iload_n d_K_count_51 rfl ?_
    -- 52: K_isApp
    refine pe_callS d_K_count_52 m_K_54 s_K_isApp (c_K_isApp _) rfl rfl (by simp [Value.category]) (by decide) ?_
    intro v1 h1 z1 hq1
    obtain ⟨rfl, rfl, rfl⟩ := hq1
    change pz_E _ _ _ _ _ _ _ _ _ (_ :: _) _ _ _
    refine pe_if_eq (tgt := 67) d_K_count_55 (by decide) (fun c_55 => ?_) (fun c_55 => ?_)
    · have c_55 := pb_0.mp c_55
      refine pe_iconst (v := -1) d_K_count_67 (by decide) ?_
      refine pe_iret d_K_count_68 rfl ?_
      exact ⟨rfl, rfl, rfl⟩
    · have c_55 := pb_n0.mp c_55
      exact absurd (c_55.symm.trans hno) (by decide)
  have sw_1r : (x : Int32).toInt = 0 ∨ (x : Int32).toInt = 1 ∨ (x : Int32).toInt = 2 := by omega
  rcases sw_1r with sw_1 | sw_1 | sw_1
  · exfalso; omega
  · exfalso; omega
  · exfalso; omega
set_option maxHeartbeats 4000000 in
set_option maxRecDepth 20000 in
theorem c_K_countOf_3 {l : Launch} {L : Nat} {xs : Nat → Int32} {h : pz_H} {z : Nat} {lost : Nat} (hK : KOB h lost) {dr fl : Nat → Nat} {op mp : Nat → Bool} {fi lk : Nat → Nat} (hap : ∀ i, i < 6 → AOB (16 + 25 * i) h (dr i) (fl i) (op i) (mp i) (fi i) (lk i)) {np : Nat} {mw mo mr mt : Nat → Int32} {mn : Nat → Bool} {md : Nat → Int32} {ts ck : Nat} (hm : MEM h np mw mo mr mt mn md ts ck) {a : Nat} (ha : a < 6) (x : Int32) (hx : x.toInt = 3) : pz_K l L xs M_K_countOf 2 0 0 [.ref 0, .int (nI a), .int x] h z (fun v h' z' => v = some (.int (nI (cnt (fun j => decide (mo j = nI a)) np 0))) ∧ h = h' ∧ z = z') := by
  refine pz_K.of rfl (Nat.le_of_ble_eq_true rfl) ?_
  change pz_E l L xs M_K_countOf 2 0 0 0 [some (.ref 0), some (.int (nI a)), some (.int x)] [] h z _
  refine pe_iload_n d_K_countOf_0 rfl ?_
  by_cases sw_1i : (x : Int32).toInt < 3 ∨ 8 < (x : Int32).toInt
  · exfalso; omega
  have sw_1r : (x : Int32).toInt = 3 ∨ (x : Int32).toInt = 4 ∨ (x : Int32).toInt = 5 ∨ (x : Int32).toInt = 6 ∨ (x : Int32).toInt = 7 ∨ (x : Int32).toInt = 8 := by omega
  rcases sw_1r with sw_1 | sw_1 | sw_1 | sw_1 | sw_1 | sw_1
  · refine pe_tableIn (tgt := 40) d_K_countOf_1 (by omega) (by omega) (by rw [sw_1]; rfl) (by decide) ?_
    refine pe_aload_n d_K_countOf_40 rfl ?_
    refine pe_getf d_K_countOf_41 f_K_18 hK.1 rfl ?_
    refine pe_iload_n d_K_countOf_44 rfl ?_
    -- 45: Memory_pagesOf
    refine pe_callV d_K_countOf_45 m_K_272 j_Memory_pagesOf v_Memory_pagesOf (c_Memory_pagesOf hm _) rfl rfl (by simp [Value.category]) (by decide) hm.1 rfl rfl ?_
    intro v1 h1 z1 hq1
    obtain ⟨rfl, rfl, rfl⟩ := hq1
    rw [Nat.sub_zero]
    change pz_E _ _ _ _ _ _ _ _ _ (_ :: _) _ _ _
    refine pe_iret d_K_countOf_48 rfl ?_
    exact ⟨rfl, rfl, rfl⟩
  · exfalso; omega
  · exfalso; omega
  · exfalso; omega
  · exfalso; omega
  · exfalso; omega
set_option maxHeartbeats 4000000 in
set_option maxRecDepth 20000 in
theorem c_K_count_3 {l : Launch} {L : Nat} {xs : Nat → Int32} {h : pz_H} {z : Nat} {lost : Nat} (hK : KOB h lost) {dr fl : Nat → Nat} {op mp : Nat → Bool} {fi lk : Nat → Nat} (hap : ∀ i, i < 6 → AOB (16 + 25 * i) h (dr i) (fl i) (op i) (mp i) (fi i) (lk i)) {np : Nat} {mw mo mr mt : Nat → Int32} {mn : Nat → Bool} {md : Nat → Int32} {ts ck : Nat} (hm : MEM h np mw mo mr mt mn md ts ck) {a : Nat} (ha : a < 6) (x : Int32) (hx : x.toInt = 3) : pz_K l L xs M_K_count 3 0 0 [.ref 0, .int x, .int (nI a)] h z (fun v h' z' => v = some (.int (nI (cnt (fun j => decide (mo j = nI a)) np 0))) ∧ h = h' ∧ z = z') := by
  refine pz_K.of rfl (Nat.le_of_ble_eq_true rfl) ?_
  change pz_E l L xs M_K_count 3 0 0 0 [some (.ref 0), some (.int x), some (.int (nI a))] [] h z _
  refine pe_iload_n d_K_count_0 rfl ?_
  by_cases sw_1i : (x : Int32).toInt < 0 ∨ 2 < (x : Int32).toInt
  · refine pe_tableOut (tgt := 51) d_K_count_1 sw_1i (by decide) ?_
    refine pe_iload_n d_K_count_51 rfl ?_
    -- 52: K_isApp
    refine pe_callS d_K_count_52 m_K_54 s_K_isApp (c_K_isApp _) rfl rfl (by simp [Value.category]) (by decide) ?_
    intro v1 h1 z1 hq1
    obtain ⟨rfl, rfl, rfl⟩ := hq1
    change pz_E _ _ _ _ _ _ _ _ _ (_ :: _) _ _ _
    refine pe_if_eq (tgt := 67) d_K_count_55 (by decide) (fun c_55 => ?_) (fun c_55 => ?_)
    · have c_55 := pb_0.mp c_55
      exact absurd (c_55.symm.trans (rng_y (by decide) (Nat.zero_le _) (by omega))) (by decide)
    · have c_55 := pb_n0.mp c_55
      refine pe_aload_n d_K_count_58 rfl ?_
      refine pe_iload_n d_K_count_59 rfl ?_
      refine pe_iload_n d_K_count_60 rfl ?_
      -- 61: K_countOf
      refine pe_callV d_K_count_61 m_K_278 j_K_countOf v_K_countOf (c_K_countOf_3 hK hap hm ha  _ hx) rfl rfl (by simp [Value.category]) (by decide) hK.1 rfl rfl ?_
      intro v1 h1 z1 hq1
      obtain ⟨rfl, rfl, rfl⟩ := hq1
      change pz_E _ _ _ _ _ _ _ _ _ (_ :: _) _ _ _
      refine pe_goto (tgt := 68) d_K_count_64 (by decide) ?_
      refine pe_iret d_K_count_68 rfl ?_
      exact ⟨rfl, rfl, rfl⟩
  have sw_1r : (x : Int32).toInt = 0 ∨ (x : Int32).toInt = 1 ∨ (x : Int32).toInt = 2 := by omega
  rcases sw_1r with sw_1 | sw_1 | sw_1
  · exfalso; omega
  · exfalso; omega
  · exfalso; omega
set_option maxHeartbeats 4000000 in
set_option maxRecDepth 20000 in
theorem c_K_countOf_4 {l : Launch} {L : Nat} {xs : Nat → Int32} {h : pz_H} {z : Nat} {lost : Nat} (hK : KOB h lost) {dr fl : Nat → Nat} {op mp : Nat → Bool} {fi lk : Nat → Nat} (hap : ∀ i, i < 6 → AOB (16 + 25 * i) h (dr i) (fl i) (op i) (mp i) (fi i) (lk i)) {np : Nat} {mw mo mr mt : Nat → Int32} {mn : Nat → Bool} {md : Nat → Int32} {ts ck : Nat} (hm : MEM h np mw mo mr mt mn md ts ck) {a : Nat} (ha : a < 6) (x : Int32) (hx : x.toInt = 4) : pz_K l L xs M_K_countOf 2 0 0 [.ref 0, .int (nI a), .int x] h z (fun v h' z' => v = some (.int (nI (cnt (fun j => decide (mo j = nI a) && mn j) np 0))) ∧ h = h' ∧ z = z') := by
  refine pz_K.of rfl (Nat.le_of_ble_eq_true rfl) ?_
  change pz_E l L xs M_K_countOf 2 0 0 0 [some (.ref 0), some (.int (nI a)), some (.int x)] [] h z _
  refine pe_iload_n d_K_countOf_0 rfl ?_
  by_cases sw_1i : (x : Int32).toInt < 3 ∨ 8 < (x : Int32).toInt
  · exfalso; omega
  have sw_1r : (x : Int32).toInt = 3 ∨ (x : Int32).toInt = 4 ∨ (x : Int32).toInt = 5 ∨ (x : Int32).toInt = 6 ∨ (x : Int32).toInt = 7 ∨ (x : Int32).toInt = 8 := by omega
  rcases sw_1r with sw_1 | sw_1 | sw_1 | sw_1 | sw_1 | sw_1
  · exfalso; omega
  · refine pe_tableIn (tgt := 49) d_K_countOf_1 (by omega) (by omega) (by rw [sw_1]; rfl) (by decide) ?_
    refine pe_aload_n d_K_countOf_49 rfl ?_
    refine pe_getf d_K_countOf_50 f_K_18 hK.1 rfl ?_
    refine pe_iload_n d_K_countOf_53 rfl ?_
    -- 54: Memory_namedPagesOf
    refine pe_callV d_K_countOf_54 m_K_281 j_Memory_namedPagesOf v_Memory_namedPagesOf (c_Memory_namedPagesOf hm _) rfl rfl (by simp [Value.category]) (by decide) hm.1 rfl rfl ?_
    intro v1 h1 z1 hq1
    obtain ⟨rfl, rfl, rfl⟩ := hq1
    rw [Nat.sub_zero]
    change pz_E _ _ _ _ _ _ _ _ _ (_ :: _) _ _ _
    refine pe_iret d_K_countOf_57 rfl ?_
    exact ⟨rfl, rfl, rfl⟩
  · exfalso; omega
  · exfalso; omega
  · exfalso; omega
  · exfalso; omega
set_option maxHeartbeats 4000000 in
set_option maxRecDepth 20000 in
theorem c_K_count_4 {l : Launch} {L : Nat} {xs : Nat → Int32} {h : pz_H} {z : Nat} {lost : Nat} (hK : KOB h lost) {dr fl : Nat → Nat} {op mp : Nat → Bool} {fi lk : Nat → Nat} (hap : ∀ i, i < 6 → AOB (16 + 25 * i) h (dr i) (fl i) (op i) (mp i) (fi i) (lk i)) {np : Nat} {mw mo mr mt : Nat → Int32} {mn : Nat → Bool} {md : Nat → Int32} {ts ck : Nat} (hm : MEM h np mw mo mr mt mn md ts ck) {a : Nat} (ha : a < 6) (x : Int32) (hx : x.toInt = 4) : pz_K l L xs M_K_count 3 0 0 [.ref 0, .int x, .int (nI a)] h z (fun v h' z' => v = some (.int (nI (cnt (fun j => decide (mo j = nI a) && mn j) np 0))) ∧ h = h' ∧ z = z') := by
  refine pz_K.of rfl (Nat.le_of_ble_eq_true rfl) ?_
  change pz_E l L xs M_K_count 3 0 0 0 [some (.ref 0), some (.int x), some (.int (nI a))] [] h z _
  refine pe_iload_n d_K_count_0 rfl ?_
  by_cases sw_1i : (x : Int32).toInt < 0 ∨ 2 < (x : Int32).toInt
  · refine pe_tableOut (tgt := 51) d_K_count_1 sw_1i (by decide) ?_
    refine pe_iload_n d_K_count_51 rfl ?_
    -- 52: K_isApp
    refine pe_callS d_K_count_52 m_K_54 s_K_isApp (c_K_isApp _) rfl rfl (by simp [Value.category]) (by decide) ?_
    intro v1 h1 z1 hq1
    obtain ⟨rfl, rfl, rfl⟩ := hq1
    change pz_E _ _ _ _ _ _ _ _ _ (_ :: _) _ _ _
    refine pe_if_eq (tgt := 67) d_K_count_55 (by decide) (fun c_55 => ?_) (fun c_55 => ?_)
    · have c_55 := pb_0.mp c_55
      exact absurd (c_55.symm.trans (rng_y (by decide) (Nat.zero_le _) (by omega))) (by decide)
    · have c_55 := pb_n0.mp c_55
      refine pe_aload_n d_K_count_58 rfl ?_
      refine pe_iload_n d_K_count_59 rfl ?_
      refine pe_iload_n d_K_count_60 rfl ?_
      -- 61: K_countOf
      refine pe_callV d_K_count_61 m_K_278 j_K_countOf v_K_countOf (c_K_countOf_4 hK hap hm ha  _ hx) rfl rfl (by simp [Value.category]) (by decide) hK.1 rfl rfl ?_
      intro v1 h1 z1 hq1
      obtain ⟨rfl, rfl, rfl⟩ := hq1
      change pz_E _ _ _ _ _ _ _ _ _ (_ :: _) _ _ _
      refine pe_goto (tgt := 68) d_K_count_64 (by decide) ?_
      refine pe_iret d_K_count_68 rfl ?_
      exact ⟨rfl, rfl, rfl⟩
  have sw_1r : (x : Int32).toInt = 0 ∨ (x : Int32).toInt = 1 ∨ (x : Int32).toInt = 2 := by omega
  rcases sw_1r with sw_1 | sw_1 | sw_1
  · exfalso; omega
  · exfalso; omega
  · exfalso; omega
set_option maxHeartbeats 4000000 in
set_option maxRecDepth 20000 in
theorem c_K_countOf_5 {l : Launch} {L : Nat} {xs : Nat → Int32} {h : pz_H} {z : Nat} {lost : Nat} (hK : KOB h lost) {dr fl : Nat → Nat} {op mp : Nat → Bool} {fi lk : Nat → Nat} (hap : ∀ i, i < 6 → AOB (16 + 25 * i) h (dr i) (fl i) (op i) (mp i) (fi i) (lk i)) {a : Nat} (ha : a < 6) {qb : Nat → Nat → Int32} {qn : Nat → Nat} {qf ql : Nat} (hq : QUE (16 + 25 * a + 3) h qb qn qf ql) (x : Int32) (hx : x.toInt = 5) : pz_K l L xs M_K_countOf 2 0 0 [.ref 0, .int (nI a), .int x] h z (fun v h' z' => v = some (.int (nI ql)) ∧ h = h' ∧ z = z') := by
  refine pz_K.of rfl (Nat.le_of_ble_eq_true rfl) ?_
  have hA := hap a ha
  change pz_E l L xs M_K_countOf 2 0 0 0 [some (.ref 0), some (.int (nI a)), some (.int x)] [] h z _
  refine pe_iload_n d_K_countOf_0 rfl ?_
  by_cases sw_1i : (x : Int32).toInt < 3 ∨ 8 < (x : Int32).toInt
  · exfalso; omega
  have sw_1r : (x : Int32).toInt = 3 ∨ (x : Int32).toInt = 4 ∨ (x : Int32).toInt = 5 ∨ (x : Int32).toInt = 6 ∨ (x : Int32).toInt = 7 ∨ (x : Int32).toInt = 8 := by omega
  rcases sw_1r with sw_1 | sw_1 | sw_1 | sw_1 | sw_1 | sw_1
  · exfalso; omega
  · exfalso; omega
  · refine pe_tableIn (tgt := 58) d_K_countOf_1 (by omega) (by omega) (by rw [sw_1]; rfl) (by decide) ?_
    refine pe_aload_n d_K_countOf_58 rfl ?_
    refine pe_getf d_K_countOf_59 f_K_49 hK.1 rfl ?_
    refine pe_iload_n d_K_countOf_62 rfl ?_
    refine pe_aaldN d_K_countOf_63 rfl hK.2 (by omega) (by omega) rfl ?_
    refine pe_getf d_K_countOf_64 f_K_194 hA rfl ?_
    refine pe_getf d_K_countOf_67 f_K_198 hq.1 rfl ?_
    refine pe_iret d_K_countOf_70 rfl ?_
    exact ⟨rfl, rfl, rfl⟩
  · exfalso; omega
  · exfalso; omega
  · exfalso; omega
set_option maxHeartbeats 4000000 in
set_option maxRecDepth 20000 in
theorem c_K_count_5 {l : Launch} {L : Nat} {xs : Nat → Int32} {h : pz_H} {z : Nat} {lost : Nat} (hK : KOB h lost) {dr fl : Nat → Nat} {op mp : Nat → Bool} {fi lk : Nat → Nat} (hap : ∀ i, i < 6 → AOB (16 + 25 * i) h (dr i) (fl i) (op i) (mp i) (fi i) (lk i)) {a : Nat} (ha : a < 6) {qb : Nat → Nat → Int32} {qn : Nat → Nat} {qf ql : Nat} (hq : QUE (16 + 25 * a + 3) h qb qn qf ql) (x : Int32) (hx : x.toInt = 5) : pz_K l L xs M_K_count 3 0 0 [.ref 0, .int x, .int (nI a)] h z (fun v h' z' => v = some (.int (nI ql)) ∧ h = h' ∧ z = z') := by
  refine pz_K.of rfl (Nat.le_of_ble_eq_true rfl) ?_
  change pz_E l L xs M_K_count 3 0 0 0 [some (.ref 0), some (.int x), some (.int (nI a))] [] h z _
  refine pe_iload_n d_K_count_0 rfl ?_
  by_cases sw_1i : (x : Int32).toInt < 0 ∨ 2 < (x : Int32).toInt
  · refine pe_tableOut (tgt := 51) d_K_count_1 sw_1i (by decide) ?_
    refine pe_iload_n d_K_count_51 rfl ?_
    -- 52: K_isApp
    refine pe_callS d_K_count_52 m_K_54 s_K_isApp (c_K_isApp _) rfl rfl (by simp [Value.category]) (by decide) ?_
    intro v1 h1 z1 hq1
    obtain ⟨rfl, rfl, rfl⟩ := hq1
    change pz_E _ _ _ _ _ _ _ _ _ (_ :: _) _ _ _
    refine pe_if_eq (tgt := 67) d_K_count_55 (by decide) (fun c_55 => ?_) (fun c_55 => ?_)
    · have c_55 := pb_0.mp c_55
      exact absurd (c_55.symm.trans (rng_y (by decide) (Nat.zero_le _) (by omega))) (by decide)
    · have c_55 := pb_n0.mp c_55
      refine pe_aload_n d_K_count_58 rfl ?_
      refine pe_iload_n d_K_count_59 rfl ?_
      refine pe_iload_n d_K_count_60 rfl ?_
      -- 61: K_countOf
      refine pe_callV d_K_count_61 m_K_278 j_K_countOf v_K_countOf (c_K_countOf_5 hK hap  ha hq _ hx) rfl rfl (by simp [Value.category]) (by decide) hK.1 rfl rfl ?_
      intro v1 h1 z1 hq1
      obtain ⟨rfl, rfl, rfl⟩ := hq1
      change pz_E _ _ _ _ _ _ _ _ _ (_ :: _) _ _ _
      refine pe_goto (tgt := 68) d_K_count_64 (by decide) ?_
      refine pe_iret d_K_count_68 rfl ?_
      exact ⟨rfl, rfl, rfl⟩
  have sw_1r : (x : Int32).toInt = 0 ∨ (x : Int32).toInt = 1 ∨ (x : Int32).toInt = 2 := by omega
  rcases sw_1r with sw_1 | sw_1 | sw_1
  · exfalso; omega
  · exfalso; omega
  · exfalso; omega
set_option maxHeartbeats 4000000 in
set_option maxRecDepth 20000 in
theorem c_K_countOf_6 {l : Launch} {L : Nat} {xs : Nat → Int32} {h : pz_H} {z : Nat} {lost : Nat} (hK : KOB h lost) {dr fl : Nat → Nat} {op mp : Nat → Bool} {fi lk : Nat → Nat} (hap : ∀ i, i < 6 → AOB (16 + 25 * i) h (dr i) (fl i) (op i) (mp i) (fi i) (lk i)) {nb : Nat} {dw dn : Nat → Int32} (hd : DSK h nb dw dn) {a : Nat} (ha : a < 6) (x : Int32) (hx : x.toInt = 6) : pz_K l L xs M_K_countOf 2 0 0 [.ref 0, .int (nI a), .int x] h z (fun v h' z' => v = some (.int (nI (cnt (fun j => decide (dn j = nI a)) nb 0))) ∧ h = h' ∧ z = z') := by
  refine pz_K.of rfl (Nat.le_of_ble_eq_true rfl) ?_
  change pz_E l L xs M_K_countOf 2 0 0 0 [some (.ref 0), some (.int (nI a)), some (.int x)] [] h z _
  refine pe_iload_n d_K_countOf_0 rfl ?_
  by_cases sw_1i : (x : Int32).toInt < 3 ∨ 8 < (x : Int32).toInt
  · exfalso; omega
  have sw_1r : (x : Int32).toInt = 3 ∨ (x : Int32).toInt = 4 ∨ (x : Int32).toInt = 5 ∨ (x : Int32).toInt = 6 ∨ (x : Int32).toInt = 7 ∨ (x : Int32).toInt = 8 := by omega
  rcases sw_1r with sw_1 | sw_1 | sw_1 | sw_1 | sw_1 | sw_1
  · exfalso; omega
  · exfalso; omega
  · exfalso; omega
  · refine pe_tableIn (tgt := 71) d_K_countOf_1 (by omega) (by omega) (by rw [sw_1]; rfl) (by decide) ?_
    refine pe_aload_n d_K_countOf_71 rfl ?_
    refine pe_getf d_K_countOf_72 f_K_25 hK.1 rfl ?_
    refine pe_iload_n d_K_countOf_75 rfl ?_
    -- 76: Disk_blocksOf
    refine pe_callV d_K_countOf_76 m_K_275 j_Disk_blocksOf v_Disk_blocksOf (c_Disk_blocksOf hd _) rfl rfl (by simp [Value.category]) (by decide) hd.1 rfl rfl ?_
    intro v1 h1 z1 hq1
    obtain ⟨rfl, rfl, rfl⟩ := hq1
    rw [Nat.sub_zero]
    change pz_E _ _ _ _ _ _ _ _ _ (_ :: _) _ _ _
    refine pe_iret d_K_countOf_79 rfl ?_
    exact ⟨rfl, rfl, rfl⟩
  · exfalso; omega
  · exfalso; omega
set_option maxHeartbeats 4000000 in
set_option maxRecDepth 20000 in
theorem c_K_count_6 {l : Launch} {L : Nat} {xs : Nat → Int32} {h : pz_H} {z : Nat} {lost : Nat} (hK : KOB h lost) {dr fl : Nat → Nat} {op mp : Nat → Bool} {fi lk : Nat → Nat} (hap : ∀ i, i < 6 → AOB (16 + 25 * i) h (dr i) (fl i) (op i) (mp i) (fi i) (lk i)) {nb : Nat} {dw dn : Nat → Int32} (hd : DSK h nb dw dn) {a : Nat} (ha : a < 6) (x : Int32) (hx : x.toInt = 6) : pz_K l L xs M_K_count 3 0 0 [.ref 0, .int x, .int (nI a)] h z (fun v h' z' => v = some (.int (nI (cnt (fun j => decide (dn j = nI a)) nb 0))) ∧ h = h' ∧ z = z') := by
  refine pz_K.of rfl (Nat.le_of_ble_eq_true rfl) ?_
  change pz_E l L xs M_K_count 3 0 0 0 [some (.ref 0), some (.int x), some (.int (nI a))] [] h z _
  refine pe_iload_n d_K_count_0 rfl ?_
  by_cases sw_1i : (x : Int32).toInt < 0 ∨ 2 < (x : Int32).toInt
  · refine pe_tableOut (tgt := 51) d_K_count_1 sw_1i (by decide) ?_
    refine pe_iload_n d_K_count_51 rfl ?_
    -- 52: K_isApp
    refine pe_callS d_K_count_52 m_K_54 s_K_isApp (c_K_isApp _) rfl rfl (by simp [Value.category]) (by decide) ?_
    intro v1 h1 z1 hq1
    obtain ⟨rfl, rfl, rfl⟩ := hq1
    change pz_E _ _ _ _ _ _ _ _ _ (_ :: _) _ _ _
    refine pe_if_eq (tgt := 67) d_K_count_55 (by decide) (fun c_55 => ?_) (fun c_55 => ?_)
    · have c_55 := pb_0.mp c_55
      exact absurd (c_55.symm.trans (rng_y (by decide) (Nat.zero_le _) (by omega))) (by decide)
    · have c_55 := pb_n0.mp c_55
      refine pe_aload_n d_K_count_58 rfl ?_
      refine pe_iload_n d_K_count_59 rfl ?_
      refine pe_iload_n d_K_count_60 rfl ?_
      -- 61: K_countOf
      refine pe_callV d_K_count_61 m_K_278 j_K_countOf v_K_countOf (c_K_countOf_6 hK hap hd ha  _ hx) rfl rfl (by simp [Value.category]) (by decide) hK.1 rfl rfl ?_
      intro v1 h1 z1 hq1
      obtain ⟨rfl, rfl, rfl⟩ := hq1
      change pz_E _ _ _ _ _ _ _ _ _ (_ :: _) _ _ _
      refine pe_goto (tgt := 68) d_K_count_64 (by decide) ?_
      refine pe_iret d_K_count_68 rfl ?_
      exact ⟨rfl, rfl, rfl⟩
  have sw_1r : (x : Int32).toInt = 0 ∨ (x : Int32).toInt = 1 ∨ (x : Int32).toInt = 2 := by omega
  rcases sw_1r with sw_1 | sw_1 | sw_1
  · exfalso; omega
  · exfalso; omega
  · exfalso; omega
set_option maxHeartbeats 4000000 in
set_option maxRecDepth 20000 in
theorem c_K_countOf_7 {l : Launch} {L : Nat} {xs : Nat → Int32} {h : pz_H} {z : Nat} {lost : Nat} (hK : KOB h lost) {dr fl : Nat → Nat} {op mp : Nat → Bool} {fi lk : Nat → Nat} (hap : ∀ i, i < 6 → AOB (16 + 25 * i) h (dr i) (fl i) (op i) (mp i) (fi i) (lk i)) {os : Nat → Int32} {ol : Nat} (ho : ORD h os ol) {a : Nat} (ha : a < 6) (x : Int32) (hx : x.toInt = 7) : pz_K l L xs M_K_countOf 2 0 0 [.ref 0, .int (nI a), .int x] h z (fun v h' z' => v = some (.int (nI 1 + orm ol (ff (fun j => decide (os j = nI a)) ol 0))) ∧ h = h' ∧ z = z') := by
  refine pz_K.of rfl (Nat.le_of_ble_eq_true rfl) ?_
  change pz_E l L xs M_K_countOf 2 0 0 0 [some (.ref 0), some (.int (nI a)), some (.int x)] [] h z _
  refine pe_iload_n d_K_countOf_0 rfl ?_
  by_cases sw_1i : (x : Int32).toInt < 3 ∨ 8 < (x : Int32).toInt
  · exfalso; omega
  have sw_1r : (x : Int32).toInt = 3 ∨ (x : Int32).toInt = 4 ∨ (x : Int32).toInt = 5 ∨ (x : Int32).toInt = 6 ∨ (x : Int32).toInt = 7 ∨ (x : Int32).toInt = 8 := by omega
  rcases sw_1r with sw_1 | sw_1 | sw_1 | sw_1 | sw_1 | sw_1
  · exfalso; omega
  · exfalso; omega
  · exfalso; omega
  · exfalso; omega
  · refine pe_tableIn (tgt := 80) d_K_countOf_1 (by omega) (by omega) (by rw [sw_1]; rfl) (by decide) ?_
    refine pe_iconst (v := nI 1) d_K_countOf_80 (by decide) ?_
    refine pe_aload_n d_K_countOf_81 rfl ?_
    refine pe_getf d_K_countOf_82 f_K_32 hK.1 rfl ?_
    refine pe_iload_n d_K_countOf_85 rfl ?_
    -- 86: FilterOrder_placeOf
    refine pe_callV d_K_countOf_86 m_K_284 j_FilterOrder_placeOf v_FilterOrder_placeOf (c_FilterOrder_placeOf ho _) rfl rfl (by simp [Value.category]) (by decide) ho.1 rfl rfl ?_
    intro v1 h1 z1 hq1
    obtain ⟨rfl, rfl, rfl⟩ := hq1
    rw [Nat.sub_zero]
    change pz_E _ _ _ _ _ _ _ _ _ (_ :: _) _ _ _
    refine pe_iadd d_K_countOf_89 ?_
    refine pe_iret d_K_countOf_90 rfl ?_
    exact ⟨rfl, rfl, rfl⟩
  · exfalso; omega
set_option maxHeartbeats 4000000 in
set_option maxRecDepth 20000 in
theorem c_K_count_7 {l : Launch} {L : Nat} {xs : Nat → Int32} {h : pz_H} {z : Nat} {lost : Nat} (hK : KOB h lost) {dr fl : Nat → Nat} {op mp : Nat → Bool} {fi lk : Nat → Nat} (hap : ∀ i, i < 6 → AOB (16 + 25 * i) h (dr i) (fl i) (op i) (mp i) (fi i) (lk i)) {os : Nat → Int32} {ol : Nat} (ho : ORD h os ol) {a : Nat} (ha : a < 6) (x : Int32) (hx : x.toInt = 7) : pz_K l L xs M_K_count 3 0 0 [.ref 0, .int x, .int (nI a)] h z (fun v h' z' => v = some (.int (nI 1 + orm ol (ff (fun j => decide (os j = nI a)) ol 0))) ∧ h = h' ∧ z = z') := by
  refine pz_K.of rfl (Nat.le_of_ble_eq_true rfl) ?_
  change pz_E l L xs M_K_count 3 0 0 0 [some (.ref 0), some (.int x), some (.int (nI a))] [] h z _
  refine pe_iload_n d_K_count_0 rfl ?_
  by_cases sw_1i : (x : Int32).toInt < 0 ∨ 2 < (x : Int32).toInt
  · refine pe_tableOut (tgt := 51) d_K_count_1 sw_1i (by decide) ?_
    refine pe_iload_n d_K_count_51 rfl ?_
    -- 52: K_isApp
    refine pe_callS d_K_count_52 m_K_54 s_K_isApp (c_K_isApp _) rfl rfl (by simp [Value.category]) (by decide) ?_
    intro v1 h1 z1 hq1
    obtain ⟨rfl, rfl, rfl⟩ := hq1
    change pz_E _ _ _ _ _ _ _ _ _ (_ :: _) _ _ _
    refine pe_if_eq (tgt := 67) d_K_count_55 (by decide) (fun c_55 => ?_) (fun c_55 => ?_)
    · have c_55 := pb_0.mp c_55
      exact absurd (c_55.symm.trans (rng_y (by decide) (Nat.zero_le _) (by omega))) (by decide)
    · have c_55 := pb_n0.mp c_55
      refine pe_aload_n d_K_count_58 rfl ?_
      refine pe_iload_n d_K_count_59 rfl ?_
      refine pe_iload_n d_K_count_60 rfl ?_
      -- 61: K_countOf
      refine pe_callV d_K_count_61 m_K_278 j_K_countOf v_K_countOf (c_K_countOf_7 hK hap ho ha  _ hx) rfl rfl (by simp [Value.category]) (by decide) hK.1 rfl rfl ?_
      intro v1 h1 z1 hq1
      obtain ⟨rfl, rfl, rfl⟩ := hq1
      change pz_E _ _ _ _ _ _ _ _ _ (_ :: _) _ _ _
      refine pe_goto (tgt := 68) d_K_count_64 (by decide) ?_
      refine pe_iret d_K_count_68 rfl ?_
      exact ⟨rfl, rfl, rfl⟩
  have sw_1r : (x : Int32).toInt = 0 ∨ (x : Int32).toInt = 1 ∨ (x : Int32).toInt = 2 := by omega
  rcases sw_1r with sw_1 | sw_1 | sw_1
  · exfalso; omega
  · exfalso; omega
  · exfalso; omega
set_option maxHeartbeats 4000000 in
set_option maxRecDepth 20000 in
theorem c_K_countOf_8 {l : Launch} {L : Nat} {xs : Nat → Int32} {h : pz_H} {z : Nat} {lost : Nat} (hK : KOB h lost) {dr fl : Nat → Nat} {op mp : Nat → Bool} {fi lk : Nat → Nat} (hap : ∀ i, i < 6 → AOB (16 + 25 * i) h (dr i) (fl i) (op i) (mp i) (fi i) (lk i)) {a : Nat} (ha : a < 6) {td : Nat → Int32} {tl : Nat} (ht : TAB (16 + 25 * a + 13) h td tl) (x : Int32) (hx : x.toInt = 8) : pz_K l L xs M_K_countOf 2 0 0 [.ref 0, .int (nI a), .int x] h z (fun v h' z' => v = some (.int (nI tl)) ∧ h = h' ∧ z = z') := by
  refine pz_K.of rfl (Nat.le_of_ble_eq_true rfl) ?_
  have hA := hap a ha
  change pz_E l L xs M_K_countOf 2 0 0 0 [some (.ref 0), some (.int (nI a)), some (.int x)] [] h z _
  refine pe_iload_n d_K_countOf_0 rfl ?_
  by_cases sw_1i : (x : Int32).toInt < 3 ∨ 8 < (x : Int32).toInt
  · exfalso; omega
  have sw_1r : (x : Int32).toInt = 3 ∨ (x : Int32).toInt = 4 ∨ (x : Int32).toInt = 5 ∨ (x : Int32).toInt = 6 ∨ (x : Int32).toInt = 7 ∨ (x : Int32).toInt = 8 := by omega
  rcases sw_1r with sw_1 | sw_1 | sw_1 | sw_1 | sw_1 | sw_1
  · exfalso; omega
  · exfalso; omega
  · exfalso; omega
  · exfalso; omega
  · exfalso; omega
  · refine pe_tableIn (tgt := 91) d_K_countOf_1 (by omega) (by omega) (by rw [sw_1]; rfl) (by decide) ?_
    refine pe_aload_n d_K_countOf_91 rfl ?_
    refine pe_getf d_K_countOf_92 f_K_49 hK.1 rfl ?_
    refine pe_iload_n d_K_countOf_95 rfl ?_
    refine pe_aaldN d_K_countOf_96 rfl hK.2 (by omega) (by omega) rfl ?_
    refine pe_getf d_K_countOf_97 f_K_230 hA rfl ?_
    refine pe_getf d_K_countOf_100 f_K_286 ht.1 rfl ?_
    refine pe_iret d_K_countOf_103 rfl ?_
    exact ⟨rfl, rfl, rfl⟩
set_option maxHeartbeats 4000000 in
set_option maxRecDepth 20000 in
theorem c_K_count_8 {l : Launch} {L : Nat} {xs : Nat → Int32} {h : pz_H} {z : Nat} {lost : Nat} (hK : KOB h lost) {dr fl : Nat → Nat} {op mp : Nat → Bool} {fi lk : Nat → Nat} (hap : ∀ i, i < 6 → AOB (16 + 25 * i) h (dr i) (fl i) (op i) (mp i) (fi i) (lk i)) {a : Nat} (ha : a < 6) {td : Nat → Int32} {tl : Nat} (ht : TAB (16 + 25 * a + 13) h td tl) (x : Int32) (hx : x.toInt = 8) : pz_K l L xs M_K_count 3 0 0 [.ref 0, .int x, .int (nI a)] h z (fun v h' z' => v = some (.int (nI tl)) ∧ h = h' ∧ z = z') := by
  refine pz_K.of rfl (Nat.le_of_ble_eq_true rfl) ?_
  change pz_E l L xs M_K_count 3 0 0 0 [some (.ref 0), some (.int x), some (.int (nI a))] [] h z _
  refine pe_iload_n d_K_count_0 rfl ?_
  by_cases sw_1i : (x : Int32).toInt < 0 ∨ 2 < (x : Int32).toInt
  · refine pe_tableOut (tgt := 51) d_K_count_1 sw_1i (by decide) ?_
    refine pe_iload_n d_K_count_51 rfl ?_
    -- 52: K_isApp
    refine pe_callS d_K_count_52 m_K_54 s_K_isApp (c_K_isApp _) rfl rfl (by simp [Value.category]) (by decide) ?_
    intro v1 h1 z1 hq1
    obtain ⟨rfl, rfl, rfl⟩ := hq1
    change pz_E _ _ _ _ _ _ _ _ _ (_ :: _) _ _ _
    refine pe_if_eq (tgt := 67) d_K_count_55 (by decide) (fun c_55 => ?_) (fun c_55 => ?_)
    · have c_55 := pb_0.mp c_55
      exact absurd (c_55.symm.trans (rng_y (by decide) (Nat.zero_le _) (by omega))) (by decide)
    · have c_55 := pb_n0.mp c_55
      refine pe_aload_n d_K_count_58 rfl ?_
      refine pe_iload_n d_K_count_59 rfl ?_
      refine pe_iload_n d_K_count_60 rfl ?_
      -- 61: K_countOf
      refine pe_callV d_K_count_61 m_K_278 j_K_countOf v_K_countOf (c_K_countOf_8 hK hap  ha ht _ hx) rfl rfl (by simp [Value.category]) (by decide) hK.1 rfl rfl ?_
      intro v1 h1 z1 hq1
      obtain ⟨rfl, rfl, rfl⟩ := hq1
      change pz_E _ _ _ _ _ _ _ _ _ (_ :: _) _ _ _
      refine pe_goto (tgt := 68) d_K_count_64 (by decide) ?_
      refine pe_iret d_K_count_68 rfl ?_
      exact ⟨rfl, rfl, rfl⟩
  have sw_1r : (x : Int32).toInt = 0 ∨ (x : Int32).toInt = 1 ∨ (x : Int32).toInt = 2 := by omega
  rcases sw_1r with sw_1 | sw_1 | sw_1
  · exfalso; omega
  · exfalso; omega
  · exfalso; omega
set_option maxHeartbeats 4000000 in
set_option maxRecDepth 20000 in
theorem c_K_countOf_x {l : Launch} {L : Nat} {xs : Nat → Int32} {h : pz_H} {z : Nat} {lost : Nat} (hK : KOB h lost) {dr fl : Nat → Nat} {op mp : Nat → Bool} {fi lk : Nat → Nat} (hap : ∀ i, i < 6 → AOB (16 + 25 * i) h (dr i) (fl i) (op i) (mp i) (fi i) (lk i)) {a : Nat} (ha : a < 6) (x : Int32) (hx : x.toInt < 0 ∨ 8 < x.toInt) : pz_K l L xs M_K_countOf 2 0 0 [.ref 0, .int (nI a), .int x] h z (fun v h' z' => v = some (.int (-1)) ∧ h = h' ∧ z = z') := by
  refine pz_K.of rfl (Nat.le_of_ble_eq_true rfl) ?_
  change pz_E l L xs M_K_countOf 2 0 0 0 [some (.ref 0), some (.int (nI a)), some (.int x)] [] h z _
  refine pe_iload_n d_K_countOf_0 rfl ?_
  by_cases sw_1i : (x : Int32).toInt < 3 ∨ 8 < (x : Int32).toInt
  · refine pe_tableOut (tgt := 104) d_K_countOf_1 sw_1i (by decide) ?_
    refine pe_iconst (v := -1) d_K_countOf_104 (by decide) ?_
    refine pe_iret d_K_countOf_105 rfl ?_
    exact ⟨rfl, rfl, rfl⟩
  have sw_1r : (x : Int32).toInt = 3 ∨ (x : Int32).toInt = 4 ∨ (x : Int32).toInt = 5 ∨ (x : Int32).toInt = 6 ∨ (x : Int32).toInt = 7 ∨ (x : Int32).toInt = 8 := by omega
  rcases sw_1r with sw_1 | sw_1 | sw_1 | sw_1 | sw_1 | sw_1
  · exfalso; omega
  · exfalso; omega
  · exfalso; omega
  · exfalso; omega
  · exfalso; omega
  · exfalso; omega
set_option maxHeartbeats 4000000 in
set_option maxRecDepth 20000 in
theorem c_K_count_x {l : Launch} {L : Nat} {xs : Nat → Int32} {h : pz_H} {z : Nat} {lost : Nat} (hK : KOB h lost) {dr fl : Nat → Nat} {op mp : Nat → Bool} {fi lk : Nat → Nat} (hap : ∀ i, i < 6 → AOB (16 + 25 * i) h (dr i) (fl i) (op i) (mp i) (fi i) (lk i)) {a : Nat} (ha : a < 6) (x : Int32) (hx : x.toInt < 0 ∨ 8 < x.toInt) : pz_K l L xs M_K_count 3 0 0 [.ref 0, .int x, .int (nI a)] h z (fun v h' z' => v = some (.int (-1)) ∧ h = h' ∧ z = z') := by
  refine pz_K.of rfl (Nat.le_of_ble_eq_true rfl) ?_
  change pz_E l L xs M_K_count 3 0 0 0 [some (.ref 0), some (.int x), some (.int (nI a))] [] h z _
  refine pe_iload_n d_K_count_0 rfl ?_
  by_cases sw_1i : (x : Int32).toInt < 0 ∨ 2 < (x : Int32).toInt
  · refine pe_tableOut (tgt := 51) d_K_count_1 sw_1i (by decide) ?_
    refine pe_iload_n d_K_count_51 rfl ?_
    -- 52: K_isApp
    refine pe_callS d_K_count_52 m_K_54 s_K_isApp (c_K_isApp _) rfl rfl (by simp [Value.category]) (by decide) ?_
    intro v1 h1 z1 hq1
    obtain ⟨rfl, rfl, rfl⟩ := hq1
    change pz_E _ _ _ _ _ _ _ _ _ (_ :: _) _ _ _
    refine pe_if_eq (tgt := 67) d_K_count_55 (by decide) (fun c_55 => ?_) (fun c_55 => ?_)
    · have c_55 := pb_0.mp c_55
      exact absurd (c_55.symm.trans (rng_y (by decide) (Nat.zero_le _) (by omega))) (by decide)
    · have c_55 := pb_n0.mp c_55
      refine pe_aload_n d_K_count_58 rfl ?_
      refine pe_iload_n d_K_count_59 rfl ?_
      refine pe_iload_n d_K_count_60 rfl ?_
      -- 61: K_countOf
      refine pe_callV d_K_count_61 m_K_278 j_K_countOf v_K_countOf (c_K_countOf_x hK hap  ha  _ hx) rfl rfl (by simp [Value.category]) (by decide) hK.1 rfl rfl ?_
      intro v1 h1 z1 hq1
      obtain ⟨rfl, rfl, rfl⟩ := hq1
      change pz_E _ _ _ _ _ _ _ _ _ (_ :: _) _ _ _
      refine pe_goto (tgt := 68) d_K_count_64 (by decide) ?_
      refine pe_iret d_K_count_68 rfl ?_
      exact ⟨rfl, rfl, rfl⟩
  have sw_1r : (x : Int32).toInt = 0 ∨ (x : Int32).toInt = 1 ∨ (x : Int32).toInt = 2 := by omega
  rcases sw_1r with sw_1 | sw_1 | sw_1
  · exfalso; omega
  · exfalso; omega
  · exfalso; omega
set_option maxHeartbeats 4000000 in
set_option maxRecDepth 20000 in
theorem c_K_op_no {l : Launch} {L : Nat} {xs : Nat → Int32} {h : pz_H} {z : Nat} {lost : Nat} (hK : KOB h lost) {dr fl : Nat → Nat} {op mp : Nat → Bool} {fi lk : Nat → Nat} (hap : ∀ i, i < 6 → AOB (16 + 25 * i) h (dr i) (fl i) (op i) (mp i) (fi i) (lk i)) (x c k y n : Int32) (hno : (opn op x && insOk c k y n) = false) : pz_K l L xs M_K_op 3 0 0 [.ref 0, .int x, .int c, .int k, .int y, .int n] h z (fun v h' z' => v = some (.int (-1)) ∧ h = h' ∧ z = z') := by
  refine pz_K.of rfl (Nat.le_of_ble_eq_true rfl) ?_
  change pz_E l L xs M_K_op 3 0 0 0 [some (.ref 0), some (.int x), some (.int c), some (.int k), some (.int y), some (.int n), none] [] h z _
  refine pe_aload_n d_K_op_0 rfl ?_
  refine pe_iload_n d_K_op_1 rfl ?_
  -- 2: K_isOpen
  refine pe_callV d_K_op_2 m_K_84 j_K_isOpen v_K_isOpen (c_K_isOpen hK hap _) rfl rfl (by simp [Value.category]) (by decide) hK.1 rfl rfl ?_
  intro v1 h1 z1 hq1
  obtain ⟨rfl, rfl, rfl⟩ := hq1
  change pz_E _ _ _ _ _ _ _ _ _ (_ :: _) _ _ _
  refine pe_if_eq (tgt := 20) d_K_op_5 (by decide) (fun c_5 => ?_) (fun c_5 => ?_)
  · have c_5 := pb_0.mp c_5
    refine pe_iconst (v := -1) d_K_op_20 (by decide) ?_
    refine pe_iret d_K_op_21 rfl ?_
    exact ⟨rfl, rfl, rfl⟩
  · have c_5 := pb_n0.mp c_5
    refine pe_iload_n d_K_op_8 rfl ?_
    refine pe_iload_n d_K_op_9 rfl ?_
    refine pe_iload d_K_op_10 rfl ?_
    refine pe_iload d_K_op_12 rfl ?_
    -- 14: Program_isInstruction
    refine pe_callS d_K_op_14 m_K_156 s_Program_isInstruction (c_Program_isInstruction _ _ _ _) rfl rfl (by simp [Value.category]) (by decide) ?_
    intro v1 h1 z1 hq1
    obtain ⟨rfl, rfl, rfl⟩ := hq1
    change pz_E _ _ _ _ _ _ _ _ _ (_ :: _) _ _ _
    refine pe_if_ne (tgt := 22) d_K_op_17 (by decide) (fun c_17 => ?_) (fun c_17 => ?_)
    · have c_17 := pb_n0.mp c_17
      exfalso; simp_all
    · have c_17 := pb_0.mp c_17
      refine pe_iconst (v := -1) d_K_op_20 (by decide) ?_
      refine pe_iret d_K_op_21 rfl ?_
      exact ⟨rfl, rfl, rfl⟩
set_option maxHeartbeats 4000000 in
set_option maxRecDepth 20000 in
theorem c_K_op_full {l : Launch} {L : Nat} {xs : Nat → Int32} {h : pz_H} {z : Nat} {lost : Nat} (hK : KOB h lost) {dr fl : Nat → Nat} {op mp : Nat → Bool} {fi lk : Nat → Nat} (hap : ∀ i, i < 6 → AOB (16 + 25 * i) h (dr i) (fl i) (op i) (mp i) (fi i) (lk i)) {a : Nat} (ha : a < 6) {c1 o1 y1 n1 : Nat → Int32} {l1 : Nat} (hp1 : PRG (dr a) h c1 o1 y1 n1 l1) (c k y n : Int32) (hyes : opn op (nI a) = true) (hins : insOk c k y n = true) (hfull : l1 = 16) : pz_K l L xs M_K_op 3 0 0 [.ref 0, .int (nI a), .int c, .int k, .int y, .int n] h z (fun v h' z' => v = some (.int (-2)) ∧ h = h' ∧ z = z') := by
  refine pz_K.of rfl (Nat.le_of_ble_eq_true rfl) ?_
  have hA := hap a ha
  change pz_E l L xs M_K_op 3 0 0 0 [some (.ref 0), some (.int (nI a)), some (.int c), some (.int k), some (.int y), some (.int n), none] [] h z _
  refine pe_aload_n d_K_op_0 rfl ?_
  refine pe_iload_n d_K_op_1 rfl ?_
  -- 2: K_isOpen
  refine pe_callV d_K_op_2 m_K_84 j_K_isOpen v_K_isOpen (c_K_isOpen hK hap _) rfl rfl (by simp [Value.category]) (by decide) hK.1 rfl rfl ?_
  intro v1 h1 z1 hq1
  obtain ⟨rfl, rfl, rfl⟩ := hq1
  change pz_E _ _ _ _ _ _ _ _ _ (_ :: _) _ _ _
  refine pe_if_eq (tgt := 20) d_K_op_5 (by decide) (fun c_5 => ?_) (fun c_5 => ?_)
  · have c_5 := pb_0.mp c_5
    exact absurd (c_5.symm.trans hyes) (by decide)
  · have c_5 := pb_n0.mp c_5
    refine pe_iload_n d_K_op_8 rfl ?_
    refine pe_iload_n d_K_op_9 rfl ?_
    refine pe_iload d_K_op_10 rfl ?_
    refine pe_iload d_K_op_12 rfl ?_
    -- 14: Program_isInstruction
    refine pe_callS d_K_op_14 m_K_156 s_Program_isInstruction (c_Program_isInstruction _ _ _ _) rfl rfl (by simp [Value.category]) (by decide) ?_
    intro v1 h1 z1 hq1
    obtain ⟨rfl, rfl, rfl⟩ := hq1
    change pz_E _ _ _ _ _ _ _ _ _ (_ :: _) _ _ _
    refine pe_if_ne (tgt := 22) d_K_op_17 (by decide) (fun c_17 => ?_) (fun c_17 => ?_)
    · have c_17 := pb_n0.mp c_17
      refine pe_aload_n d_K_op_22 rfl ?_
      refine pe_getf d_K_op_23 f_K_49 hK.1 rfl ?_
      refine pe_iload_n d_K_op_26 rfl ?_
      refine pe_aaldN d_K_op_27 rfl hK.2 (by omega) (by omega) rfl ?_
      refine pe_getf d_K_op_28 f_K_161 hA rfl ?_
      refine pe_astore d_K_op_31 (by decide) rfl ?_
      dsimp only [List.set]
      refine pe_aload d_K_op_33 rfl ?_
      -- 35: Program_isFull
      refine pe_callV d_K_op_35 m_K_165 j_Program_isFull v_Program_isFull (c_Program_isFull hp1) rfl rfl (by simp [Value.category]) (by decide) hp1.1 rfl rfl ?_
      intro v1 h1 z1 hq1
      obtain ⟨rfl, rfl, rfl⟩ := hq1
      change pz_E _ _ _ _ _ _ _ _ _ (_ :: _) _ _ _
      refine pe_if_eq (tgt := 44) d_K_op_38 (by decide) (fun c_38 => ?_) (fun c_38 => ?_)
      · have c_38 := pb_0.mp c_38
        exact absurd hfull (of_decide_eq_false c_38)
      · have c_38 := pb_n0.mp c_38
        refine pe_bipush (v := -2) d_K_op_41 (by decide) ?_
        refine pe_iret d_K_op_43 rfl ?_
        exact ⟨rfl, rfl, rfl⟩
    · have c_17 := pb_0.mp c_17
      exact absurd (c_17.symm.trans hins) (by decide)
set_option maxHeartbeats 4000000 in
set_option maxRecDepth 20000 in
theorem c_K_op_t {l : Launch} {L : Nat} {xs : Nat → Int32} {h : pz_H} {z : Nat} {lost : Nat} (hK : KOB h lost) {dr fl : Nat → Nat} {op mp : Nat → Bool} {fi lk : Nat → Nat} (hap : ∀ i, i < 6 → AOB (16 + 25 * i) h (dr i) (fl i) (op i) (mp i) (fi i) (lk i)) {a : Nat} (ha : a < 6) {c1 o1 y1 n1 : Nat → Int32} {l1 : Nat} (hp1 : PRG (dr a) h c1 o1 y1 n1 l1) (c k y n : Int32) (hyes : opn op (nI a) = true) (hins : insOk c k y n = true) (hlt : l1 < 16) (ht : tst c = true) : pz_K l L xs M_K_op 3 0 0 [.ref 0, .int (nI a), .int c, .int k, .int y, .int n] h z (fun v h' z' => v = some (.int (nI (l1 + 1 - 1))) ∧ z = z' ∧ PRG (dr a) h' (upd c1 l1 c) (upd o1 l1 k) (upd y1 l1 y) (upd n1 l1 n) (l1 + 1) ∧ frm (dr a) (dr a + 5) h h') := by
  refine pz_K.of rfl (Nat.le_of_ble_eq_true rfl) ?_
  have hA := hap a ha
  change pz_E l L xs M_K_op 3 0 0 0 [some (.ref 0), some (.int (nI a)), some (.int c), some (.int k), some (.int y), some (.int n), none] [] h z _
  refine pe_aload_n d_K_op_0 rfl ?_
  refine pe_iload_n d_K_op_1 rfl ?_
  -- 2: K_isOpen
  refine pe_callV d_K_op_2 m_K_84 j_K_isOpen v_K_isOpen (c_K_isOpen hK hap _) rfl rfl (by simp [Value.category]) (by decide) hK.1 rfl rfl ?_
  intro v1 h1 z1 hq1
  obtain ⟨rfl, rfl, rfl⟩ := hq1
  change pz_E _ _ _ _ _ _ _ _ _ (_ :: _) _ _ _
  refine pe_if_eq (tgt := 20) d_K_op_5 (by decide) (fun c_5 => ?_) (fun c_5 => ?_)
  · have c_5 := pb_0.mp c_5
    exact absurd (c_5.symm.trans hyes) (by decide)
  · have c_5 := pb_n0.mp c_5
    refine pe_iload_n d_K_op_8 rfl ?_
    refine pe_iload_n d_K_op_9 rfl ?_
    refine pe_iload d_K_op_10 rfl ?_
    refine pe_iload d_K_op_12 rfl ?_
    -- 14: Program_isInstruction
    refine pe_callS d_K_op_14 m_K_156 s_Program_isInstruction (c_Program_isInstruction _ _ _ _) rfl rfl (by simp [Value.category]) (by decide) ?_
    intro v1 h1 z1 hq1
    obtain ⟨rfl, rfl, rfl⟩ := hq1
    change pz_E _ _ _ _ _ _ _ _ _ (_ :: _) _ _ _
    refine pe_if_ne (tgt := 22) d_K_op_17 (by decide) (fun c_17 => ?_) (fun c_17 => ?_)
    · have c_17 := pb_n0.mp c_17
      refine pe_aload_n d_K_op_22 rfl ?_
      refine pe_getf d_K_op_23 f_K_49 hK.1 rfl ?_
      refine pe_iload_n d_K_op_26 rfl ?_
      refine pe_aaldN d_K_op_27 rfl hK.2 (by omega) (by omega) rfl ?_
      refine pe_getf d_K_op_28 f_K_161 hA rfl ?_
      refine pe_astore d_K_op_31 (by decide) rfl ?_
      dsimp only [List.set]
      refine pe_aload d_K_op_33 rfl ?_
      -- 35: Program_isFull
      refine pe_callV d_K_op_35 m_K_165 j_Program_isFull v_Program_isFull (c_Program_isFull hp1) rfl rfl (by simp [Value.category]) (by decide) hp1.1 rfl rfl ?_
      intro v1 h1 z1 hq1
      obtain ⟨rfl, rfl, rfl⟩ := hq1
      change pz_E _ _ _ _ _ _ _ _ _ (_ :: _) _ _ _
      refine pe_if_eq (tgt := 44) d_K_op_38 (by decide) (fun c_38 => ?_) (fun c_38 => ?_)
      · have c_38 := pb_0.mp c_38
        refine pe_aload d_K_op_44 rfl ?_
        refine pe_iload_n d_K_op_46 rfl ?_
        refine pe_iload_n d_K_op_47 rfl ?_
        refine pe_iload d_K_op_48 rfl ?_
        refine pe_iload d_K_op_50 rfl ?_
        -- 52: Program_append
        refine pe_callV d_K_op_52 m_K_169 j_Program_append v_Program_append (c_Program_append_t hp1 _ _ _ _ hlt ht) rfl rfl (by simp [Value.category]) (by decide) hp1.1 rfl rfl ?_
        intro v1 h1 z1 hq1
        obtain ⟨rfl, rfl, hp1, hf1⟩ := hq1
        change pz_E _ _ _ _ _ _ _ _ _ _ _ _ _
        refine pe_aload d_K_op_55 rfl ?_
        refine pe_getf d_K_op_57 f_K_171 hp1.1 rfl ?_
        refine pe_iconst (v := nI 1) d_K_op_60 (by decide) ?_
        refine pe_isubN d_K_op_61 (by omega) ?_
        refine pe_iret d_K_op_62 rfl ?_
        exact ⟨rfl, rfl, hp1, hf1⟩
      · have c_38 := pb_n0.mp c_38
        exact absurd (of_decide_eq_true c_38) (by omega)
    · have c_17 := pb_0.mp c_17
      exact absurd (c_17.symm.trans hins) (by decide)
set_option maxHeartbeats 4000000 in
set_option maxRecDepth 20000 in
theorem c_K_op_f {l : Launch} {L : Nat} {xs : Nat → Int32} {h : pz_H} {z : Nat} {lost : Nat} (hK : KOB h lost) {dr fl : Nat → Nat} {op mp : Nat → Bool} {fi lk : Nat → Nat} (hap : ∀ i, i < 6 → AOB (16 + 25 * i) h (dr i) (fl i) (op i) (mp i) (fi i) (lk i)) {a : Nat} (ha : a < 6) {c1 o1 y1 n1 : Nat → Int32} {l1 : Nat} (hp1 : PRG (dr a) h c1 o1 y1 n1 l1) (c k y n : Int32) (hyes : opn op (nI a) = true) (hins : insOk c k y n = true) (hlt : l1 < 16) (ht : tst c = false) : pz_K l L xs M_K_op 3 0 0 [.ref 0, .int (nI a), .int c, .int k, .int y, .int n] h z (fun v h' z' => v = some (.int (nI (l1 + 1 - 1))) ∧ z = z' ∧ PRG (dr a) h' (upd c1 l1 c) (upd o1 l1 k) (upd y1 l1 (nI 0)) (upd n1 l1 (nI 0)) (l1 + 1) ∧ frm (dr a) (dr a + 5) h h') := by
  refine pz_K.of rfl (Nat.le_of_ble_eq_true rfl) ?_
  have hA := hap a ha
  change pz_E l L xs M_K_op 3 0 0 0 [some (.ref 0), some (.int (nI a)), some (.int c), some (.int k), some (.int y), some (.int n), none] [] h z _
  refine pe_aload_n d_K_op_0 rfl ?_
  refine pe_iload_n d_K_op_1 rfl ?_
  -- 2: K_isOpen
  refine pe_callV d_K_op_2 m_K_84 j_K_isOpen v_K_isOpen (c_K_isOpen hK hap _) rfl rfl (by simp [Value.category]) (by decide) hK.1 rfl rfl ?_
  intro v1 h1 z1 hq1
  obtain ⟨rfl, rfl, rfl⟩ := hq1
  change pz_E _ _ _ _ _ _ _ _ _ (_ :: _) _ _ _
  refine pe_if_eq (tgt := 20) d_K_op_5 (by decide) (fun c_5 => ?_) (fun c_5 => ?_)
  · have c_5 := pb_0.mp c_5
    exact absurd (c_5.symm.trans hyes) (by decide)
  · have c_5 := pb_n0.mp c_5
    refine pe_iload_n d_K_op_8 rfl ?_
    refine pe_iload_n d_K_op_9 rfl ?_
    refine pe_iload d_K_op_10 rfl ?_
    refine pe_iload d_K_op_12 rfl ?_
    -- 14: Program_isInstruction
    refine pe_callS d_K_op_14 m_K_156 s_Program_isInstruction (c_Program_isInstruction _ _ _ _) rfl rfl (by simp [Value.category]) (by decide) ?_
    intro v1 h1 z1 hq1
    obtain ⟨rfl, rfl, rfl⟩ := hq1
    change pz_E _ _ _ _ _ _ _ _ _ (_ :: _) _ _ _
    refine pe_if_ne (tgt := 22) d_K_op_17 (by decide) (fun c_17 => ?_) (fun c_17 => ?_)
    · have c_17 := pb_n0.mp c_17
      refine pe_aload_n d_K_op_22 rfl ?_
      refine pe_getf d_K_op_23 f_K_49 hK.1 rfl ?_
      refine pe_iload_n d_K_op_26 rfl ?_
      refine pe_aaldN d_K_op_27 rfl hK.2 (by omega) (by omega) rfl ?_
      refine pe_getf d_K_op_28 f_K_161 hA rfl ?_
      refine pe_astore d_K_op_31 (by decide) rfl ?_
      dsimp only [List.set]
      refine pe_aload d_K_op_33 rfl ?_
      -- 35: Program_isFull
      refine pe_callV d_K_op_35 m_K_165 j_Program_isFull v_Program_isFull (c_Program_isFull hp1) rfl rfl (by simp [Value.category]) (by decide) hp1.1 rfl rfl ?_
      intro v1 h1 z1 hq1
      obtain ⟨rfl, rfl, rfl⟩ := hq1
      change pz_E _ _ _ _ _ _ _ _ _ (_ :: _) _ _ _
      refine pe_if_eq (tgt := 44) d_K_op_38 (by decide) (fun c_38 => ?_) (fun c_38 => ?_)
      · have c_38 := pb_0.mp c_38
        refine pe_aload d_K_op_44 rfl ?_
        refine pe_iload_n d_K_op_46 rfl ?_
        refine pe_iload_n d_K_op_47 rfl ?_
        refine pe_iload d_K_op_48 rfl ?_
        refine pe_iload d_K_op_50 rfl ?_
        -- 52: Program_append
        refine pe_callV d_K_op_52 m_K_169 j_Program_append v_Program_append (c_Program_append_f hp1 _ _ _ _ hlt ht) rfl rfl (by simp [Value.category]) (by decide) hp1.1 rfl rfl ?_
        intro v1 h1 z1 hq1
        obtain ⟨rfl, rfl, hp1, hf1⟩ := hq1
        change pz_E _ _ _ _ _ _ _ _ _ _ _ _ _
        refine pe_aload d_K_op_55 rfl ?_
        refine pe_getf d_K_op_57 f_K_171 hp1.1 rfl ?_
        refine pe_iconst (v := nI 1) d_K_op_60 (by decide) ?_
        refine pe_isubN d_K_op_61 (by omega) ?_
        refine pe_iret d_K_op_62 rfl ?_
        exact ⟨rfl, rfl, hp1, hf1⟩
      · have c_38 := pb_n0.mp c_38
        exact absurd (of_decide_eq_true c_38) (by omega)
    · have c_17 := pb_0.mp c_17
      exact absurd (c_17.symm.trans hins) (by decide)
