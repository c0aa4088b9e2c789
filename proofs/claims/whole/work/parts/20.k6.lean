/-! the kernel: contracts of BindingKernel, sixth part: arrive -/
/-- does the program accept the frame -/
def acA (gc go : Nat → Int32) (yy nn : Nat → Nat) (gl : Nat) (fb : Nat → Int32) (fl : Nat) : Bool := acc gc go yy nn gl fb fl (16 - 0) 0 (nI 0) (nI 0)
/-- the first of the places i, i + 1, .. below ol whose P holds: what stands there -/
def fac (P : Nat → Bool) (ao : Nat → Nat) (ol i : Nat) : Option Nat := if ff P (ol - i) i < ol then some (ao (ff P (ol - i) i)) else none
set_option maxHeartbeats 4000000 in
set_option maxRecDepth 20000 in
theorem c_K_firstAccepting {l : Launch} {L : Nat} {xs : Nat → Int32} {h : pz_H} {z : Nat} {lost : Nat} (hK : KOB h lost) {dr fl : Nat → Nat} {op mp : Nat → Bool} {fi lk : Nat → Nat} (hap : ∀ i, i < 6 → AOB (16 + 25 * i) h (dr i) (fl i) (op i) (mp i) (fi i) (lk i)) {os : Nat → Int32} {ol : Nat} (ho : ORD h os ol) {fb : Nat → Int32} {fl13 : Nat} (hr : FRA 13 h fb fl13) {c2 o2 y2 n2 : Nat → Nat → Int32} {l2 : Nat → Nat} (hpf : ∀ i, i < 6 → PRG (fl i) h (c2 i) (o2 i) (y2 i) (n2 i) (l2 i)) {yy nn : Nat → Nat → Nat} (hyy : ∀ i, i < 6 → ∀ j, j < l2 i → y2 i j = nI (yy i j) ∧ yy i j ≤ 15) (hnn : ∀ i, i < 6 → ∀ j, j < l2 i → n2 i j = nI (nn i j) ∧ nn i j ≤ 15) {ao : Nat → Nat} (hao : ∀ j, j < ol → os j = nI (ao j) ∧ ao j < 6) : pz_K l L xs M_K_firstAccepting 2 0 0 [.ref 0] h z (fun v h' z' => v = some (.int (omi (fac (fun j => acA (c2 (ao j)) (o2 (ao j)) (yy (ao j)) (nn (ao j)) (l2 (ao j)) fb fl13) ao ol 0))) ∧ h = h' ∧ z = z') := by
  refine pz_K.of rfl (Nat.le_of_ble_eq_true rfl) ?_
  have loop : ∀ (n : Nat) (i : Nat), i ≤ ol → ol + 1 ≤ i + n → pz_E l L xs M_K_firstAccepting 2 0 0 2 [some (.ref 0), some (.int (nI i)), none] [] h z (fun v h' z' => v = some (.int (omi (fac (fun j => acA (c2 (ao j)) (o2 (ao j)) (yy (ao j)) (nn (ao j)) (l2 (ao j)) fb fl13) ao ol i))) ∧ h = h' ∧ z = z') := by
    intro n
    induction n with
    | zero => intros; omega
    | succ n ih =>
      intro i hi hin
      have hol := ho.2.2
      refine pe_iload_n d_K_firstAccepting_2 rfl ?_
      refine pe_aload_n d_K_firstAccepting_3 rfl ?_
      refine pe_getf d_K_firstAccepting_4 f_K_32 hK.1 rfl ?_
      refine pe_getf d_K_firstAccepting_7 f_K_296 ho.1 rfl ?_
      refine pe_icmpN_ge (tgt := 49) d_K_firstAccepting_10 (by decide) (by omega) (by omega) (fun c_10 => ?_) (fun c_10 => ?_)
      · refine pe_iconst (v := -1) d_K_firstAccepting_49 (by decide) ?_
        refine pe_iret d_K_firstAccepting_50 rfl ?_
        exact ⟨by unfold fac; rw [ff_end (P := (fun j => acA (c2 (ao j)) (o2 (ao j)) (yy (ao j)) (nn (ao j)) (l2 (ao j)) fb fl13)) (by omega), if_neg (by omega)]; rfl, rfl, rfl⟩
      · have c_10 : i < ol := by omega
        have hol := ho.2.2
        have hai := hao i c_10
        have hA := hap _ hai.2
        have hP := hpf _ hai.2
        refine pe_aload_n d_K_firstAccepting_13 rfl ?_
        refine pe_getf d_K_firstAccepting_14 f_K_32 hK.1 rfl ?_
        refine pe_iload_n d_K_firstAccepting_17 rfl ?_
        -- 18: FilterOrder_appAt
        refine pe_callV d_K_firstAccepting_18 m_K_297 j_FilterOrder_appAt v_FilterOrder_appAt (c_FilterOrder_appAt ho (by omega)) rfl rfl (by simp [Value.category]) (by decide) ho.1 rfl rfl ?_
        intro v1 h1 z1 hq1
        obtain ⟨rfl, rfl, rfl⟩ := hq1
        rw [hai.1]
        change pz_E _ _ _ _ _ _ _ _ _ (_ :: _) _ _ _
        refine pe_istore_n d_K_firstAccepting_21 (by decide) rfl ?_
        dsimp only [List.set]
        refine pe_aload_n d_K_firstAccepting_22 rfl ?_
        refine pe_getf d_K_firstAccepting_23 f_K_49 hK.1 rfl ?_
        refine pe_iload_n d_K_firstAccepting_26 rfl ?_
        refine pe_aaldN d_K_firstAccepting_27 rfl hK.2 (by omega) (by omega) rfl ?_
        refine pe_getf d_K_firstAccepting_28 f_K_300 hA rfl ?_
        refine pe_aload_n d_K_firstAccepting_31 rfl ?_
        refine pe_getf d_K_firstAccepting_32 f_K_39 hK.1 rfl ?_
        -- 35: Program_accepts
        refine pe_callV d_K_firstAccepting_35 m_K_303 j_Program_accepts v_Program_accepts (c_Program_accepts hP hr (hyy _ hai.2) (hnn _ hai.2)) rfl rfl (by simp [Value.category]) (by decide) hP.1 rfl rfl ?_
        intro v1 h1 z1 hq1
        obtain ⟨rfl, rfl, rfl⟩ := hq1
        change pz_E _ _ _ _ _ _ _ _ _ (_ :: _) _ _ _
        refine pe_if_eq (tgt := 43) d_K_firstAccepting_38 (by decide) (fun c_38 => ?_) (fun c_38 => ?_)
        · have c_38 := pb_0.mp c_38
          refine pe_iincN d_K_firstAccepting_43 rfl (by decide) rfl ?_
          dsimp only [List.set]
          refine pe_goto (tgt := 2) d_K_firstAccepting_46 (by decide) ?_
          have e := ih (i + 1) (by omega) (by omega)
          have e2 : fac (fun j => acA (c2 (ao j)) (o2 (ao j)) (yy (ao j)) (nn (ao j)) (l2 (ao j)) fb fl13) ao ol i = fac (fun j => acA (c2 (ao j)) (o2 (ao j)) (yy (ao j)) (nn (ao j)) (l2 (ao j)) fb fl13) ao ol (i + 1) := by unfold fac; rw [ff_no (P := (fun j => acA (c2 (ao j)) (o2 (ao j)) (yy (ao j)) (nn (ao j)) (l2 (ao j)) fb fl13)) c_10 (fun q9 => absurd (q9.symm.trans c_38) (by decide))]
          rw [e2]
          exact pe_ls (ls' := [some (.ref 0), some (.int (nI (i + 1))), none]) (fun j v hj => by match j, hj with | 0, hj => exact hj | 1, hj => exact hj | 2, hj => cases hj | j + 3, hj => cases hj) e
        · have c_38 := pb_n0.mp c_38
          refine pe_iload_n d_K_firstAccepting_41 rfl ?_
          refine pe_iret d_K_firstAccepting_42 rfl ?_
          exact ⟨by unfold fac; rw [ff_yes (P := (fun j => acA (c2 (ao j)) (o2 (ao j)) (yy (ao j)) (nn (ao j)) (l2 (ao j)) fb fl13)) c_10 c_38, if_pos c_10]; rfl, rfl, rfl⟩
  change pz_E l L xs M_K_firstAccepting 2 0 0 0 [some (.ref 0), none, none] [] h z _
  refine pe_iconst (v := nI 0) d_K_firstAccepting_0 (by decide) ?_
  refine pe_istore_n d_K_firstAccepting_1 (by decide) rfl ?_
  dsimp only [List.set]
  have hol := ho.2.2
  exact loop (ol + 1) 0 (by omega) (by omega)
set_option maxHeartbeats 4000000 in
set_option maxRecDepth 20000 in
theorem c_K_deliver_full {l : Launch} {L : Nat} {xs : Nat → Int32} {h : pz_H} {z : Nat} {lost : Nat} (hK : KOB h lost) {dr fl : Nat → Nat} {op mp : Nat → Bool} {fi lk : Nat → Nat} (hap : ∀ i, i < 6 → AOB (16 + 25 * i) h (dr i) (fl i) (op i) (mp i) (fi i) (lk i)) {a : Nat} (ha : a < 6) {qb : Nat → Nat → Int32} {qn : Nat → Nat} {qf ql : Nat} (hq : QUE (16 + 25 * a + 3) h qb qn qf ql) (h4 : ql = 4) : pz_K l L xs M_K_deliver 3 0 0 [.ref 0, .int (nI a)] h z (fun v h' z' => v = some (.int (-6)) ∧ z = z' ∧ KOB h' (lost + 1) ∧ frm 0 1 h h') := by
  refine pz_K.of rfl (Nat.le_of_ble_eq_true rfl) ?_
  have hA := hap a ha
  have hf : frm 0 1 h h := frm.rf
  change pz_E l L xs M_K_deliver 3 0 0 0 [some (.ref 0), some (.int (nI a))] [] h z _
  refine pe_aload_n d_K_deliver_0 rfl ?_
  refine pe_getf d_K_deliver_1 f_K_49 hK.1 rfl ?_
  refine pe_iload_n d_K_deliver_4 rfl ?_
  refine pe_aaldN d_K_deliver_5 rfl hK.2 (by omega) (by omega) rfl ?_
  refine pe_getf d_K_deliver_6 f_K_194 hA rfl ?_
  -- 9: FrameQueue_isFull
  refine pe_callV d_K_deliver_9 m_K_307 j_FrameQueue_isFull v_FrameQueue_isFull (c_FrameQueue_isFull hq) rfl rfl (by simp [Value.category]) (by decide) hq.1 rfl rfl ?_
  intro v1 h1 z1 hq1
  obtain ⟨rfl, rfl, rfl⟩ := hq1
  change pz_E _ _ _ _ _ _ _ _ _ (_ :: _) _ _ _
  refine pe_if_eq (tgt := 28) d_K_deliver_12 (by decide) (fun c_12 => ?_) (fun c_12 => ?_)
  · have c_12 := pb_0.mp c_12
    exact absurd h4 (of_decide_eq_false c_12)
  · have c_12 := pb_n0.mp c_12
    refine pe_aload_n d_K_deliver_15 rfl ?_
    refine pe_dup d_K_deliver_16 rfl ?_
    refine pe_getf d_K_deliver_17 f_K_43 hK.1 rfl ?_
    refine pe_iconst (v := nI 1) d_K_deliver_20 (by decide) ?_
    refine pe_iaddN d_K_deliver_21 ?_
    refine pe_put d_K_deliver_22 g_K_43 hK.1 (Nat.le_of_ble_eq_true rfl) rfl ?_
    refine pe_pu (fun h2 e2 o2 => ?_)
    have hA := (o2 (16 + 25 * a) (by omega)).trans hA
    have hf := hf.st o2 (by omega) (by omega)
    have hK : KOB h2 (lost + 1) := ⟨e2, (o2 15 (by omega)).trans hK.2⟩
    refine pe_bipush (v := -6) d_K_deliver_25 (by decide) ?_
    refine pe_iret d_K_deliver_27 rfl ?_
    exact ⟨rfl, rfl, hK, hf⟩
set_option maxHeartbeats 4000000 in
set_option maxRecDepth 20000 in
theorem c_K_deliver_ok {l : Launch} {L : Nat} {xs : Nat → Int32} {h : pz_H} {z : Nat} {lost : Nat} (hK : KOB h lost) {dr fl : Nat → Nat} {op mp : Nat → Bool} {fi lk : Nat → Nat} (hap : ∀ i, i < 6 → AOB (16 + 25 * i) h (dr i) (fl i) (op i) (mp i) (fi i) (lk i)) {fb : Nat → Int32} {fl13 : Nat} (hr : FRA 13 h fb fl13) {a : Nat} (ha : a < 6) {qb : Nat → Nat → Int32} {qn : Nat → Nat} {qf ql : Nat} (hq : QUE (16 + 25 * a + 3) h qb qn qf ql) (h4 : ql < 4) : pz_K l L xs M_K_deliver 3 0 0 [.ref 0, .int (nI a)] h z (fun v h' z' => v = some (.int (nI a)) ∧ z = z' ∧ QUE (16 + 25 * a + 3) h' (va_up qb ((qf + ql) % 4) (va_cpy fb (qb ((qf + ql) % 4)) 0 0 fl13)) (va_up qn ((qf + ql) % 4) fl13) qf (ql + 1) ∧ frm (16 + 25 * a + 3) (16 + 25 * a + 13) h h') := by
  refine pz_K.of rfl (Nat.le_of_ble_eq_true rfl) ?_
  have hA := hap a ha
  change pz_E l L xs M_K_deliver 3 0 0 0 [some (.ref 0), some (.int (nI a))] [] h z _
  refine pe_aload_n d_K_deliver_0 rfl ?_
  refine pe_getf d_K_deliver_1 f_K_49 hK.1 rfl ?_
  refine pe_iload_n d_K_deliver_4 rfl ?_
  refine pe_aaldN d_K_deliver_5 rfl hK.2 (by omega) (by omega) rfl ?_
  refine pe_getf d_K_deliver_6 f_K_194 hA rfl ?_
  -- 9: FrameQueue_isFull
  refine pe_callV d_K_deliver_9 m_K_307 j_FrameQueue_isFull v_FrameQueue_isFull (c_FrameQueue_isFull hq) rfl rfl (by simp [Value.category]) (by decide) hq.1 rfl rfl ?_
  intro v1 h1 z1 hq1
  obtain ⟨rfl, rfl, rfl⟩ := hq1
  change pz_E _ _ _ _ _ _ _ _ _ (_ :: _) _ _ _
  refine pe_if_eq (tgt := 28) d_K_deliver_12 (by decide) (fun c_12 => ?_) (fun c_12 => ?_)
  · have c_12 := pb_0.mp c_12
    refine pe_aload_n d_K_deliver_28 rfl ?_
    refine pe_getf d_K_deliver_29 f_K_49 hK.1 rfl ?_
    refine pe_iload_n d_K_deliver_32 rfl ?_
    refine pe_aaldN d_K_deliver_33 rfl hK.2 (by omega) (by omega) rfl ?_
    refine pe_getf d_K_deliver_34 f_K_194 hA rfl ?_
    refine pe_aload_n d_K_deliver_37 rfl ?_
    refine pe_getf d_K_deliver_38 f_K_39 hK.1 rfl ?_
    -- 41: FrameQueue_append
    refine pe_callV d_K_deliver_41 m_K_308 j_FrameQueue_append v_FrameQueue_append (c_FrameQueue_append hq hr (by omega) h4) rfl rfl (by simp [Value.category]) (by decide) hq.1 rfl rfl ?_
    intro v1 h1 z1 hq1
    obtain ⟨rfl, rfl, hq, hf1⟩ := hq1
    change pz_E _ _ _ _ _ _ _ _ _ _ _ _ _
    refine pe_iload_n d_K_deliver_44 rfl ?_
    refine pe_iret d_K_deliver_45 rfl ?_
    exact ⟨rfl, rfl, hq, hf1⟩
  · have c_12 := pb_n0.mp c_12
    exact absurd (of_decide_eq_true c_12) (by omega)
set_option maxHeartbeats 4000000 in
set_option maxRecDepth 20000 in
theorem c_K_arrive_none {l : Launch} {L : Nat} {xs : Nat → Int32} {h : pz_H} {z : Nat} {lost : Nat} (hK : KOB h lost) {dr fl : Nat → Nat} {op mp : Nat → Bool} {fi lk : Nat → Nat} (hap : ∀ i, i < 6 → AOB (16 + 25 * i) h (dr i) (fl i) (op i) (mp i) (fi i) (lk i)) {os : Nat → Int32} {ol : Nat} (ho : ORD h os ol) {fb : Nat → Int32} {fl13 : Nat} (hr : FRA 13 h fb fl13) {c2 o2 y2 n2 : Nat → Nat → Int32} {l2 : Nat → Nat} (hpf : ∀ i, i < 6 → PRG (fl i) h (c2 i) (o2 i) (y2 i) (n2 i) (l2 i)) {yy nn : Nat → Nat → Nat} (hyy : ∀ i, i < 6 → ∀ j, j < l2 i → y2 i j = nI (yy i j) ∧ yy i j ≤ 15) (hnn : ∀ i, i < 6 → ∀ j, j < l2 i → n2 i j = nI (nn i j) ∧ nn i j ≤ 15) {ao : Nat → Nat} (hao : ∀ j, j < ol → os j = nI (ao j) ∧ ao j < 6) (hfa : fac (fun j => acA (c2 (ao j)) (o2 (ao j)) (yy (ao j)) (nn (ao j)) (l2 (ao j)) fb fl13) ao ol 0 = none) : pz_K l L xs M_K_arrive 4 0 0 [.ref 0] h z (fun v h' z' => v = some (.int (-1)) ∧ z = z' ∧ FRA 13 h' fb 0 ∧ frm 13 15 h h') := by
  refine pz_K.of rfl (Nat.le_of_ble_eq_true rfl) ?_
  change pz_E l L xs M_K_arrive 4 0 0 0 [some (.ref 0), none, none] [] h z _
  refine pe_aload_n d_K_arrive_0 rfl ?_
  -- 1: K_firstAccepting
  refine pe_callV d_K_arrive_1 m_K_187 j_K_firstAccepting v_K_firstAccepting (c_K_firstAccepting hK hap ho hr hpf hyy hnn hao) rfl rfl (by simp [Value.category]) (by decide) hK.1 rfl rfl ?_
  intro v1 h1 z1 hq1
  obtain ⟨rfl, rfl, rfl⟩ := hq1
  rw [hfa]
  change pz_E _ _ _ _ _ _ _ _ _ [.int (-1)] _ _ _
  change pz_E _ _ _ _ _ _ _ _ _ (_ :: _) _ _ _
  refine pe_istore_n d_K_arrive_4 (by decide) rfl ?_
  dsimp only [List.set]
  refine pe_iload_n d_K_arrive_5 rfl ?_
  refine pe_iconst (v := -1) d_K_arrive_6 (by decide) ?_
  refine pe_icmp_ne (tgt := 14) d_K_arrive_7 (by decide) (fun c_7 => ?_) (fun c_7 => ?_)
  · exact absurd rfl c_7
  · refine pe_iconst (v := -1) d_K_arrive_10 (by decide) ?_
    refine pe_goto (tgt := 19) d_K_arrive_11 (by decide) ?_
    refine pe_istore_n d_K_arrive_19 (by decide) rfl ?_
    dsimp only [List.set]
    refine pe_aload_n d_K_arrive_20 rfl ?_
    refine pe_getf d_K_arrive_21 f_K_39 hK.1 rfl ?_
    -- 24: Frame_clear
    refine pe_callV d_K_arrive_24 m_K_193 j_Frame_clear v_Frame_clear (c_Frame_clear hr) rfl rfl (by simp [Value.category]) (by decide) hr.1 rfl rfl ?_
    intro v2 h2 z2 hq2
    obtain ⟨rfl, rfl, hr, hf2⟩ := hq2
    change pz_E _ _ _ _ _ _ _ _ _ _ _ _ _
    refine pe_iload_n d_K_arrive_27 rfl ?_
    refine pe_iret d_K_arrive_28 rfl ?_
    exact ⟨rfl, rfl, hr, hf2⟩
set_option maxHeartbeats 4000000 in
set_option maxRecDepth 20000 in
theorem c_K_arrive_lost {l : Launch} {L : Nat} {xs : Nat → Int32} {h : pz_H} {z : Nat} {lost : Nat} (hK : KOB h lost) {dr fl : Nat → Nat} {op mp : Nat → Bool} {fi lk : Nat → Nat} (hap : ∀ i, i < 6 → AOB (16 + 25 * i) h (dr i) (fl i) (op i) (mp i) (fi i) (lk i)) {os : Nat → Int32} {ol : Nat} (ho : ORD h os ol) {fb : Nat → Int32} {fl13 : Nat} (hr : FRA 13 h fb fl13) {c2 o2 y2 n2 : Nat → Nat → Int32} {l2 : Nat → Nat} (hpf : ∀ i, i < 6 → PRG (fl i) h (c2 i) (o2 i) (y2 i) (n2 i) (l2 i)) {yy nn : Nat → Nat → Nat} (hyy : ∀ i, i < 6 → ∀ j, j < l2 i → y2 i j = nI (yy i j) ∧ yy i j ≤ 15) (hnn : ∀ i, i < 6 → ∀ j, j < l2 i → n2 i j = nI (nn i j) ∧ nn i j ≤ 15) {ao : Nat → Nat} (hao : ∀ j, j < ol → os j = nI (ao j) ∧ ao j < 6) {a : Nat} (ha : a < 6) (hfa : fac (fun j => acA (c2 (ao j)) (o2 (ao j)) (yy (ao j)) (nn (ao j)) (l2 (ao j)) fb fl13) ao ol 0 = some a) {qb : Nat → Nat → Int32} {qn : Nat → Nat} {qf ql : Nat} (hq : QUE (16 + 25 * a + 3) h qb qn qf ql) (h4 : ql = 4) : pz_K l L xs M_K_arrive 4 0 0 [.ref 0] h z (fun v h' z' => v = some (.int (-6)) ∧ z = z' ∧ KOB h' (lost + 1) ∧ FRA 13 h' fb 0 ∧ fr2 0 1 13 15 h h') := by
  refine pz_K.of rfl (Nat.le_of_ble_eq_true rfl) ?_
  change pz_E l L xs M_K_arrive 4 0 0 0 [some (.ref 0), none, none] [] h z _
  refine pe_aload_n d_K_arrive_0 rfl ?_
  -- 1: K_firstAccepting
  refine pe_callV d_K_arrive_1 m_K_187 j_K_firstAccepting v_K_firstAccepting (c_K_firstAccepting hK hap ho hr hpf hyy hnn hao) rfl rfl (by simp [Value.category]) (by decide) hK.1 rfl rfl ?_
  intro v1 h1 z1 hq1
  obtain ⟨rfl, rfl, rfl⟩ := hq1
  rw [hfa]
  change pz_E _ _ _ _ _ _ _ _ _ [.int (nI a)] _ _ _
  change pz_E _ _ _ _ _ _ _ _ _ (_ :: _) _ _ _
  refine pe_istore_n d_K_arrive_4 (by decide) rfl ?_
  dsimp only [List.set]
  refine pe_iload_n d_K_arrive_5 rfl ?_
  refine pe_iconst (v := -1) d_K_arrive_6 (by decide) ?_
  refine pe_icmp_ne (tgt := 14) d_K_arrive_7 (by decide) (fun c_7 => ?_) (fun c_7 => ?_)
  · refine pe_aload_n d_K_arrive_14 rfl ?_
    refine pe_iload_n d_K_arrive_15 rfl ?_
    -- 16: K_deliver
    refine pe_callV d_K_arrive_16 m_K_190 j_K_deliver v_K_deliver (c_K_deliver_full hK hap ha hq h4) rfl rfl (by simp [Value.category]) (by decide) hK.1 rfl rfl ?_
    intro v1 h1 z1 hq1
    obtain ⟨rfl, rfl, hK, hf1⟩ := hq1
    have hr := hr.on (hf1.on (by omega))
    change pz_E _ _ _ _ _ _ _ _ _ (_ :: _) _ _ _
    refine pe_istore_n d_K_arrive_19 (by decide) rfl ?_
    dsimp only [List.set]
    refine pe_aload_n d_K_arrive_20 rfl ?_
    refine pe_getf d_K_arrive_21 f_K_39 hK.1 rfl ?_
    -- 24: Frame_clear
    refine pe_callV d_K_arrive_24 m_K_193 j_Frame_clear v_Frame_clear (c_Frame_clear hr) rfl rfl (by simp [Value.category]) (by decide) hr.1 rfl rfl ?_
    intro v2 h2 z2 hq2
    obtain ⟨rfl, rfl, hr, hf2⟩ := hq2
    have hK := hK.on (hf2.on (by omega)) (hf2.on (by omega))
    have hfr := ((fr2.rf (lo := 0) (hi := 1) (lo2 := 13) (hi2 := 15) (h := h)).l hf1).r hf2
    change pz_E _ _ _ _ _ _ _ _ _ _ _ _ _
    refine pe_iload_n d_K_arrive_27 rfl ?_
    refine pe_iret d_K_arrive_28 rfl ?_
    exact ⟨rfl, rfl, hK, hr, hfr⟩
  · exact absurd c_7 (nI_nem1 (by omega))
set_option maxHeartbeats 4000000 in
set_option maxRecDepth 20000 in
theorem c_K_arrive_ok {l : Launch} {L : Nat} {xs : Nat → Int32} {h : pz_H} {z : Nat} {lost : Nat} (hK : KOB h lost) {dr fl : Nat → Nat} {op mp : Nat → Bool} {fi lk : Nat → Nat} (hap : ∀ i, i < 6 → AOB (16 + 25 * i) h (dr i) (fl i) (op i) (mp i) (fi i) (lk i)) {os : Nat → Int32} {ol : Nat} (ho : ORD h os ol) {fb : Nat → Int32} {fl13 : Nat} (hr : FRA 13 h fb fl13) {c2 o2 y2 n2 : Nat → Nat → Int32} {l2 : Nat → Nat} (hpf : ∀ i, i < 6 → PRG (fl i) h (c2 i) (o2 i) (y2 i) (n2 i) (l2 i)) {yy nn : Nat → Nat → Nat} (hyy : ∀ i, i < 6 → ∀ j, j < l2 i → y2 i j = nI (yy i j) ∧ yy i j ≤ 15) (hnn : ∀ i, i < 6 → ∀ j, j < l2 i → n2 i j = nI (nn i j) ∧ nn i j ≤ 15) {ao : Nat → Nat} (hao : ∀ j, j < ol → os j = nI (ao j) ∧ ao j < 6) {a : Nat} (ha : a < 6) (hfa : fac (fun j => acA (c2 (ao j)) (o2 (ao j)) (yy (ao j)) (nn (ao j)) (l2 (ao j)) fb fl13) ao ol 0 = some a) {qb : Nat → Nat → Int32} {qn : Nat → Nat} {qf ql : Nat} (hq : QUE (16 + 25 * a + 3) h qb qn qf ql) (h4 : ql < 4) : pz_K l L xs M_K_arrive 4 0 0 [.ref 0] h z (fun v h' z' => v = some (.int (nI a)) ∧ z = z' ∧ QUE (16 + 25 * a + 3) h' (va_up qb ((qf + ql) % 4) (va_cpy fb (qb ((qf + ql) % 4)) 0 0 fl13)) (va_up qn ((qf + ql) % 4) fl13) qf (ql + 1) ∧ FRA 13 h' fb 0 ∧ fr2 (16 + 25 * a + 3) (16 + 25 * a + 13) 13 15 h h') := by
  refine pz_K.of rfl (Nat.le_of_ble_eq_true rfl) ?_
  change pz_E l L xs M_K_arrive 4 0 0 0 [some (.ref 0), none, none] [] h z _
  refine pe_aload_n d_K_arrive_0 rfl ?_
  -- 1: K_firstAccepting
  refine pe_callV d_K_arrive_1 m_K_187 j_K_firstAccepting v_K_firstAccepting (c_K_firstAccepting hK hap ho hr hpf hyy hnn hao) rfl rfl (by simp [Value.category]) (by decide) hK.1 rfl rfl ?_
  intro v1 h1 z1 hq1
  obtain ⟨rfl, rfl, rfl⟩ := hq1
  rw [hfa]
  change pz_E _ _ _ _ _ _ _ _ _ [.int (nI a)] _ _ _
  change pz_E _ _ _ _ _ _ _ _ _ (_ :: _) _ _ _
  refine pe_istore_n d_K_arrive_4 (by decide) rfl ?_
  dsimp only [List.set]
  refine pe_iload_n d_K_arrive_5 rfl ?_
  refine pe_iconst (v := -1) d_K_arrive_6 (by decide) ?_
  refine pe_icmp_ne (tgt := 14) d_K_arrive_7 (by decide) (fun c_7 => ?_) (fun c_7 => ?_)
  · refine pe_aload_n d_K_arrive_14 rfl ?_
    refine pe_iload_n d_K_arrive_15 rfl ?_
    -- 16: K_deliver
    refine pe_callV d_K_arrive_16 m_K_190 j_K_deliver v_K_deliver (c_K_deliver_ok hK hap hr ha hq h4) rfl rfl (by simp [Value.category]) (by decide) hK.1 rfl rfl ?_
    intro v1 h1 z1 hq1
    obtain ⟨rfl, rfl, hq, hf1⟩ := hq1
    have hr := hr.on (hf1.on (by omega))
    have hK := hK.on (hf1.on (by omega)) (hf1.on (by omega))
    change pz_E _ _ _ _ _ _ _ _ _ (_ :: _) _ _ _
    refine pe_istore_n d_K_arrive_19 (by decide) rfl ?_
    dsimp only [List.set]
    refine pe_aload_n d_K_arrive_20 rfl ?_
    refine pe_getf d_K_arrive_21 f_K_39 hK.1 rfl ?_
    -- 24: Frame_clear
    refine pe_callV d_K_arrive_24 m_K_193 j_Frame_clear v_Frame_clear (c_Frame_clear hr) rfl rfl (by simp [Value.category]) (by decide) hr.1 rfl rfl ?_
    intro v2 h2 z2 hq2
    obtain ⟨rfl, rfl, hr, hf2⟩ := hq2
    have hq := hq.on (hf2.on (by omega))
    have hfr := ((fr2.rf (lo := 16 + 25 * a + 3) (hi := 16 + 25 * a + 13) (lo2 := 13) (hi2 := 15) (h := h)).l hf1).r hf2
    change pz_E _ _ _ _ _ _ _ _ _ _ _ _ _
    refine pe_iload_n d_K_arrive_27 rfl ?_
    refine pe_iret d_K_arrive_28 rfl ?_
    exact ⟨rfl, rfl, hq, hr, hfr⟩
  · exact absurd c_7 (nI_nem1 (by omega))
