/-! applications: contracts of Application -/
theorem pb_fits (c : Bool) : pz_fits .boolean (.int (pb c)) = true := by cases c <;> rfl
/-- an application's own cell at a; its draft at dr, its filter at fl -/
def AOB (a : Nat) (h : pz_H) (dr fl : Nat) (op mp : Bool) (fi lk : Nat) : Prop := h a = some (.inr (5, [.ref (a + 1), .ref (a + 3), .ref (a + 13), .ref dr, .ref fl, .int (pb op), .int (pb mp), .int (nI fi), .int (nI lk)]))
theorem AOB.on {h h' : pz_H} {a dr fl : Nat} {op mp : Bool} {fi lk : Nat} (m : AOB a h dr fl op mp fi lk) (f : ∀ c, a ≤ c → c < a + 1 → h' c = h c) : AOB a h' dr fl op mp fi lk := (f a (by omega) (by omega)).trans m
theorem frm.on {lo hi : Nat} {h h' : pz_H} (f : frm lo hi h h') {a b : Nat} (hd : hi ≤ a ∨ b ≤ lo) : ∀ c, a ≤ c → c < b → h' c = h c := fun c h1 h2 => f c (by omega)
set_option maxHeartbeats 4000000 in
set_option maxRecDepth 20000 in
theorem c_Application_isLink {l : Launch} {L : Nat} {xs : Nat → Int32} {h : pz_H} {z : Nat}  {a dr fl : Nat} {op mp : Bool} {fi lk : Nat} (hA : AOB a h dr fl op mp fi lk) (hb : fi + lk ≤ 8) {q : Nat} (hq : q < 8) : pz_K l L xs M_Application_isLink 0 0 0 [.ref a, .int (nI q)] h z (fun v h' z' => v = some (.int (pb (decide (fi ≤ q ∧ q < fi + lk)))) ∧ h = h' ∧ z = z') := by
  have hA := id hA
  refine pz_K.of rfl (Nat.le_of_ble_eq_true rfl) ?_
  change pz_E l L xs M_Application_isLink 0 0 0 0 [some (.ref a), some (.int (nI q))] [] h z _
  refine pe_iload_n d_Application_isLink_0 rfl ?_
  refine pe_aload_n d_Application_isLink_1 rfl ?_
  refine pe_getf d_Application_isLink_2 f_Application_47 hA rfl ?_
  refine pe_icmpN_lt (tgt := 25) d_Application_isLink_5 (by decide) (by omega) (by omega) (fun c_5 => ?_) (fun c_5 => ?_)
  · refine pe_iconst (v := nI 0) d_Application_isLink_25 (by decide) ?_
    refine pe_zret d_Application_isLink_26 rfl (by decide) ?_
    exact ⟨pb_no (fun q => by first | exact absurd q.1 (by omega) | exact absurd q.2 (by omega)), rfl, rfl⟩
  · refine pe_iload_n d_Application_isLink_8 rfl ?_
    refine pe_aload_n d_Application_isLink_9 rfl ?_
    refine pe_getf d_Application_isLink_10 f_Application_47 hA rfl ?_
    refine pe_aload_n d_Application_isLink_13 rfl ?_
    refine pe_getf d_Application_isLink_14 f_Application_51 hA rfl ?_
    refine pe_iaddN d_Application_isLink_17 ?_
    refine pe_icmpN_ge (tgt := 25) d_Application_isLink_18 (by decide) (by omega) (by omega) (fun c_18 => ?_) (fun c_18 => ?_)
    · refine pe_iconst (v := nI 0) d_Application_isLink_25 (by decide) ?_
      refine pe_zret d_Application_isLink_26 rfl (by decide) ?_
      exact ⟨pb_no (fun q => by first | exact absurd q.1 (by omega) | exact absurd q.2 (by omega)), rfl, rfl⟩
    · refine pe_iconst (v := nI 1) d_Application_isLink_21 (by decide) ?_
      refine pe_goto (tgt := 26) d_Application_isLink_22 (by decide) ?_
      refine pe_zret d_Application_isLink_26 rfl (by decide) ?_
      exact ⟨pb_yes ⟨by omega, by omega⟩, rfl, rfl⟩
set_option maxHeartbeats 4000000 in
set_option maxRecDepth 20000 in
theorem c_Application_begin_map {l : Launch} {L : Nat} {xs : Nat → Int32} {h : pz_H} {z : Nat}  {a dr fl : Nat} {op mp : Bool} {fi lk : Nat} {pp : Nat → Int32} {pl pe : Nat} (hA : AOB a h dr fl op mp fi lk) (hg : PGL (a + 1) h pp pl pe) (x y : Int32) : pz_K l L xs M_Application_begin 1 0 0 [.ref a, .int (pb true), .int x, .int y] h z (fun v h' z' => v = none ∧ z = z' ∧ AOB a h' dr fl true true 0 0 ∧ PGL (a + 1) h' pp 0 0 ∧ frm a (a + 3) h h') := by
  have hA := id hA
  skip
  refine pz_K.of rfl (Nat.le_of_ble_eq_true rfl) ?_
  have hf : frm a (a + 3) h h := frm.rf
  change pz_E l L xs M_Application_begin 1 0 0 0 [some (.ref a), some (.int (pb true)), some (.int x), some (.int y)] [] h z _
  refine pe_aload_n d_Application_begin_0 rfl ?_
  refine pe_iconst (v := nI 1) d_Application_begin_1 (by decide) ?_
  refine pe_top (y := .int (pb true)) (by decide) ?_
  refine pe_put d_Application_begin_2 g_Application_40 hA (Nat.le_of_ble_eq_true rfl) (pb_fits _) ?_
  refine pe_pu (fun h2 e2 o2 => ?_)
  have hA := e2
  have hf := hf.st o2 (by omega) (by omega)
  have hg := hg.on (fun c h1 h2 => o2 c (by omega))
  refine pe_aload_n d_Application_begin_5 rfl ?_
  refine pe_iload_n d_Application_begin_6 rfl ?_
  refine pe_put d_Application_begin_7 g_Application_44 hA (Nat.le_of_ble_eq_true rfl) (pb_fits _) ?_
  refine pe_pu (fun h2 e2 o2 => ?_)
  have hA := e2
  have hf := hf.st o2 (by omega) (by omega)
  have hg := hg.on (fun c h1 h2 => o2 c (by omega))
  refine pe_aload_n d_Application_begin_10 rfl ?_
  refine pe_iload_n d_Application_begin_11 rfl ?_
  refine pe_if_eq (tgt := 19) d_Application_begin_12 (by decide) (fun c_12 => ?_) (fun c_12 => ?_)
  · have c_12 := pb_0.mp c_12
    exact absurd c_12 (by decide)
  · have c_12 := pb_n0.mp c_12
    refine pe_iconst (v := nI 0) d_Application_begin_15 (by decide) ?_
    refine pe_goto (tgt := 20) d_Application_begin_16 (by decide) ?_
    refine pe_put d_Application_begin_20 g_Application_47 hA (Nat.le_of_ble_eq_true rfl) rfl ?_
    refine pe_pu (fun h2 e2 o2 => ?_)
    have hA := e2
    have hf := hf.st o2 (by omega) (by omega)
    have hg := hg.on (fun c h1 h2 => o2 c (by omega))
    refine pe_aload_n d_Application_begin_23 rfl ?_
    refine pe_iload_n d_Application_begin_24 rfl ?_
    refine pe_if_eq (tgt := 32) d_Application_begin_25 (by decide) (fun c_25 => ?_) (fun c_25 => ?_)
    · have c_25 := pb_0.mp c_25
      exact absurd c_25 (by decide)
    · have c_25 := pb_n0.mp c_25
      refine pe_iconst (v := nI 0) d_Application_begin_28 (by decide) ?_
      refine pe_goto (tgt := 33) d_Application_begin_29 (by decide) ?_
      refine pe_put d_Application_begin_33 g_Application_51 hA (Nat.le_of_ble_eq_true rfl) rfl ?_
      refine pe_pu (fun h2 e2 o2 => ?_)
      have hA := e2
      have hf := hf.st o2 (by omega) (by omega)
      have hg := hg.on (fun c h1 h2 => o2 c (by omega))
      refine pe_aload_n d_Application_begin_36 rfl ?_
      refine pe_getf d_Application_begin_37 f_Application_10 hA rfl ?_
      -- 40: PageList_clear
      refine pe_callV d_Application_begin_40 m_Application_54 j_PageList_clear v_PageList_clear (c_PageList_clear hg) rfl rfl (by simp [Value.category]) (by decide) hg.1 rfl rfl ?_
      intro v1 h1 z1 hq1
      obtain ⟨rfl, rfl, hg, hf1⟩ := hq1
      have hA := (hf1 a (by omega)).trans hA
      have hf := hf.tr (hf1.wd (lo' := a) (hi' := a + 3) (by omega) (by omega))
      change pz_E _ _ _ _ _ _ _ _ _ _ _ _ _
      refine pe_vret d_Application_begin_43 rfl ?_
      exact ⟨rfl, rfl, hA, hg, hf⟩
set_option maxHeartbeats 4000000 in
set_option maxRecDepth 20000 in
theorem c_Application_begin_raw {l : Launch} {L : Nat} {xs : Nat → Int32} {h : pz_H} {z : Nat}  {a dr fl : Nat} {op mp : Bool} {fi lk : Nat} {pp : Nat → Int32} {pl pe : Nat} (hA : AOB a h dr fl op mp fi lk) (hg : PGL (a + 1) h pp pl pe) (x y : Nat) : pz_K l L xs M_Application_begin 1 0 0 [.ref a, .int (pb false), .int (nI x), .int (nI y)] h z (fun v h' z' => v = none ∧ z = z' ∧ AOB a h' dr fl true false x y ∧ PGL (a + 1) h' pp 0 0 ∧ frm a (a + 3) h h') := by
  have hA := id hA
  skip
  refine pz_K.of rfl (Nat.le_of_ble_eq_true rfl) ?_
  have hf : frm a (a + 3) h h := frm.rf
  change pz_E l L xs M_Application_begin 1 0 0 0 [some (.ref a), some (.int (pb false)), some (.int (nI x)), some (.int (nI y))] [] h z _
  refine pe_aload_n d_Application_begin_0 rfl ?_
  refine pe_iconst (v := nI 1) d_Application_begin_1 (by decide) ?_
  refine pe_top (y := .int (pb true)) (by decide) ?_
  refine pe_put d_Application_begin_2 g_Application_40 hA (Nat.le_of_ble_eq_true rfl) (pb_fits _) ?_
  refine pe_pu (fun h2 e2 o2 => ?_)
  have hA := e2
  have hf := hf.st o2 (by omega) (by omega)
  have hg := hg.on (fun c h1 h2 => o2 c (by omega))
  refine pe_aload_n d_Application_begin_5 rfl ?_
  refine pe_iload_n d_Application_begin_6 rfl ?_
  refine pe_put d_Application_begin_7 g_Application_44 hA (Nat.le_of_ble_eq_true rfl) (pb_fits _) ?_
  refine pe_pu (fun h2 e2 o2 => ?_)
  have hA := e2
  have hf := hf.st o2 (by omega) (by omega)
  have hg := hg.on (fun c h1 h2 => o2 c (by omega))
  refine pe_aload_n d_Application_begin_10 rfl ?_
  refine pe_iload_n d_Application_begin_11 rfl ?_
  refine pe_if_eq (tgt := 19) d_Application_begin_12 (by decide) (fun c_12 => ?_) (fun c_12 => ?_)
  · have c_12 := pb_0.mp c_12
    refine pe_iload_n d_Application_begin_19 rfl ?_
    refine pe_put d_Application_begin_20 g_Application_47 hA (Nat.le_of_ble_eq_true rfl) rfl ?_
    refine pe_pu (fun h2 e2 o2 => ?_)
    have hA := e2
    have hf := hf.st o2 (by omega) (by omega)
    have hg := hg.on (fun c h1 h2 => o2 c (by omega))
    refine pe_aload_n d_Application_begin_23 rfl ?_
    refine pe_iload_n d_Application_begin_24 rfl ?_
    refine pe_if_eq (tgt := 32) d_Application_begin_25 (by decide) (fun c_25 => ?_) (fun c_25 => ?_)
    · have c_25 := pb_0.mp c_25
      refine pe_iload_n d_Application_begin_32 rfl ?_
      refine pe_put d_Application_begin_33 g_Application_51 hA (Nat.le_of_ble_eq_true rfl) rfl ?_
      refine pe_pu (fun h2 e2 o2 => ?_)
      have hA := e2
      have hf := hf.st o2 (by omega) (by omega)
      have hg := hg.on (fun c h1 h2 => o2 c (by omega))
      refine pe_aload_n d_Application_begin_36 rfl ?_
      refine pe_getf d_Application_begin_37 f_Application_10 hA rfl ?_
      -- 40: PageList_clear
      refine pe_callV d_Application_begin_40 m_Application_54 j_PageList_clear v_PageList_clear (c_PageList_clear hg) rfl rfl (by simp [Value.category]) (by decide) hg.1 rfl rfl ?_
      intro v1 h1 z1 hq1
      obtain ⟨rfl, rfl, hg, hf1⟩ := hq1
      have hA := (hf1 a (by omega)).trans hA
      have hf := hf.tr (hf1.wd (lo' := a) (hi' := a + 3) (by omega) (by omega))
      change pz_E _ _ _ _ _ _ _ _ _ _ _ _ _
      refine pe_vret d_Application_begin_43 rfl ?_
      exact ⟨rfl, rfl, hA, hg, hf⟩
    · have c_25 := pb_n0.mp c_25
      exact absurd c_25 (by decide)
  · have c_12 := pb_n0.mp c_12
    exact absurd c_12 (by decide)
set_option maxHeartbeats 4000000 in
set_option maxRecDepth 20000 in
theorem c_Application_end {l : Launch} {L : Nat} {xs : Nat → Int32} {h : pz_H} {z : Nat}  {a dr fl : Nat} {op mp : Bool} {fi lk : Nat} (hA : AOB a h dr fl op mp fi lk) (hdf : (dr = a + 15 ∧ fl = a + 20) ∨ (dr = a + 20 ∧ fl = a + 15)) {c1 o1 y1 n1 : Nat → Int32} {l1 : Nat} (hp1 : PRG dr h c1 o1 y1 n1 l1) {c2 o2 y2 n2 : Nat → Int32} {l2 : Nat} (hp2 : PRG fl h c2 o2 y2 n2 l2) {qb : Nat → Nat → Int32} {qn : Nat → Nat} {qf ql : Nat} (hq : QUE (a + 3) h qb qn qf ql) {td : Nat → Int32} {tl : Nat} (ht : TAB (a + 13) h td tl) : pz_K l L xs M_Application_end 1 0 0 [.ref a] h z (fun v h' z' => v = none ∧ z = z' ∧ AOB a h' dr fl false mp fi lk ∧ PRG dr h' c1 o1 y1 n1 0 ∧ PRG fl h' c2 o2 y2 n2 0 ∧ QUE (a + 3) h' qb qn qf 0 ∧ TAB (a + 13) h' td 0 ∧ frm a (a + 25) h h') := by
  have hA := id hA
  refine pz_K.of rfl (Nat.le_of_ble_eq_true rfl) ?_
  have hf : frm a (a + 25) h h := frm.rf
  change pz_E l L xs M_Application_end 1 0 0 0 [some (.ref a)] [] h z _
  refine pe_aload_n d_Application_end_0 rfl ?_
  refine pe_iconst (v := nI 0) d_Application_end_1 (by decide) ?_
  refine pe_top (y := .int (pb false)) (by decide) ?_
  refine pe_put d_Application_end_2 g_Application_40 hA (Nat.le_of_ble_eq_true rfl) (pb_fits _) ?_
  refine pe_pu (fun h2 e2 o2 => ?_)
  have hA := e2
  have hf := hf.st o2 (by omega) (by omega)
  have hp1 := hp1.on (fun c h1 h2 => o2 c (by omega))
  have hp2 := hp2.on (fun c h1 h2 => o2 c (by omega))
  have hq := hq.on (fun c h1 h2 => o2 c (by omega))
  have ht := ht.on (fun c h1 h2 => o2 c (by omega))
  refine pe_aload_n d_Application_end_5 rfl ?_
  refine pe_getf d_Application_end_6 f_Application_33 hA rfl ?_
  -- 9: Program_clear
  refine pe_callV d_Application_end_9 m_Application_57 j_Program_clear v_Program_clear (c_Program_clear hp1) rfl rfl (by simp [Value.category]) (by decide) hp1.1 rfl rfl ?_
  intro v1 h1 z1 hq1
  obtain ⟨rfl, rfl, hp1, hf1⟩ := hq1
  have hA := (hf1 a (by omega)).trans hA
  have hp2 := hp2.on (hf1.on (by omega))
  have hq := hq.on (hf1.on (by omega))
  have ht := ht.on (hf1.on (by omega))
  have hf := hf.tr (hf1.wd (lo' := a) (hi' := a + 25) (by omega) (by omega))
  change pz_E _ _ _ _ _ _ _ _ _ _ _ _ _
  refine pe_aload_n d_Application_end_12 rfl ?_
  refine pe_getf d_Application_end_13 f_Application_37 hA rfl ?_
  -- 16: Program_clear
  refine pe_callV d_Application_end_16 m_Application_57 j_Program_clear v_Program_clear (c_Program_clear hp2) rfl rfl (by simp [Value.category]) (by decide) hp2.1 rfl rfl ?_
  intro v1 h1 z1 hq1
  obtain ⟨rfl, rfl, hp2, hf1⟩ := hq1
  have hA := (hf1 a (by omega)).trans hA
  have hp1 := hp1.on (hf1.on (by omega))
  have hq := hq.on (hf1.on (by omega))
  have ht := ht.on (hf1.on (by omega))
  have hf := hf.tr (hf1.wd (lo' := a) (hi' := a + 25) (by omega) (by omega))
  change pz_E _ _ _ _ _ _ _ _ _ _ _ _ _
  refine pe_aload_n d_Application_end_19 rfl ?_
  refine pe_getf d_Application_end_20 f_Application_19 hA rfl ?_
  -- 23: FrameQueue_clear
  refine pe_callV d_Application_end_23 m_Application_58 j_FrameQueue_clear v_FrameQueue_clear (c_FrameQueue_clear hq) rfl rfl (by simp [Value.category]) (by decide) hq.1 rfl rfl ?_
  intro v1 h1 z1 hq1
  obtain ⟨rfl, rfl, hq, hf1⟩ := hq1
  have hA := (hf1 a (by omega)).trans hA
  have hp1 := hp1.on (hf1.on (by omega))
  have hp2 := hp2.on (hf1.on (by omega))
  have ht := ht.on (hf1.on (by omega))
  have hf := hf.tr (hf1.wd (lo' := a) (hi' := a + 25) (by omega) (by omega))
  change pz_E _ _ _ _ _ _ _ _ _ _ _ _ _
  refine pe_aload_n d_Application_end_26 rfl ?_
  refine pe_getf d_Application_end_27 f_Application_26 hA rfl ?_
  -- 30: EntryTable_clear
  refine pe_callV d_Application_end_30 m_Application_59 j_EntryTable_clear v_EntryTable_clear (c_EntryTable_clear ht) rfl rfl (by simp [Value.category]) (by decide) ht.1 rfl rfl ?_
  intro v1 h1 z1 hq1
  obtain ⟨rfl, rfl, ht, hf1⟩ := hq1
  have hA := (hf1 a (by omega)).trans hA
  have hp1 := hp1.on (hf1.on (by omega))
  have hp2 := hp2.on (hf1.on (by omega))
  have hq := hq.on (hf1.on (by omega))
  have hf := hf.tr (hf1.wd (lo' := a) (hi' := a + 25) (by omega) (by omega))
  change pz_E _ _ _ _ _ _ _ _ _ _ _ _ _
  refine pe_vret d_Application_end_33 rfl ?_
  exact ⟨rfl, rfl, hA, hp1, hp2, hq, ht, hf⟩
set_option maxHeartbeats 4000000 in
set_option maxRecDepth 20000 in
theorem c_Application_draftBecomesFilter {l : Launch} {L : Nat} {xs : Nat → Int32} {h : pz_H} {z : Nat}  {a dr fl : Nat} {op mp : Bool} {fi lk : Nat} (hA : AOB a h dr fl op mp fi lk) (hdf : (dr = a + 15 ∧ fl = a + 20) ∨ (dr = a + 20 ∧ fl = a + 15)) {c1 o1 y1 n1 : Nat → Int32} {l1 : Nat} (hp1 : PRG dr h c1 o1 y1 n1 l1) {c2 o2 y2 n2 : Nat → Int32} {l2 : Nat} (hp2 : PRG fl h c2 o2 y2 n2 l2) : pz_K l L xs M_Application_draftBecomesFilter 1 0 0 [.ref a] h z (fun v h' z' => v = none ∧ z = z' ∧ AOB a h' fl dr op mp fi lk ∧ PRG dr h' c1 o1 y1 n1 l1 ∧ PRG fl h' c2 o2 y2 n2 0 ∧ frm a (a + 25) h h') := by
  have hA := id hA
  refine pz_K.of rfl (Nat.le_of_ble_eq_true rfl) ?_
  have hf : frm a (a + 25) h h := frm.rf
  change pz_E l L xs M_Application_draftBecomesFilter 1 0 0 0 [some (.ref a), none] [] h z _
  refine pe_aload_n d_Application_draftBecomesFilter_0 rfl ?_
  refine pe_getf d_Application_draftBecomesFilter_1 f_Application_37 hA rfl ?_
  refine pe_astore_n d_Application_draftBecomesFilter_4 (by decide) rfl ?_
  dsimp only [List.set]
  refine pe_aload_n d_Application_draftBecomesFilter_5 rfl ?_
  refine pe_aload_n d_Application_draftBecomesFilter_6 rfl ?_
  refine pe_getf d_Application_draftBecomesFilter_7 f_Application_33 hA rfl ?_
  refine pe_put d_Application_draftBecomesFilter_10 g_Application_37 hA (Nat.le_of_ble_eq_true rfl) rfl ?_
  refine pe_pu (fun h2 e2 o2 => ?_)
  have hA := e2
  have hf := hf.st o2 (by omega) (by omega)
  have hp1 := hp1.on (fun c h1 h2 => o2 c (by omega))
  have hp2 := hp2.on (fun c h1 h2 => o2 c (by omega))
  refine pe_aload_n d_Application_draftBecomesFilter_13 rfl ?_
  refine pe_aload_n d_Application_draftBecomesFilter_14 rfl ?_
  refine pe_put d_Application_draftBecomesFilter_15 g_Application_33 hA (Nat.le_of_ble_eq_true rfl) rfl ?_
  refine pe_pu (fun h2 e2 o2 => ?_)
  have hA := e2
  have hf := hf.st o2 (by omega) (by omega)
  have hp1 := hp1.on (fun c h1 h2 => o2 c (by omega))
  have hp2 := hp2.on (fun c h1 h2 => o2 c (by omega))
  refine pe_aload_n d_Application_draftBecomesFilter_18 rfl ?_
  refine pe_getf d_Application_draftBecomesFilter_19 f_Application_33 hA rfl ?_
  -- 22: Program_clear
  refine pe_callV d_Application_draftBecomesFilter_22 m_Application_57 j_Program_clear v_Program_clear (c_Program_clear hp2) rfl rfl (by simp [Value.category]) (by decide) hp2.1 rfl rfl ?_
  intro v1 h1 z1 hq1
  obtain ⟨rfl, rfl, hp2, hf1⟩ := hq1
  have hA := (hf1 a (by omega)).trans hA
  have hp1 := hp1.on (hf1.on (by omega))
  have hf := hf.tr (hf1.wd (lo' := a) (hi' := a + 25) (by omega) (by omega))
  change pz_E _ _ _ _ _ _ _ _ _ _ _ _ _
  refine pe_vret d_Application_draftBecomesFilter_25 rfl ?_
  exact ⟨rfl, rfl, hA, hp1, hp2, hf⟩
