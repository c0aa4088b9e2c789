/-! close and install once more, with what they leave of an application -/
set_option maxHeartbeats 4000000 in
set_option maxRecDepth 20000 in
theorem c_Application_end_k {l : Launch} {L : Nat} {xs : Nat → Int32} {h : pz_H} {z : Nat}  {a dr fl : Nat} {op mp : Bool} {fi lk : Nat} (hA : AOB a h dr fl op mp fi lk) (hdf : (dr = a + 15 ∧ fl = a + 20) ∨ (dr = a + 20 ∧ fl = a + 15)) {c1 o1 y1 n1 : Nat → Int32} {l1 : Nat} (hp1 : PRG dr h c1 o1 y1 n1 l1) {c2 o2 y2 n2 : Nat → Int32} {l2 : Nat} (hp2 : PRG fl h c2 o2 y2 n2 l2) {qb : Nat → Nat → Int32} {qn : Nat → Nat} {qf ql : Nat} (hq : QUE (a + 3) h qb qn qf ql) {td : Nat → Int32} {tl : Nat} (ht : TAB (a + 13) h td tl) : pz_K l L xs M_Application_end 1 0 0 [.ref a] h z (fun v h' z' => v = none ∧ z = z' ∧ AOB a h' dr fl false mp fi lk ∧ PRG dr h' c1 o1 y1 n1 0 ∧ PRG fl h' c2 o2 y2 n2 0 ∧ QUE (a + 3) h' qb qn qf 0 ∧ TAB (a + 13) h' td 0 ∧ (∀ c, a + 1 ≤ c → c < a + 3 → h' c = h c) ∧ frm a (a + 25) h h') := by
  have hA := id hA
  refine pz_K.of rfl (Nat.le_of_ble_eq_true rfl) ?_
  have hf : frm a (a + 25) h h := frm.rf
  have hk9 : ∀ c, a + 1 ≤ c → c < a + 3 → h c = h c := fun _ _ _ => rfl
  change pz_E l L xs M_Application_end 1 0 0 0 [some (.ref a)] [] h z _
  refine pe_aload_n d_Application_end_0 rfl ?_
  refine pe_iconst (v := nI 0) d_Application_end_1 (by decide) ?_
  refine pe_top (y := .int (pb false)) (by decide) ?_
  refine pe_put d_Application_end_2 g_Application_40 hA (Nat.le_of_ble_eq_true rfl) (pb_fits _) ?_
  refine pe_pu (fun h2 e2 o2 => ?_)
  have hA := e2
  have hf := hf.st o2 (by omega) (by omega)
  have hp1 := hp1.on (fun c h1 h2 => o2 c (by omega))
  have hp2 := hp2.on (fun c h1 h2 => o2 c (by omega))
  have hq := hq.on (fun c h1 h2 => o2 c (by omega))
  have ht := ht.on (fun c h1 h2 => o2 c (by omega))
  have hk9 : ∀ c, a + 1 ≤ c → c < a + 3 → h2 c = h c := fun c g1 g2 => (o2 c (by omega)).trans (hk9 c g1 g2)
  refine pe_aload_n d_Application_end_5 rfl ?_
  refine pe_getf d_Application_end_6 f_Application_33 hA rfl ?_
  -- 9: Program_clear
  refine pe_callV d_Application_end_9 m_Application_57 j_Program_clear v_Program_clear (c_Program_clear hp1) rfl rfl (by simp [Value.category]) (by decide) hp1.1 rfl rfl ?_
  intro v1 h1 z1 hq1
  obtain ⟨rfl, rfl, hp1, hf1⟩ := hq1
  have hA := (hf1 a (by omega)).trans hA
  have hp2 := hp2.on (hf1.on (by omega))
  have hq := hq.on (hf1.on (by omega))
  have ht := ht.on (hf1.on (by omega))
  have hf := hf.tr (hf1.wd (lo' := a) (hi' := a + 25) (by omega) (by omega))
  have hk9 : ∀ c, a + 1 ≤ c → c < a + 3 → h1 c = h c := fun c g1 g2 => (hf1 c (by omega)).trans (hk9 c g1 g2)
  change pz_E _ _ _ _ _ _ _ _ _ _ _ _ _
  refine pe_aload_n d_Application_end_12 rfl ?_
  refine pe_getf d_Application_end_13 f_Application_37 hA rfl ?_
  -- 16: Program_clear
  refine pe_callV d_Application_end_16 m_Application_57 j_Program_clear v_Program_clear (c_Program_clear hp2) rfl rfl (by simp [Value.category]) (by decide) hp2.1 rfl rfl ?_
  intro v1 h1 z1 hq1
  obtain ⟨rfl, rfl, hp2, hf1⟩ := hq1
  have hA := (hf1 a (by omega)).trans hA
  have hp1 := hp1.on (hf1.on (by omega))
  have hq := hq.on (hf1.on (by omega))
  have ht := ht.on (hf1.on (by omega))
  have hf := hf.tr (hf1.wd (lo' := a) (hi' := a + 25) (by omega) (by omega))
  have hk9 : ∀ c, a + 1 ≤ c → c < a + 3 → h1 c = h c := fun c g1 g2 => (hf1 c (by omega)).trans (hk9 c g1 g2)
  change pz_E _ _ _ _ _ _ _ _ _ _ _ _ _
  refine pe_aload_n d_Application_end_19 rfl ?_
  refine pe_getf d_Application_end_20 f_Application_19 hA rfl ?_
  -- 23: FrameQueue_clear
  refine pe_callV d_Application_end_23 m_Application_58 j_FrameQueue_clear v_FrameQueue_clear (c_FrameQueue_clear hq) rfl rfl (by simp [Value.category]) (by decide) hq.1 rfl rfl ?_
  intro v1 h1 z1 hq1
  obtain ⟨rfl, rfl, hq, hf1⟩ := hq1
  have hA := (hf1 a (by omega)).trans hA
  have hp1 := hp1.on (hf1.on (by omega))
  have hp2 := hp2.on (hf1.on (by omega))
  have ht := ht.on (hf1.on (by omega))
  have hf := hf.tr (hf1.wd (lo' := a) (hi' := a + 25) (by omega) (by omega))
  have hk9 : ∀ c, a + 1 ≤ c → c < a + 3 → h1 c = h c := fun c g1 g2 => (hf1 c (by omega)).trans (hk9 c g1 g2)
  change pz_E _ _ _ _ _ _ _ _ _ _ _ _ _
  refine pe_aload_n d_Application_end_26 rfl ?_
  refine pe_getf d_Application_end_27 f_Application_26 hA rfl ?_
  -- 30: EntryTable_clear
  refine pe_callV d_Application_end_30 m_Application_59 j_EntryTable_clear v_EntryTable_clear (c_EntryTable_clear ht) rfl rfl (by simp [Value.category]) (by decide) ht.1 rfl rfl ?_
  intro v1 h1 z1 hq1
  obtain ⟨rfl, rfl, ht, hf1⟩ := hq1
  have hA := (hf1 a (by omega)).trans hA
  have hp1 := hp1.on (hf1.on (by omega))
  have hp2 := hp2.on (hf1.on (by omega))
  have hq := hq.on (hf1.on (by omega))
  have hf := hf.tr (hf1.wd (lo' := a) (hi' := a + 25) (by omega) (by omega))
  have hk9 : ∀ c, a + 1 ≤ c → c < a + 3 → h1 c = h c := fun c g1 g2 => (hf1 c (by omega)).trans (hk9 c g1 g2)
  change pz_E _ _ _ _ _ _ _ _ _ _ _ _ _
  refine pe_vret d_Application_end_33 rfl ?_
  exact ⟨rfl, rfl, hA, hp1, hp2, hq, ht, hk9, hf⟩
set_option maxHeartbeats 4000000 in
set_option maxRecDepth 20000 in
theorem c_Application_draft_k {l : Launch} {L : Nat} {xs : Nat → Int32} {h : pz_H} {z : Nat}  {a dr fl : Nat} {op mp : Bool} {fi lk : Nat} (hA : AOB a h dr fl op mp fi lk) (hdf : (dr = a + 15 ∧ fl = a + 20) ∨ (dr = a + 20 ∧ fl = a + 15)) {c1 o1 y1 n1 : Nat → Int32} {l1 : Nat} (hp1 : PRG dr h c1 o1 y1 n1 l1) {c2 o2 y2 n2 : Nat → Int32} {l2 : Nat} (hp2 : PRG fl h c2 o2 y2 n2 l2) : pz_K l L xs M_Application_draftBecomesFilter 1 0 0 [.ref a] h z (fun v h' z' => v = none ∧ z = z' ∧ AOB a h' fl dr op mp fi lk ∧ PRG dr h' c1 o1 y1 n1 l1 ∧ PRG fl h' c2 o2 y2 n2 0 ∧ (∀ c, a + 1 ≤ c → c < a + 15 → h' c = h c) ∧ frm a (a + 25) h h') := by
  have hA := id hA
  refine pz_K.of rfl (Nat.le_of_ble_eq_true rfl) ?_
  have hf : frm a (a + 25) h h := frm.rf
  have hk9 : ∀ c, a + 1 ≤ c → c < a + 15 → h c = h c := fun _ _ _ => rfl
  change pz_E l L xs M_Application_draftBecomesFilter 1 0 0 0 [some (.ref a), none] [] h z _
  refine pe_aload_n d_Application_draftBecomesFilter_0 rfl ?_
  refine pe_getf d_Application_draftBecomesFilter_1 f_Application_37 hA rfl ?_
  refine pe_astore_n d_Application_draftBecomesFilter_4 (by decide) rfl ?_
  dsimp only [List.set]
  refine pe_aload_n d_Application_draftBecomesFilter_5 rfl ?_
  refine pe_aload_n d_Application_draftBecomesFilter_6 rfl ?_
  refine pe_getf d_Application_draftBecomesFilter_7 f_Application_33 hA rfl ?_
  refine pe_put d_Application_draftBecomesFilter_10 g_Application_37 hA (Nat.le_of_ble_eq_true rfl) rfl ?_
  refine pe_pu (fun h2 e2 o2 => ?_)
  have hA := e2
  have hf := hf.st o2 (by omega) (by omega)
  have hp1 := hp1.on (fun c h1 h2 => o2 c (by omega))
  have hp2 := hp2.on (fun c h1 h2 => o2 c (by omega))
  have hk9 : ∀ c, a + 1 ≤ c → c < a + 15 → h2 c = h c := fun c g1 g2 => (o2 c (by omega)).trans (hk9 c g1 g2)
  refine pe_aload_n d_Application_draftBecomesFilter_13 rfl ?_
  refine pe_aload_n d_Application_draftBecomesFilter_14 rfl ?_
  refine pe_put d_Application_draftBecomesFilter_15 g_Application_33 hA (Nat.le_of_ble_eq_true rfl) rfl ?_
  refine pe_pu (fun h2 e2 o2 => ?_)
  have hA := e2
  have hf := hf.st o2 (by omega) (by omega)
  have hp1 := hp1.on (fun c h1 h2 => o2 c (by omega))
  have hp2 := hp2.on (fun c h1 h2 => o2 c (by omega))
  have hk9 : ∀ c, a + 1 ≤ c → c < a + 15 → h2 c = h c := fun c g1 g2 => (o2 c (by omega)).trans (hk9 c g1 g2)
  refine pe_aload_n d_Application_draftBecomesFilter_18 rfl ?_
  refine pe_getf d_Application_draftBecomesFilter_19 f_Application_33 hA rfl ?_
  -- 22: Program_clear
  refine pe_callV d_Application_draftBecomesFilter_22 m_Application_57 j_Program_clear v_Program_clear (c_Program_clear hp2) rfl rfl (by simp [Value.category]) (by decide) hp2.1 rfl rfl ?_
  intro v1 h1 z1 hq1
  obtain ⟨rfl, rfl, hp2, hf1⟩ := hq1
  have hA := (hf1 a (by omega)).trans hA
  have hp1 := hp1.on (hf1.on (by omega))
  have hf := hf.tr (hf1.wd (lo' := a) (hi' := a + 25) (by omega) (by omega))
  have hk9 : ∀ c, a + 1 ≤ c → c < a + 15 → h1 c = h c := fun c g1 g2 => (hf1 c (by omega)).trans (hk9 c g1 g2)
  change pz_E _ _ _ _ _ _ _ _ _ _ _ _ _
  refine pe_vret d_Application_draftBecomesFilter_25 rfl ?_
  exact ⟨rfl, rfl, hA, hp1, hp2, hk9, hf⟩
set_option maxHeartbeats 4000000 in
set_option maxRecDepth 20000 in
theorem c_K_close_k {l : Launch} {L : Nat} {xs : Nat → Int32} {h : pz_H} {z : Nat} {lost : Nat} (hK : KOB h lost) {dr fl : Nat → Nat} {op mp : Nat → Bool} {fi lk : Nat → Nat} (hap : ∀ i, i < 6 → AOB (16 + 25 * i) h (dr i) (fl i) (op i) (mp i) (fi i) (lk i)) {np : Nat} {mw mo mr mt : Nat → Int32} {mn : Nat → Bool} {md : Nat → Int32} {ts ck : Nat} (hm : MEM h np mw mo mr mt mn md ts ck) {nb : Nat} {dw dn : Nat → Int32} (hd : DSK h nb dw dn) {os : Nat → Int32} {ol : Nat} (ho : ORD h os ol) {a : Nat} (ha : a < 6) (hyes : opn op (nI a) = true) (hdf : (dr a = 16 + 25 * a + 15 ∧ fl a = 16 + 25 * a + 20) ∨ (dr a = 16 + 25 * a + 20 ∧ fl a = 16 + 25 * a + 15)) {c1 o1 y1 n1 : Nat → Int32} {l1 : Nat} (hp1 : PRG (dr a) h c1 o1 y1 n1 l1) {c2 o2 y2 n2 : Nat → Int32} {l2 : Nat} (hp2 : PRG (fl a) h c2 o2 y2 n2 l2) {qb : Nat → Nat → Int32} {qn : Nat → Nat} {qf ql : Nat} (hq : QUE (16 + 25 * a + 3) h qb qn qf ql) {td : Nat → Int32} {tl : Nat} (ht : TAB (16 + 25 * a + 13) h td tl) : pz_K l L xs M_K_close 3 0 0 [.ref 0, .int (nI a)] h z (fun v h' z' => v = some (.int (nI 0)) ∧ z = z' ∧ MEM h' np mw (fgO mo (nI a) np) (fgR mo mr (nI a) a np) mt (fgN mo mn (nI a) np) md ts ck ∧ DSK h' nb dw (frA dn (nI a) nb) ∧ ORD h' (dro os ol (nI a)) (drl os ol (nI a)) ∧ AOB (16 + 25 * a) h' (dr a) (fl a) false (mp a) (fi a) (lk a) ∧ PRG (dr a) h' c1 o1 y1 n1 0 ∧ PRG (fl a) h' c2 o2 y2 n2 0 ∧ QUE (16 + 25 * a + 3) h' qb qn qf 0 ∧ TAB (16 + 25 * a + 13) h' td 0 ∧ (∀ c, 16 + 25 * a + 1 ≤ c → c < 16 + 25 * a + 3 → h' c = h c) ∧ fr2 1 13 (16 + 25 * a) (16 + 25 * a + 25) h h') := by
  refine pz_K.of rfl (Nat.le_of_ble_eq_true rfl) ?_
  have hA := hap a ha
  change pz_E l L xs M_K_close 3 0 0 0 [some (.ref 0), some (.int (nI a))] [] h z _
  refine pe_aload_n d_K_close_0 rfl ?_
  refine pe_iload_n d_K_close_1 rfl ?_
  -- 2: K_isOpen
  refine pe_callV d_K_close_2 m_K_84 j_K_isOpen v_K_isOpen (c_K_isOpen hK hap _) rfl rfl (by simp [Value.category]) (by decide) hK.1 rfl rfl ?_
  intro v1 h1 z1 hq1
  obtain ⟨rfl, rfl, rfl⟩ := hq1
  change pz_E _ _ _ _ _ _ _ _ _ (_ :: _) _ _ _
  refine pe_if_ne (tgt := 10) d_K_close_5 (by decide) (fun c_5 => ?_) (fun c_5 => ?_)
  · have c_5 := pb_n0.mp c_5
    refine pe_aload_n d_K_close_10 rfl ?_
    refine pe_getf d_K_close_11 f_K_18 hK.1 rfl ?_
    refine pe_iload_n d_K_close_14 rfl ?_
    -- 15: Memory_forget
    refine pe_callV d_K_close_15 m_K_86 j_Memory_forget v_Memory_forget (c_Memory_forget hm ha) rfl rfl (by simp [Value.category]) (by decide) hm.1 rfl rfl ?_
    intro v1 h1 z1 hq1
    obtain ⟨rfl, rfl, hm, hf1⟩ := hq1
    have hK := hK.on (hf1.on (by omega)) (hf1.on (by omega))
    have hA := hA.on (hf1.on (by omega))
    have hd := hd.on (hf1.on (by omega))
    have ho := ho.on (hf1.on (by omega))
    have hp1 := hp1.on (hf1.on (by omega))
    have hp2 := hp2.on (hf1.on (by omega))
    have hq := hq.on (hf1.on (by omega))
    have ht := ht.on (hf1.on (by omega))
    change pz_E _ _ _ _ _ _ _ _ _ _ _ _ _
    refine pe_aload_n d_K_close_18 rfl ?_
    refine pe_getf d_K_close_19 f_K_25 hK.1 rfl ?_
    refine pe_iload_n d_K_close_22 rfl ?_
    -- 23: Disk_freeAllOf
    refine pe_callV d_K_close_23 m_K_89 j_Disk_freeAllOf v_Disk_freeAllOf (c_Disk_freeAllOf hd _) rfl rfl (by simp [Value.category]) (by decide) hd.1 rfl rfl ?_
    intro v2 h2 z2 hq2
    obtain ⟨rfl, rfl, hd, hf2⟩ := hq2
    have hK := hK.on (hf2.on (by omega)) (hf2.on (by omega))
    have hA := hA.on (hf2.on (by omega))
    have hm := hm.on (hf2.on (by omega))
    have ho := ho.on (hf2.on (by omega))
    have hp1 := hp1.on (hf2.on (by omega))
    have hp2 := hp2.on (hf2.on (by omega))
    have hq := hq.on (hf2.on (by omega))
    have ht := ht.on (hf2.on (by omega))
    change pz_E _ _ _ _ _ _ _ _ _ _ _ _ _
    refine pe_aload_n d_K_close_26 rfl ?_
    refine pe_getf d_K_close_27 f_K_32 hK.1 rfl ?_
    refine pe_iload_n d_K_close_30 rfl ?_
    -- 31: FilterOrder_drop
    refine pe_callV d_K_close_31 m_K_92 j_FilterOrder_drop v_FilterOrder_drop (c_FilterOrder_drop ho _) rfl rfl (by simp [Value.category]) (by decide) ho.1 rfl rfl ?_
    intro v3 h3 z3 hq3
    obtain ⟨rfl, rfl, ho, hf3⟩ := hq3
    have hK := hK.on (hf3.on (by omega)) (hf3.on (by omega))
    have hA := hA.on (hf3.on (by omega))
    have hm := hm.on (hf3.on (by omega))
    have hd := hd.on (hf3.on (by omega))
    have hp1 := hp1.on (hf3.on (by omega))
    have hp2 := hp2.on (hf3.on (by omega))
    have hq := hq.on (hf3.on (by omega))
    have ht := ht.on (hf3.on (by omega))
    change pz_E _ _ _ _ _ _ _ _ _ _ _ _ _
    refine pe_aload_n d_K_close_34 rfl ?_
    refine pe_getf d_K_close_35 f_K_49 hK.1 rfl ?_
    refine pe_iload_n d_K_close_38 rfl ?_
    refine pe_aaldN d_K_close_39 rfl hK.2 (by omega) (by omega) rfl ?_
    -- 40: Application_end
    refine pe_callV d_K_close_40 m_K_95 j_Application_end v_Application_end (c_Application_end_k hA hdf hp1 hp2 hq ht) rfl rfl (by simp [Value.category]) (by decide) hA rfl rfl ?_
    intro v4 h4 z4 hq4
    obtain ⟨rfl, rfl, hA, hp1, hp2, hq, ht, hk9, hf4⟩ := hq4
    have hk9 : ∀ c, 16 + 25 * a + 1 ≤ c → c < 16 + 25 * a + 3 → h4 c = h c := fun c g1 g2 => (hk9 c g1 g2).trans ((hf3 c (by omega)).trans ((hf2 c (by omega)).trans (hf1 c (by omega))))
    have hm := hm.on (hf4.on (by omega))
    have hd := hd.on (hf4.on (by omega))
    have ho := ho.on (hf4.on (by omega))
    have hfr : fr2 1 13 (16 + 25 * a) (16 + 25 * a + 25) h h4 := (((fr2.rf.l (hf1.wd (by omega) (by omega))).l (hf2.wd (by omega) (by omega))).l (hf3.wd (by omega) (by omega))).r hf4
    change pz_E _ _ _ _ _ _ _ _ _ _ _ _ _
    refine pe_iconst (v := nI 0) d_K_close_43 (by decide) ?_
    refine pe_iret d_K_close_44 rfl ?_
    exact ⟨rfl, rfl, hm, hd, ho, hA, hp1, hp2, hq, ht, hk9, hfr⟩
  · have c_5 := pb_0.mp c_5
    exact absurd (c_5.symm.trans hyes) (by decide)
set_option maxHeartbeats 4000000 in
set_option maxRecDepth 20000 in
theorem c_K_install_0k {l : Launch} {L : Nat} {xs : Nat → Int32} {h : pz_H} {z : Nat} {lost : Nat} (hK : KOB h lost) {dr fl : Nat → Nat} {op mp : Nat → Bool} {fi lk : Nat → Nat} (hap : ∀ i, i < 6 → AOB (16 + 25 * i) h (dr i) (fl i) (op i) (mp i) (fi i) (lk i)) {os : Nat → Int32} {ol : Nat} (ho : ORD h os ol) {a : Nat} (ha : a < 6) (hyes : opn op (nI a) = true) (hdf : (dr a = 16 + 25 * a + 15 ∧ fl a = 16 + 25 * a + 20) ∨ (dr a = 16 + 25 * a + 20 ∧ fl a = 16 + 25 * a + 15)) {c1 o1 y1 n1 : Nat → Int32} {l1 : Nat} (hp1 : PRG (dr a) h c1 o1 y1 n1 l1) {c2 o2 y2 n2 : Nat → Int32} {l2 : Nat} (hp2 : PRG (fl a) h c2 o2 y2 n2 l2) {yy nn : Nat → Nat} (hyy : ∀ j, j < l1 → y1 j = nI (yy j) ∧ yy j ≤ 15) (hnn : ∀ j, j < l1 → n1 j = nI (nn j) ∧ nn j ≤ 15) (hgood : ¬ ff (bad c1 yy nn l1) l1 0 < l1) (h0 : l1 = 0) : pz_K l L xs M_K_install 3 0 0 [.ref 0, .int (nI a)] h z (fun v h' z' => v = some (.int (nI 0)) ∧ z = z' ∧ ORD h' (dro os ol (nI a)) (drl os ol (nI a)) ∧ AOB (16 + 25 * a) h' (fl a) (dr a) (op a) (mp a) (fi a) (lk a) ∧ PRG (dr a) h' c1 o1 y1 n1 l1 ∧ PRG (fl a) h' c2 o2 y2 n2 0 ∧ (∀ c, 16 + 25 * a + 1 ≤ c → c < 16 + 25 * a + 15 → h' c = h c) ∧ fr2 11 13 (16 + 25 * a) (16 + 25 * a + 25) h h') := by
  refine pz_K.of rfl (Nat.le_of_ble_eq_true rfl) ?_
  have hA := hap a ha
  change pz_E l L xs M_K_install 3 0 0 0 [some (.ref 0), some (.int (nI a))] [] h z _
  refine pe_aload_n d_K_install_0 rfl ?_
  refine pe_iload_n d_K_install_1 rfl ?_
  -- 2: K_isOpen
  refine pe_callV d_K_install_2 m_K_84 j_K_isOpen v_K_isOpen (c_K_isOpen hK hap _) rfl rfl (by simp [Value.category]) (by decide) hK.1 rfl rfl ?_
  intro v1 h1 z1 hq1
  obtain ⟨rfl, rfl, rfl⟩ := hq1
  change pz_E _ _ _ _ _ _ _ _ _ (_ :: _) _ _ _
  refine pe_if_ne (tgt := 10) d_K_install_5 (by decide) (fun c_5 => ?_) (fun c_5 => ?_)
  · have c_5 := pb_n0.mp c_5
    refine pe_aload_n d_K_install_10 rfl ?_
    refine pe_getf d_K_install_11 f_K_49 hK.1 rfl ?_
    refine pe_iload_n d_K_install_14 rfl ?_
    refine pe_aaldN d_K_install_15 rfl hK.2 (by omega) (by omega) rfl ?_
    refine pe_getf d_K_install_16 f_K_161 hA rfl ?_
    -- 19: Program_isSound
    refine pe_callV d_K_install_19 m_K_174 j_Program_isSound v_Program_isSound (c_Program_isSound hp1 hyy hnn) rfl rfl (by simp [Value.category]) (by decide) hp1.1 rfl rfl ?_
    intro v1 h1 z1 hq1
    obtain ⟨rfl, rfl, rfl⟩ := hq1
    rw [Nat.sub_zero]
    change pz_E _ _ _ _ _ _ _ _ _ (_ :: _) _ _ _
    refine pe_if_ne (tgt := 40) d_K_install_22 (by decide) (fun c_22 => ?_) (fun c_22 => ?_)
    · have c_22 := pb_n0.mp c_22
      refine pe_aload_n d_K_install_40 rfl ?_
      refine pe_getf d_K_install_41 f_K_32 hK.1 rfl ?_
      refine pe_iload_n d_K_install_44 rfl ?_
      -- 45: FilterOrder_drop
      refine pe_callV d_K_install_45 m_K_92 j_FilterOrder_drop v_FilterOrder_drop (c_FilterOrder_drop ho _) rfl rfl (by simp [Value.category]) (by decide) ho.1 rfl rfl ?_
      intro v3 h3 z3 hq3
      obtain ⟨rfl, rfl, ho, hf3⟩ := hq3
      have hK := hK.on (hf3.on (by omega)) (hf3.on (by omega))
      have hA := hA.on (hf3.on (by omega))
      have hp1 := hp1.on (hf3.on (by omega))
      have hp2 := hp2.on (hf3.on (by omega))
      have hfr := (fr2.rf (lo := 11) (hi := 13) (lo2 := 16 + 25 * a) (hi2 := 16 + 25 * a + 25) (h := h)).l hf3
      change pz_E _ _ _ _ _ _ _ _ _ _ _ _ _
      refine pe_aload_n d_K_install_48 rfl ?_
      refine pe_getf d_K_install_49 f_K_49 hK.1 rfl ?_
      refine pe_iload_n d_K_install_52 rfl ?_
      refine pe_aaldN d_K_install_53 rfl hK.2 (by omega) (by omega) rfl ?_
      refine pe_getf d_K_install_54 f_K_161 hA rfl ?_
      refine pe_getf d_K_install_57 f_K_171 hp1.1 rfl ?_
      refine pe_if_le (tgt := 71) d_K_install_60 (by decide) (fun c_60 => ?_) (fun c_60 => ?_)
      · refine pe_aload_n d_K_install_71 rfl ?_
        refine pe_getf d_K_install_72 f_K_49 hK.1 rfl ?_
        refine pe_iload_n d_K_install_75 rfl ?_
        refine pe_aaldN d_K_install_76 rfl hK.2 (by omega) (by omega) rfl ?_
        -- 77: Application_draftBecomesFilter
        refine pe_callV d_K_install_77 m_K_181 j_Application_draftBecomesFilter v_Application_draftBecomesFilter (c_Application_draft_k hA hdf hp1 hp2) rfl rfl (by simp [Value.category]) (by decide) hA rfl rfl ?_
        intro v5 h5 z5 hq5
        obtain ⟨rfl, rfl, hA, hp1, hp2, hk9, hf5⟩ := hq5
        have hk9 : ∀ c, 16 + 25 * a + 1 ≤ c → c < 16 + 25 * a + 15 → h5 c = h c := fun c g1 g2 => (hk9 c g1 g2).trans ((hf3 c (by omega)))
        have ho := ho.on (hf5.on (by omega))
        have hfr := hfr.r hf5
        change pz_E _ _ _ _ _ _ _ _ _ _ _ _ _
        refine pe_iconst (v := nI 0) d_K_install_80 (by decide) ?_
        refine pe_iret d_K_install_81 rfl ?_
        exact ⟨rfl, rfl, ho, hA, hp1, hp2, hk9, hfr⟩
      · exact absurd (by rw [h0]; decide) c_60
    · have c_22 := pb_0.mp c_22
      exact absurd (of_decide_eq_false c_22) (fun e => e hgood)
  · have c_5 := pb_0.mp c_5
    exact absurd (c_5.symm.trans hyes) (by decide)
set_option maxHeartbeats 4000000 in
set_option maxRecDepth 20000 in
theorem c_K_install_nk {l : Launch} {L : Nat} {xs : Nat → Int32} {h : pz_H} {z : Nat} {lost : Nat} (hK : KOB h lost) {dr fl : Nat → Nat} {op mp : Nat → Bool} {fi lk : Nat → Nat} (hap : ∀ i, i < 6 → AOB (16 + 25 * i) h (dr i) (fl i) (op i) (mp i) (fi i) (lk i)) {os : Nat → Int32} {ol : Nat} (ho : ORD h os ol) {a : Nat} (ha : a < 6) (hyes : opn op (nI a) = true) (hdf : (dr a = 16 + 25 * a + 15 ∧ fl a = 16 + 25 * a + 20) ∨ (dr a = 16 + 25 * a + 20 ∧ fl a = 16 + 25 * a + 15)) {c1 o1 y1 n1 : Nat → Int32} {l1 : Nat} (hp1 : PRG (dr a) h c1 o1 y1 n1 l1) {c2 o2 y2 n2 : Nat → Int32} {l2 : Nat} (hp2 : PRG (fl a) h c2 o2 y2 n2 l2) {yy nn : Nat → Nat} (hyy : ∀ j, j < l1 → y1 j = nI (yy j) ∧ yy j ≤ 15) (hnn : ∀ j, j < l1 → n1 j = nI (nn j) ∧ nn j ≤ 15) (hgood : ¬ ff (bad c1 yy nn l1) l1 0 < l1) (h0 : 0 < l1) (hdl : drl os ol (nI a) < 6) : pz_K l L xs M_K_install 3 0 0 [.ref 0, .int (nI a)] h z (fun v h' z' => v = some (.int (nI 0)) ∧ z = z' ∧ ORD h' (upd (dro os ol (nI a)) (drl os ol (nI a)) (nI a)) (drl os ol (nI a) + 1) ∧ AOB (16 + 25 * a) h' (fl a) (dr a) (op a) (mp a) (fi a) (lk a) ∧ PRG (dr a) h' c1 o1 y1 n1 l1 ∧ PRG (fl a) h' c2 o2 y2 n2 0 ∧ (∀ c, 16 + 25 * a + 1 ≤ c → c < 16 + 25 * a + 15 → h' c = h c) ∧ fr2 11 13 (16 + 25 * a) (16 + 25 * a + 25) h h') := by
  refine pz_K.of rfl (Nat.le_of_ble_eq_true rfl) ?_
  have hA := hap a ha
  change pz_E l L xs M_K_install 3 0 0 0 [some (.ref 0), some (.int (nI a))] [] h z _
  refine pe_aload_n d_K_install_0 rfl ?_
  refine pe_iload_n d_K_install_1 rfl ?_
  -- 2: K_isOpen
  refine pe_callV d_K_install_2 m_K_84 j_K_isOpen v_K_isOpen (c_K_isOpen hK hap _) rfl rfl (by simp [Value.category]) (by decide) hK.1 rfl rfl ?_
  intro v1 h1 z1 hq1
  obtain ⟨rfl, rfl, rfl⟩ := hq1
  change pz_E _ _ _ _ _ _ _ _ _ (_ :: _) _ _ _
  refine pe_if_ne (tgt := 10) d_K_install_5 (by decide) (fun c_5 => ?_) (fun c_5 => ?_)
  · have c_5 := pb_n0.mp c_5
    refine pe_aload_n d_K_install_10 rfl ?_
    refine pe_getf d_K_install_11 f_K_49 hK.1 rfl ?_
    refine pe_iload_n d_K_install_14 rfl ?_
    refine pe_aaldN d_K_install_15 rfl hK.2 (by omega) (by omega) rfl ?_
    refine pe_getf d_K_install_16 f_K_161 hA rfl ?_
    -- 19: Program_isSound
    refine pe_callV d_K_install_19 m_K_174 j_Program_isSound v_Program_isSound (c_Program_isSound hp1 hyy hnn) rfl rfl (by simp [Value.category]) (by decide) hp1.1 rfl rfl ?_
    intro v1 h1 z1 hq1
    obtain ⟨rfl, rfl, rfl⟩ := hq1
    rw [Nat.sub_zero]
    change pz_E _ _ _ _ _ _ _ _ _ (_ :: _) _ _ _
    refine pe_if_ne (tgt := 40) d_K_install_22 (by decide) (fun c_22 => ?_) (fun c_22 => ?_)
    · have c_22 := pb_n0.mp c_22
      refine pe_aload_n d_K_install_40 rfl ?_
      refine pe_getf d_K_install_41 f_K_32 hK.1 rfl ?_
      refine pe_iload_n d_K_install_44 rfl ?_
      -- 45: FilterOrder_drop
      refine pe_callV d_K_install_45 m_K_92 j_FilterOrder_drop v_FilterOrder_drop (c_FilterOrder_drop ho _) rfl rfl (by simp [Value.category]) (by decide) ho.1 rfl rfl ?_
      intro v3 h3 z3 hq3
      obtain ⟨rfl, rfl, ho, hf3⟩ := hq3
      have hK := hK.on (hf3.on (by omega)) (hf3.on (by omega))
      have hA := hA.on (hf3.on (by omega))
      have hp1 := hp1.on (hf3.on (by omega))
      have hp2 := hp2.on (hf3.on (by omega))
      have hfr := (fr2.rf (lo := 11) (hi := 13) (lo2 := 16 + 25 * a) (hi2 := 16 + 25 * a + 25) (h := h)).l hf3
      change pz_E _ _ _ _ _ _ _ _ _ _ _ _ _
      refine pe_aload_n d_K_install_48 rfl ?_
      refine pe_getf d_K_install_49 f_K_49 hK.1 rfl ?_
      refine pe_iload_n d_K_install_52 rfl ?_
      refine pe_aaldN d_K_install_53 rfl hK.2 (by omega) (by omega) rfl ?_
      refine pe_getf d_K_install_54 f_K_161 hA rfl ?_
      refine pe_getf d_K_install_57 f_K_171 hp1.1 rfl ?_
      refine pe_if_le (tgt := 71) d_K_install_60 (by decide) (fun c_60 => ?_) (fun c_60 => ?_)
      · exact absurd c_60 (nI_nle h0 (by have := hp1.2.2.2.2.2; omega))
      · refine pe_aload_n d_K_install_63 rfl ?_
        refine pe_getf d_K_install_64 f_K_32 hK.1 rfl ?_
        refine pe_iload_n d_K_install_67 rfl ?_
        -- 68: FilterOrder_append
        refine pe_callV d_K_install_68 m_K_180 j_FilterOrder_append v_FilterOrder_append (c_FilterOrder_append ho _ hdl) rfl rfl (by simp [Value.category]) (by decide) ho.1 rfl rfl ?_
        intro v4 h4 z4 hq4
        obtain ⟨rfl, rfl, ho, hf4⟩ := hq4
        have hK := hK.on (hf4.on (by omega)) (hf4.on (by omega))
        have hA := hA.on (hf4.on (by omega))
        have hp1 := hp1.on (hf4.on (by omega))
        have hp2 := hp2.on (hf4.on (by omega))
        have hfr := hfr.l hf4
        change pz_E _ _ _ _ _ _ _ _ _ _ _ _ _
        refine pe_aload_n d_K_install_71 rfl ?_
        refine pe_getf d_K_install_72 f_K_49 hK.1 rfl ?_
        refine pe_iload_n d_K_install_75 rfl ?_
        refine pe_aaldN d_K_install_76 rfl hK.2 (by omega) (by omega) rfl ?_
        -- 77: Application_draftBecomesFilter
        refine pe_callV d_K_install_77 m_K_181 j_Application_draftBecomesFilter v_Application_draftBecomesFilter (c_Application_draft_k hA hdf hp1 hp2) rfl rfl (by simp [Value.category]) (by decide) hA rfl rfl ?_
        intro v5 h5 z5 hq5
        obtain ⟨rfl, rfl, hA, hp1, hp2, hk9, hf5⟩ := hq5
        have hk9 : ∀ c, 16 + 25 * a + 1 ≤ c → c < 16 + 25 * a + 15 → h5 c = h c := fun c g1 g2 => (hk9 c g1 g2).trans ((hf4 c (by omega)).trans (hf3 c (by omega)))
        have ho := ho.on (hf5.on (by omega))
        have hfr := hfr.r hf5
        change pz_E _ _ _ _ _ _ _ _ _ _ _ _ _
        refine pe_iconst (v := nI 0) d_K_install_80 (by decide) ?_
        refine pe_iret d_K_install_81 rfl ?_
        exact ⟨rfl, rfl, ho, hA, hp1, hp2, hk9, hfr⟩
    · have c_22 := pb_0.mp c_22
      exact absurd (of_decide_eq_false c_22) (fun e => e hgood)
  · have c_5 := pb_0.mp c_5
    exact absurd (c_5.symm.trans hyes) (by decide)
