/-! the blocks, the order of filters: contracts of Disk, FilterOrder -/
theorem fil_g {f g g' : Nat → Int32} {lo k : Nat} (h : ∀ j, lo ≤ j → j < lo + k → g j = g' j) : fil f g lo k = fil f g' lo k := by
  funext j
  unfold fil
  by_cases e : lo ≤ j ∧ j < lo + k
  · rw [if_pos e, if_pos e, h j e.1 e.2]
  · rw [if_neg e, if_neg e]
/-- what a new block's words hold: LINK words from fi on, lk of them -/
def lkw (b fi lk : Nat) : Nat → Int32 := fun j => if fi ≤ j - b * 8 ∧ j - b * 8 < fi + lk then -1 else 0
/-- the blocks of x among those below i are free -/
def frA (dn : Nat → Int32) (x : Int32) (i : Nat) : Nat → Int32 := fun j => if j < i ∧ dn j = x then -1 else dn j
theorem frA_0 (dn : Nat → Int32) (x : Int32) : frA dn x 0 = dn := by funext j; simp [frA]
theorem frA_i (dn : Nat → Int32) (x : Int32) (i : Nat) : frA dn x i i = dn i := by simp [frA]
theorem frA_y {dn : Nat → Int32} {x : Int32} {i : Nat} (hx : dn i = x) : upd (frA dn x i) i (-1) = frA dn x (i + 1) := by
  funext j
  by_cases e : j = i
  · subst e; simp [upd, frA, hx]
  · have h1 : (j < i) ↔ (j < i + 1) := by omega
    simp [upd, frA, e, h1]
theorem frA_n {dn : Nat → Int32} {x : Int32} {i : Nat} (hx : ¬ dn i = x) : frA dn x i = frA dn x (i + 1) := by
  funext j
  by_cases e : j = i
  · subst e; simp [frA, hx]
  · have h1 : (j < i) ↔ (j < i + 1) := by omega
    simp [frA, h1]
set_option maxHeartbeats 4000000 in
set_option maxRecDepth 20000 in
theorem c_Disk_hasBlock {l : Launch} {L : Nat} {xs : Nat → Int32} {h : pz_H} {z : Nat}  {nb : Nat} {dw dn : Nat → Int32} (hd : DSK h nb dw dn) (x : Int32) : pz_K l L xs M_Disk_hasBlock 0 0 0 [.ref 8, .int x] h z (fun v h' z' => v = some (.int (pb (decide (¬ x < 0 ∧ ¬ nI nb ≤ x)))) ∧ h = h' ∧ z = z') := by
  obtain ⟨hDS, hDW, hDO, hb1, hb2⟩ := id hd
  refine pz_K.of rfl (Nat.le_of_ble_eq_true rfl) ?_
  change pz_E l L xs M_Disk_hasBlock 0 0 0 0 [some (.ref 8), some (.int x)] [] h z _
  refine pe_iload_n d_Disk_hasBlock_0 rfl ?_
  refine pe_if_lt (tgt := 16) d_Disk_hasBlock_1 (by decide) (fun c_1 => ?_) (fun c_1 => ?_)
  · refine pe_iconst (v := nI 0) d_Disk_hasBlock_16 (by decide) ?_
    refine pe_zret d_Disk_hasBlock_17 rfl (by decide) ?_
    exact ⟨pb_no (fun q => by first | exact q.1 c_1 | exact q.2 c_9), rfl, rfl⟩
  · refine pe_iload_n d_Disk_hasBlock_4 rfl ?_
    refine pe_aload_n d_Disk_hasBlock_5 rfl ?_
    refine pe_getf d_Disk_hasBlock_6 f_Disk_9 hDS rfl ?_
    refine pe_icmp_ge (tgt := 16) d_Disk_hasBlock_9 (by decide) (fun c_9 => ?_) (fun c_9 => ?_)
    · refine pe_iconst (v := nI 0) d_Disk_hasBlock_16 (by decide) ?_
      refine pe_zret d_Disk_hasBlock_17 rfl (by decide) ?_
      exact ⟨pb_no (fun q => by first | exact q.1 c_1 | exact q.2 c_9), rfl, rfl⟩
    · refine pe_iconst (v := nI 1) d_Disk_hasBlock_12 (by decide) ?_
      refine pe_goto (tgt := 17) d_Disk_hasBlock_13 (by decide) ?_
      refine pe_zret d_Disk_hasBlock_17 rfl (by decide) ?_
      exact ⟨pb_yes ⟨c_1, c_9⟩, rfl, rfl⟩
set_option maxHeartbeats 4000000 in
set_option maxRecDepth 20000 in
theorem c_Disk_ownerOf {l : Launch} {L : Nat} {xs : Nat → Int32} {h : pz_H} {z : Nat}  {nb : Nat} {dw dn : Nat → Int32} (hd : DSK h nb dw dn) {b : Nat} (hb : b < nb) : pz_K l L xs M_Disk_ownerOf 0 0 0 [.ref 8, .int (nI b)] h z (fun v h' z' => v = some (.int (dn b)) ∧ h = h' ∧ z = z') := by
  obtain ⟨hDS, hDW, hDO, hb1, hb2⟩ := id hd
  refine pz_K.of rfl (Nat.le_of_ble_eq_true rfl) ?_
  change pz_E l L xs M_Disk_ownerOf 0 0 0 0 [some (.ref 8), some (.int (nI b))] [] h z _
  refine pe_aload_n d_Disk_ownerOf_0 rfl ?_
  refine pe_getf d_Disk_ownerOf_1 f_Disk_19 hDS rfl ?_
  refine pe_iload_n d_Disk_ownerOf_4 rfl ?_
  refine pe_ialdN d_Disk_ownerOf_5 hDO (by omega) (by omega) ?_
  refine pe_iret d_Disk_ownerOf_6 rfl ?_
  exact ⟨rfl, rfl, rfl⟩
set_option maxHeartbeats 4000000 in
set_option maxRecDepth 20000 in
theorem c_Disk_isFree {l : Launch} {L : Nat} {xs : Nat → Int32} {h : pz_H} {z : Nat}  {nb : Nat} {dw dn : Nat → Int32} (hd : DSK h nb dw dn) {b : Nat} (hb : b < nb) : pz_K l L xs M_Disk_isFree 0 0 0 [.ref 8, .int (nI b)] h z (fun v h' z' => v = some (.int (pb (decide (dn b = -1)))) ∧ h = h' ∧ z = z') := by
  obtain ⟨hDS, hDW, hDO, hb1, hb2⟩ := id hd
  refine pz_K.of rfl (Nat.le_of_ble_eq_true rfl) ?_
  change pz_E l L xs M_Disk_isFree 0 0 0 0 [some (.ref 8), some (.int (nI b))] [] h z _
  refine pe_aload_n d_Disk_isFree_0 rfl ?_
  refine pe_getf d_Disk_isFree_1 f_Disk_19 hDS rfl ?_
  refine pe_iload_n d_Disk_isFree_4 rfl ?_
  refine pe_ialdN d_Disk_isFree_5 hDO (by omega) (by omega) ?_
  refine pe_iconst (v := -1) d_Disk_isFree_6 (by decide) ?_
  refine pe_icmp_ne (tgt := 14) d_Disk_isFree_7 (by decide) (fun c_7 => ?_) (fun c_7 => ?_)
  · refine pe_iconst (v := nI 0) d_Disk_isFree_14 (by decide) ?_
    refine pe_zret d_Disk_isFree_15 rfl (by decide) ?_
    exact ⟨pb_no (fun q => by first | exact c_7 q), rfl, rfl⟩
  · refine pe_iconst (v := nI 1) d_Disk_isFree_10 (by decide) ?_
    refine pe_goto (tgt := 15) d_Disk_isFree_11 (by decide) ?_
    refine pe_zret d_Disk_isFree_15 rfl (by decide) ?_
    exact ⟨pb_yes c_7, rfl, rfl⟩
set_option maxHeartbeats 4000000 in
set_option maxRecDepth 20000 in
theorem c_Disk_wordOf {l : Launch} {L : Nat} {xs : Nat → Int32} {h : pz_H} {z : Nat}  {nb : Nat} {dw dn : Nat → Int32} (hd : DSK h nb dw dn) {b q : Nat} (hb : b < nb) (hq : q < 8) : pz_K l L xs M_Disk_wordOf 0 0 0 [.ref 8, .int (nI b), .int (nI q)] h z (fun v h' z' => v = some (.int (dw (b * 8 + q))) ∧ h = h' ∧ z = z') := by
  obtain ⟨hDS, hDW, hDO, hb1, hb2⟩ := id hd
  refine pz_K.of rfl (Nat.le_of_ble_eq_true rfl) ?_
  change pz_E l L xs M_Disk_wordOf 0 0 0 0 [some (.ref 8), some (.int (nI b)), some (.int (nI q))] [] h z _
  refine pe_aload_n d_Disk_wordOf_0 rfl ?_
  refine pe_getf d_Disk_wordOf_1 f_Disk_15 hDS rfl ?_
  refine pe_iload_n d_Disk_wordOf_4 rfl ?_
  refine pe_bipush (v := nI 8) d_Disk_wordOf_5 (by decide) ?_
  refine pe_imulN d_Disk_wordOf_7 ?_
  refine pe_iload_n d_Disk_wordOf_8 rfl ?_
  refine pe_iaddN d_Disk_wordOf_9 ?_
  refine pe_ialdN d_Disk_wordOf_10 hDW (by omega) (by omega) ?_
  refine pe_iret d_Disk_wordOf_11 rfl ?_
  exact ⟨rfl, rfl, rfl⟩
set_option maxHeartbeats 4000000 in
set_option maxRecDepth 20000 in
theorem c_Disk_setWord {l : Launch} {L : Nat} {xs : Nat → Int32} {h : pz_H} {z : Nat}  {nb : Nat} {dw dn : Nat → Int32} (hd : DSK h nb dw dn) {b q : Nat} (hb : b < nb) (hq : q < 8) (x : Int32) : pz_K l L xs M_Disk_setWord 0 0 0 [.ref 8, .int (nI b), .int (nI q), .int x] h z (fun v h' z' => v = none ∧ z = z' ∧ DSK h' nb (upd dw (b * 8 + q) x) dn ∧ frm 8 11 h h') := by
  obtain ⟨hDS, hDW, hDO, hb1, hb2⟩ := id hd
  have hf : frm 8 11 h h := frm.rf
  refine pz_K.of rfl (Nat.le_of_ble_eq_true rfl) ?_
  change pz_E l L xs M_Disk_setWord 0 0 0 0 [some (.ref 8), some (.int (nI b)), some (.int (nI q)), some (.int x)] [] h z _
  refine pe_aload_n d_Disk_setWord_0 rfl ?_
  refine pe_getf d_Disk_setWord_1 f_Disk_15 hDS rfl ?_
  refine pe_iload_n d_Disk_setWord_4 rfl ?_
  refine pe_bipush (v := nI 8) d_Disk_setWord_5 (by decide) ?_
  refine pe_imulN d_Disk_setWord_7 ?_
  refine pe_iload_n d_Disk_setWord_8 rfl ?_
  refine pe_iaddN d_Disk_setWord_9 ?_
  refine pe_iload_n d_Disk_setWord_10 rfl ?_
  refine pe_iastN d_Disk_setWord_11 hDW (by omega) (by omega) ?_
  refine pe_pu (fun h2 e2 o2 => ?_)
  have hDS := (o2 (8) (by omega)).trans hDS
  have hDW := e2
  have hDO := (o2 (10) (by omega)).trans hDO
  have hf := hf.st o2 (by omega) (by omega)
  refine pe_vret d_Disk_setWord_12 rfl ?_
  exact ⟨rfl, rfl, ⟨hDS, hDW, hDO, hb1, hb2⟩, hf⟩
set_option maxHeartbeats 4000000 in
set_option maxRecDepth 20000 in
theorem c_Disk_free {l : Launch} {L : Nat} {xs : Nat → Int32} {h : pz_H} {z : Nat}  {nb : Nat} {dw dn : Nat → Int32} (hd : DSK h nb dw dn) {b : Nat} (hb : b < nb) : pz_K l L xs M_Disk_free 0 0 0 [.ref 8, .int (nI b)] h z (fun v h' z' => v = none ∧ z = z' ∧ DSK h' nb dw (upd dn b (-1)) ∧ frm 8 11 h h') := by
  obtain ⟨hDS, hDW, hDO, hb1, hb2⟩ := id hd
  have hf : frm 8 11 h h := frm.rf
  refine pz_K.of rfl (Nat.le_of_ble_eq_true rfl) ?_
  change pz_E l L xs M_Disk_free 0 0 0 0 [some (.ref 8), some (.int (nI b))] [] h z _
  refine pe_aload_n d_Disk_free_0 rfl ?_
  refine pe_getf d_Disk_free_1 f_Disk_19 hDS rfl ?_
  refine pe_iload_n d_Disk_free_4 rfl ?_
  refine pe_iconst (v := -1) d_Disk_free_5 (by decide) ?_
  refine pe_iastN d_Disk_free_6 hDO (by omega) (by omega) ?_
  refine pe_pu (fun h2 e2 o2 => ?_)
  have hDS := (o2 (8) (by omega)).trans hDS
  have hDW := (o2 (9) (by omega)).trans hDW
  have hDO := e2
  have hf := hf.st o2 (by omega) (by omega)
  refine pe_vret d_Disk_free_7 rfl ?_
  exact ⟨rfl, rfl, ⟨hDS, hDW, hDO, hb1, hb2⟩, hf⟩
set_option maxHeartbeats 4000000 in
set_option maxRecDepth 20000 in
theorem c_Disk_leastFree {l : Launch} {L : Nat} {xs : Nat → Int32} {h : pz_H} {z : Nat}  {nb : Nat} {dw dn : Nat → Int32} (hd : DSK h nb dw dn) : pz_K l L xs M_Disk_leastFree 1 0 0 [.ref 8] h z (fun v h' z' => v = some (.int (orm nb (ff (fun j => decide (dn j = -1)) (nb - 0) 0))) ∧ h = h' ∧ z = z') := by
  obtain ⟨hDS, hDW, hDO, hb1, hb2⟩ := id hd
  refine pz_K.of rfl (Nat.le_of_ble_eq_true rfl) ?_
  have loop : ∀ (n : Nat) (i : Nat), i ≤ nb → nb + 1 ≤ i + n → pz_E l L xs M_Disk_leastFree 1 0 0 2 [some (.ref 8), some (.int (nI i))] [] h z (fun v h' z' => v = some (.int (orm nb (ff (fun j => decide (dn j = -1)) (nb - i) i))) ∧ h = h' ∧ z = z') := by
    intro n
    induction n with
    | zero => intros; omega
    | succ n ih =>
      intro i hi hin
      refine pe_iload_n d_Disk_leastFree_2 rfl ?_
      refine pe_aload_n d_Disk_leastFree_3 rfl ?_
      refine pe_getf d_Disk_leastFree_4 f_Disk_9 hDS rfl ?_
      refine pe_icmpN_ge (tgt := 26) d_Disk_leastFree_7 (by decide) (by omega) (by omega) (fun c_7 => ?_) (fun c_7 => ?_)
      · refine pe_iconst (v := -1) d_Disk_leastFree_26 (by decide) ?_
        refine pe_iret d_Disk_leastFree_27 rfl ?_
        exact ⟨by rw [ff_end (by omega), orm_ge (by omega)], rfl, rfl⟩
      · have c_7 : i < nb := by omega
        refine pe_aload_n d_Disk_leastFree_10 rfl ?_
        refine pe_iload_n d_Disk_leastFree_11 rfl ?_
        -- 12: Disk_isFree
        refine pe_callV d_Disk_leastFree_12 m_Disk_22 j_Disk_isFree v_Disk_isFree (c_Disk_isFree hd (b := i) (by omega)) rfl rfl (by simp [Value.category]) (by decide) hDS rfl rfl ?_
        intro v1 h1 z1 hq1
        obtain ⟨rfl, rfl, rfl⟩ := hq1
        change pz_E _ _ _ _ _ _ _ _ _ (_ :: _) _ _ _
        refine pe_if_eq (tgt := 20) d_Disk_leastFree_15 (by decide) (fun c_15 => ?_) (fun c_15 => ?_)
        · have c_15 := pb_0.mp c_15
          refine pe_iincN d_Disk_leastFree_20 rfl (by decide) rfl ?_
          dsimp only [List.set]
          refine pe_goto (tgt := 2) d_Disk_leastFree_23 (by decide) ?_
          have e := ih (i + 1) (by omega) (by omega)
          rw [← ff_no c_7 (by simpa using c_15)] at e
          exact e
        · have c_15 := pb_n0.mp c_15
          refine pe_iload_n d_Disk_leastFree_18 rfl ?_
          refine pe_iret d_Disk_leastFree_19 rfl ?_
          exact ⟨by rw [ff_yes c_7 (by simpa using c_15), orm_lt c_7], rfl, rfl⟩
  change pz_E l L xs M_Disk_leastFree 1 0 0 0 [some (.ref 8), none] [] h z _
  refine pe_iconst (v := nI 0) d_Disk_leastFree_0 (by decide) ?_
  refine pe_istore_n d_Disk_leastFree_1 (by decide) rfl ?_
  dsimp only [List.set]
  exact loop (nb + 1) 0 (by omega) (by omega)
set_option maxHeartbeats 4000000 in
set_option maxRecDepth 20000 in
theorem c_Disk_blocksOf {l : Launch} {L : Nat} {xs : Nat → Int32} {h : pz_H} {z : Nat}  {nb : Nat} {dw dn : Nat → Int32} (hd : DSK h nb dw dn) (x : Int32) : pz_K l L xs M_Disk_blocksOf 0 0 0 [.ref 8, .int x] h z (fun v h' z' => v = some (.int (nI (cnt (fun j => decide (dn j = x)) (nb - 0) 0))) ∧ h = h' ∧ z = z') := by
  obtain ⟨hDS, hDW, hDO, hb1, hb2⟩ := id hd
  refine pz_K.of rfl (Nat.le_of_ble_eq_true rfl) ?_
  have loop : ∀ (n : Nat) (i u : Nat), i ≤ nb → u ≤ i → nb + 1 ≤ i + n → pz_E l L xs M_Disk_blocksOf 0 0 0 4 [some (.ref 8), some (.int x), some (.int (nI u)), some (.int (nI i))] [] h z (fun v h' z' => v = some (.int (nI (u + cnt (fun j => decide (dn j = x)) (nb - i) i))) ∧ h = h' ∧ z = z') := by
    intro n
    induction n with
    | zero => intros; omega
    | succ n ih =>
      intro i u hi hu hin
      refine pe_iload_n d_Disk_blocksOf_4 rfl ?_
      refine pe_aload_n d_Disk_blocksOf_5 rfl ?_
      refine pe_getf d_Disk_blocksOf_6 f_Disk_9 hDS rfl ?_
      refine pe_icmpN_ge (tgt := 31) d_Disk_blocksOf_9 (by decide) (by omega) (by omega) (fun c_9 => ?_) (fun c_9 => ?_)
      · refine pe_iload_n d_Disk_blocksOf_31 rfl ?_
        refine pe_iret d_Disk_blocksOf_32 rfl ?_
        rw [cnt_end (P := (fun j => decide (dn j = x))) (by omega)]
        exact ⟨rfl, rfl, rfl⟩
      · have c_9 : i < nb := by omega
        refine pe_aload_n d_Disk_blocksOf_12 rfl ?_
        refine pe_getf d_Disk_blocksOf_13 f_Disk_19 hDS rfl ?_
        refine pe_iload_n d_Disk_blocksOf_16 rfl ?_
        refine pe_ialdN d_Disk_blocksOf_17 hDO (by omega) (by omega) ?_
        refine pe_iload_n d_Disk_blocksOf_18 rfl ?_
        refine pe_icmp_ne (tgt := 25) d_Disk_blocksOf_19 (by decide) (fun c_19 => ?_) (fun c_19 => ?_)
        · refine pe_iincN d_Disk_blocksOf_25 rfl (by decide) rfl ?_
          dsimp only [List.set]
          refine pe_goto (tgt := 4) d_Disk_blocksOf_28 (by decide) ?_
          have e := ih (i + 1) u (by omega) (by omega) (by omega)
          rw [cnt_no (P := (fun j => decide (dn j = x))) c_9 (by simp_all)]
          exact e
        · refine pe_iincN d_Disk_blocksOf_22 rfl (by decide) rfl ?_
          dsimp only [List.set]
          refine pe_iincN d_Disk_blocksOf_25 rfl (by decide) rfl ?_
          dsimp only [List.set]
          refine pe_goto (tgt := 4) d_Disk_blocksOf_28 (by decide) ?_
          have e := ih (i + 1) (u + 1) (by omega) (by omega) (by omega)
          rw [cnt_yes (P := (fun j => decide (dn j = x))) c_9 (by simp_all)]
          exact e
  change pz_E l L xs M_Disk_blocksOf 0 0 0 0 [some (.ref 8), some (.int x), none, none] [] h z _
  refine pe_iconst (v := nI 0) d_Disk_blocksOf_0 (by decide) ?_
  refine pe_istore_n d_Disk_blocksOf_1 (by decide) rfl ?_
  dsimp only [List.set]
  refine pe_iconst (v := nI 0) d_Disk_blocksOf_2 (by decide) ?_
  refine pe_istore_n d_Disk_blocksOf_3 (by decide) rfl ?_
  dsimp only [List.set]
  have e := loop (nb + 1) 0 0 (by omega) (by omega) (by omega)
  rw [Nat.zero_add] at e
  exact e
set_option maxHeartbeats 4000000 in
set_option maxRecDepth 20000 in
theorem c_Disk_freeAllOf {l : Launch} {L : Nat} {xs : Nat → Int32} {h : pz_H} {z : Nat}  {nb : Nat} {dw dn : Nat → Int32} (hd : DSK h nb dw dn) (x : Int32) : pz_K l L xs M_Disk_freeAllOf 1 0 0 [.ref 8, .int x] h z (fun v h' z' => v = none ∧ z = z' ∧ DSK h' nb dw (frA dn x nb) ∧ frm 8 11 h h') := by
  obtain ⟨hDS, hDW, hDO, hb1, hb2⟩ := id hd
  have hf : frm 8 11 h h := frm.rf
  refine pz_K.of rfl (Nat.le_of_ble_eq_true rfl) ?_
  have loop : ∀ (n : Nat) (i : Nat) (k : pz_H), i ≤ nb → nb + 1 ≤ i + n → DSK k nb dw (frA dn x i) → frm 8 11 h k → pz_E l L xs M_Disk_freeAllOf 1 0 0 2 [some (.ref 8), some (.int x), some (.int (nI i))] [] k z (fun v h' z' => v = none ∧ z = z' ∧ DSK h' nb dw (frA dn x nb) ∧ frm 8 11 h h') := by
    intro n
    induction n with
    | zero => intros; omega
    | succ n ih =>
      intro i k hi hin hd hf
      obtain ⟨hDS, hDW, hDO, hb1, hb2⟩ := id hd
      refine pe_iload_n d_Disk_freeAllOf_2 rfl ?_
      refine pe_aload_n d_Disk_freeAllOf_3 rfl ?_
      refine pe_getf d_Disk_freeAllOf_4 f_Disk_9 hDS rfl ?_
      refine pe_icmpN_ge (tgt := 31) d_Disk_freeAllOf_7 (by decide) (by omega) (by omega) (fun c_7 => ?_) (fun c_7 => ?_)
      · refine pe_vret d_Disk_freeAllOf_31 rfl ?_
        have e : i = nb := by omega
        subst e
        exact ⟨rfl, rfl, hd, hf⟩
      · have c_7 : i < nb := by omega
        refine pe_aload_n d_Disk_freeAllOf_10 rfl ?_
        refine pe_getf d_Disk_freeAllOf_11 f_Disk_19 hDS rfl ?_
        refine pe_iload_n d_Disk_freeAllOf_14 rfl ?_
        refine pe_ialdN d_Disk_freeAllOf_15 hDO (by omega) (by omega) ?_
        refine pe_iload_n d_Disk_freeAllOf_16 rfl ?_
        refine pe_icmp_ne (tgt := 25) d_Disk_freeAllOf_17 (by decide) (fun c_17 => ?_) (fun c_17 => ?_)
        · refine pe_iincN d_Disk_freeAllOf_25 rfl (by decide) rfl ?_
          dsimp only [List.set]
          refine pe_goto (tgt := 2) d_Disk_freeAllOf_28 (by decide) ?_
          rw [frA_i] at c_17
          first | (rw [frA_y c_17] at hd; exact ih (i + 1) _ (by omega) (by omega) hd hf) | (rw [frA_n c_17] at hd; exact ih (i + 1) _ (by omega) (by omega) hd hf)
        · refine pe_aload_n d_Disk_freeAllOf_20 rfl ?_
          refine pe_iload_n d_Disk_freeAllOf_21 rfl ?_
          -- 22: Disk_free
          refine pe_callV d_Disk_freeAllOf_22 m_Disk_30 j_Disk_free v_Disk_free (c_Disk_free hd (b := i) (by omega)) rfl rfl (by simp [Value.category]) (by decide) hDS rfl rfl ?_
          intro v1 h1 z1 hq1
          obtain ⟨rfl, rfl, hd, hf1⟩ := hq1
          obtain ⟨hDS, hDW, hDO, hb1, hb2⟩ := id hd
          have hf := hf.tr hf1
          change pz_E _ _ _ _ _ _ _ _ _ _ _ _ _
          refine pe_iincN d_Disk_freeAllOf_25 rfl (by decide) rfl ?_
          dsimp only [List.set]
          refine pe_goto (tgt := 2) d_Disk_freeAllOf_28 (by decide) ?_
          rw [frA_i] at c_17
          first | (rw [frA_y c_17] at hd; exact ih (i + 1) _ (by omega) (by omega) hd hf) | (rw [frA_n c_17] at hd; exact ih (i + 1) _ (by omega) (by omega) hd hf)
  change pz_E l L xs M_Disk_freeAllOf 1 0 0 0 [some (.ref 8), some (.int x), none] [] h z _
  refine pe_iconst (v := nI 0) d_Disk_freeAllOf_0 (by decide) ?_
  refine pe_istore_n d_Disk_freeAllOf_1 (by decide) rfl ?_
  dsimp only [List.set]
  have hd : DSK h nb dw (frA dn x 0) := by rw [frA_0]; exact hd
  exact loop (nb + 1) 0 _ (by omega) (by omega) hd hf
set_option maxHeartbeats 4000000 in
set_option maxRecDepth 20000 in
theorem c_Disk_bind {l : Launch} {L : Nat} {xs : Nat → Int32} {h : pz_H} {z : Nat}  {nb : Nat} {dw dn : Nat → Int32} (hd : DSK h nb dw dn) {b fi lk : Nat} (hb : b < nb) (hfl : fi + lk ≤ 8) (x : Int32) : pz_K l L xs M_Disk_bind 1 0 0 [.ref 8, .int (nI b), .int x, .int (nI fi), .int (nI lk)] h z (fun v h' z' => v = none ∧ z = z' ∧ DSK h' nb (fil dw (lkw b fi lk) (b * 8) 8) (upd dn b x) ∧ frm 8 11 h h') := by
  obtain ⟨hDS, hDW, hDO, hb1, hb2⟩ := id hd
  have hf : frm 8 11 h h := frm.rf
  refine pz_K.of rfl (Nat.le_of_ble_eq_true rfl) ?_
  have loop : ∀ (n : Nat) (i : Nat) (k : pz_H), i ≤ 8 → 9 ≤ i + n → DSK k nb (fil dw (lkw b fi lk) (b * 8) i) (upd dn b x) → frm 8 11 h k → pz_E l L xs M_Disk_bind 1 0 0 10 [some (.ref 8), some (.int (nI b)), some (.int x), some (.int (nI fi)), some (.int (nI lk)), some (.int (nI i)), none] [] k z (fun v h' z' => v = none ∧ z = z' ∧ DSK h' nb (fil dw (lkw b fi lk) (b * 8) 8) (upd dn b x) ∧ frm 8 11 h h') := by
    intro n
    induction n with
    | zero => intros; omega
    | succ n ih =>
      intro i k hi hin hd hf
      obtain ⟨hDS, hDW, hDO, hb1, hb2⟩ := id hd
      refine pe_iload d_Disk_bind_10 rfl ?_
      refine pe_bipush (v := nI 8) d_Disk_bind_12 (by decide) ?_
      refine pe_icmpN_ge (tgt := 62) d_Disk_bind_14 (by decide) (by omega) (by omega) (fun c_14 => ?_) (fun c_14 => ?_)
      · refine pe_vret d_Disk_bind_62 rfl ?_
        have e : i = 8 := by omega
        subst e
        exact ⟨rfl, rfl, hd, hf⟩
      · refine pe_iload d_Disk_bind_17 rfl ?_
        refine pe_iload_n d_Disk_bind_19 rfl ?_
        refine pe_icmpN_lt (tgt := 36) d_Disk_bind_20 (by decide) (by omega) (by omega) (fun c_20 => ?_) (fun c_20 => ?_)
        · refine pe_iconst (v := nI 0) d_Disk_bind_36 (by decide) ?_
          refine pe_istore d_Disk_bind_37 (by decide) rfl ?_
          dsimp only [List.set]
          refine pe_aload_n d_Disk_bind_39 rfl ?_
          refine pe_iload_n d_Disk_bind_40 rfl ?_
          refine pe_iload d_Disk_bind_41 rfl ?_
          refine pe_iload d_Disk_bind_43 rfl ?_
          refine pe_if_eq (tgt := 52) d_Disk_bind_45 (by decide) (fun c_45 => ?_) (fun c_45 => ?_)
          · refine pe_iconst (v := nI 0) d_Disk_bind_52 (by decide) ?_
            -- 53: Disk_setWord
            refine pe_callV d_Disk_bind_53 m_Disk_26 j_Disk_setWord v_Disk_setWord (c_Disk_setWord hd (b := b) (q := i) (by omega) (by omega) (nI 0)) rfl rfl (by simp [Value.category]) (by decide) hDS rfl rfl ?_
            intro v1 h1 z1 hq1
            obtain ⟨rfl, rfl, hd, hf1⟩ := hq1
            obtain ⟨hDS, hDW, hDO, hb1, hb2⟩ := id hd
            have hf := hf.tr hf1
            rw [show (nI 0) = lkw b fi lk (b * 8 + i) from by unfold lkw; rw [show b * 8 + i - b * 8 = i by omega]; first | (rw [if_pos (by omega)]; done) | (rw [if_neg (by omega)]; rfl) | (exfalso; revert c_45; decide), fil_s] at hd
            change pz_E _ _ _ _ _ _ _ _ _ _ _ _ _
            refine pe_iincN d_Disk_bind_56 rfl (by decide) rfl ?_
            dsimp only [List.set]
            refine pe_goto (tgt := 10) d_Disk_bind_59 (by decide) ?_
            exact pe_ls (ls' := [some (.ref 8), some (.int (nI b)), some (.int x), some (.int (nI fi)), some (.int (nI lk)), some (.int (nI (i + 1))), none]) (fun j v hj => by match j, hj with | 0, hj => exact hj | 1, hj => exact hj | 2, hj => exact hj | 3, hj => exact hj | 4, hj => exact hj | 5, hj => exact hj | 6, hj => cases hj | j + 7, hj => cases hj) (ih (i + 1) _ (by omega) (by omega) hd hf)
          · refine pe_iconst (v := -1) d_Disk_bind_48 (by decide) ?_
            refine pe_goto (tgt := 53) d_Disk_bind_49 (by decide) ?_
            -- 53: Disk_setWord
            refine pe_callV d_Disk_bind_53 m_Disk_26 j_Disk_setWord v_Disk_setWord (c_Disk_setWord hd (b := b) (q := i) (by omega) (by omega) (-1)) rfl rfl (by simp [Value.category]) (by decide) hDS rfl rfl ?_
            intro v1 h1 z1 hq1
            obtain ⟨rfl, rfl, hd, hf1⟩ := hq1
            obtain ⟨hDS, hDW, hDO, hb1, hb2⟩ := id hd
            have hf := hf.tr hf1
            rw [show (-1) = lkw b fi lk (b * 8 + i) from by unfold lkw; rw [show b * 8 + i - b * 8 = i by omega]; first | (rw [if_pos (by omega)]; done) | (rw [if_neg (by omega)]; rfl) | (exfalso; revert c_45; decide), fil_s] at hd
            change pz_E _ _ _ _ _ _ _ _ _ _ _ _ _
            refine pe_iincN d_Disk_bind_56 rfl (by decide) rfl ?_
            dsimp only [List.set]
            refine pe_goto (tgt := 10) d_Disk_bind_59 (by decide) ?_
            exact pe_ls (ls' := [some (.ref 8), some (.int (nI b)), some (.int x), some (.int (nI fi)), some (.int (nI lk)), some (.int (nI (i + 1))), none]) (fun j v hj => by match j, hj with | 0, hj => exact hj | 1, hj => exact hj | 2, hj => exact hj | 3, hj => exact hj | 4, hj => exact hj | 5, hj => exact hj | 6, hj => cases hj | j + 7, hj => cases hj) (ih (i + 1) _ (by omega) (by omega) hd hf)
        · refine pe_iload d_Disk_bind_23 rfl ?_
          refine pe_iload_n d_Disk_bind_25 rfl ?_
          refine pe_iload d_Disk_bind_26 rfl ?_
          refine pe_iaddN d_Disk_bind_28 ?_
          refine pe_icmpN_ge (tgt := 36) d_Disk_bind_29 (by decide) (by omega) (by omega) (fun c_29 => ?_) (fun c_29 => ?_)
          · refine pe_iconst (v := nI 0) d_Disk_bind_36 (by decide) ?_
            refine pe_istore d_Disk_bind_37 (by decide) rfl ?_
            dsimp only [List.set]
            refine pe_aload_n d_Disk_bind_39 rfl ?_
            refine pe_iload_n d_Disk_bind_40 rfl ?_
            refine pe_iload d_Disk_bind_41 rfl ?_
            refine pe_iload d_Disk_bind_43 rfl ?_
            refine pe_if_eq (tgt := 52) d_Disk_bind_45 (by decide) (fun c_45 => ?_) (fun c_45 => ?_)
            · refine pe_iconst (v := nI 0) d_Disk_bind_52 (by decide) ?_
              -- 53: Disk_setWord
              refine pe_callV d_Disk_bind_53 m_Disk_26 j_Disk_setWord v_Disk_setWord (c_Disk_setWord hd (b := b) (q := i) (by omega) (by omega) (nI 0)) rfl rfl (by simp [Value.category]) (by decide) hDS rfl rfl ?_
              intro v1 h1 z1 hq1
              obtain ⟨rfl, rfl, hd, hf1⟩ := hq1
              obtain ⟨hDS, hDW, hDO, hb1, hb2⟩ := id hd
              have hf := hf.tr hf1
              rw [show (nI 0) = lkw b fi lk (b * 8 + i) from by unfold lkw; rw [show b * 8 + i - b * 8 = i by omega]; first | (rw [if_pos (by omega)]; done) | (rw [if_neg (by omega)]; rfl) | (exfalso; revert c_45; decide), fil_s] at hd
              change pz_E _ _ _ _ _ _ _ _ _ _ _ _ _
              refine pe_iincN d_Disk_bind_56 rfl (by decide) rfl ?_
              dsimp only [List.set]
              refine pe_goto (tgt := 10) d_Disk_bind_59 (by decide) ?_
              exact pe_ls (ls' := [some (.ref 8), some (.int (nI b)), some (.int x), some (.int (nI fi)), some (.int (nI lk)), some (.int (nI (i + 1))), none]) (fun j v hj => by match j, hj with | 0, hj => exact hj | 1, hj => exact hj | 2, hj => exact hj | 3, hj => exact hj | 4, hj => exact hj | 5, hj => exact hj | 6, hj => cases hj | j + 7, hj => cases hj) (ih (i + 1) _ (by omega) (by omega) hd hf)
            · refine pe_iconst (v := -1) d_Disk_bind_48 (by decide) ?_
              refine pe_goto (tgt := 53) d_Disk_bind_49 (by decide) ?_
              -- 53: Disk_setWord
              refine pe_callV d_Disk_bind_53 m_Disk_26 j_Disk_setWord v_Disk_setWord (c_Disk_setWord hd (b := b) (q := i) (by omega) (by omega) (-1)) rfl rfl (by simp [Value.category]) (by decide) hDS rfl rfl ?_
              intro v1 h1 z1 hq1
              obtain ⟨rfl, rfl, hd, hf1⟩ := hq1
              obtain ⟨hDS, hDW, hDO, hb1, hb2⟩ := id hd
              have hf := hf.tr hf1
              rw [show (-1) = lkw b fi lk (b * 8 + i) from by unfold lkw; rw [show b * 8 + i - b * 8 = i by omega]; first | (rw [if_pos (by omega)]; done) | (rw [if_neg (by omega)]; rfl) | (exfalso; revert c_45; decide), fil_s] at hd
              change pz_E _ _ _ _ _ _ _ _ _ _ _ _ _
              refine pe_iincN d_Disk_bind_56 rfl (by decide) rfl ?_
              dsimp only [List.set]
              refine pe_goto (tgt := 10) d_Disk_bind_59 (by decide) ?_
              exact pe_ls (ls' := [some (.ref 8), some (.int (nI b)), some (.int x), some (.int (nI fi)), some (.int (nI lk)), some (.int (nI (i + 1))), none]) (fun j v hj => by match j, hj with | 0, hj => exact hj | 1, hj => exact hj | 2, hj => exact hj | 3, hj => exact hj | 4, hj => exact hj | 5, hj => exact hj | 6, hj => cases hj | j + 7, hj => cases hj) (ih (i + 1) _ (by omega) (by omega) hd hf)
          · refine pe_iconst (v := nI 1) d_Disk_bind_32 (by decide) ?_
            refine pe_goto (tgt := 37) d_Disk_bind_33 (by decide) ?_
            refine pe_istore d_Disk_bind_37 (by decide) rfl ?_
            dsimp only [List.set]
            refine pe_aload_n d_Disk_bind_39 rfl ?_
            refine pe_iload_n d_Disk_bind_40 rfl ?_
            refine pe_iload d_Disk_bind_41 rfl ?_
            refine pe_iload d_Disk_bind_43 rfl ?_
            refine pe_if_eq (tgt := 52) d_Disk_bind_45 (by decide) (fun c_45 => ?_) (fun c_45 => ?_)
            · refine pe_iconst (v := nI 0) d_Disk_bind_52 (by decide) ?_
              -- 53: Disk_setWord
              refine pe_callV d_Disk_bind_53 m_Disk_26 j_Disk_setWord v_Disk_setWord (c_Disk_setWord hd (b := b) (q := i) (by omega) (by omega) (nI 0)) rfl rfl (by simp [Value.category]) (by decide) hDS rfl rfl ?_
              intro v1 h1 z1 hq1
              obtain ⟨rfl, rfl, hd, hf1⟩ := hq1
              obtain ⟨hDS, hDW, hDO, hb1, hb2⟩ := id hd
              have hf := hf.tr hf1
              rw [show (nI 0) = lkw b fi lk (b * 8 + i) from by unfold lkw; rw [show b * 8 + i - b * 8 = i by omega]; first | (rw [if_pos (by omega)]; done) | (rw [if_neg (by omega)]; rfl) | (exfalso; revert c_45; decide), fil_s] at hd
              change pz_E _ _ _ _ _ _ _ _ _ _ _ _ _
              refine pe_iincN d_Disk_bind_56 rfl (by decide) rfl ?_
              dsimp only [List.set]
              refine pe_goto (tgt := 10) d_Disk_bind_59 (by decide) ?_
              exact pe_ls (ls' := [some (.ref 8), some (.int (nI b)), some (.int x), some (.int (nI fi)), some (.int (nI lk)), some (.int (nI (i + 1))), none]) (fun j v hj => by match j, hj with | 0, hj => exact hj | 1, hj => exact hj | 2, hj => exact hj | 3, hj => exact hj | 4, hj => exact hj | 5, hj => exact hj | 6, hj => cases hj | j + 7, hj => cases hj) (ih (i + 1) _ (by omega) (by omega) hd hf)
            · refine pe_iconst (v := -1) d_Disk_bind_48 (by decide) ?_
              refine pe_goto (tgt := 53) d_Disk_bind_49 (by decide) ?_
              -- 53: Disk_setWord
              refine pe_callV d_Disk_bind_53 m_Disk_26 j_Disk_setWord v_Disk_setWord (c_Disk_setWord hd (b := b) (q := i) (by omega) (by omega) (-1)) rfl rfl (by simp [Value.category]) (by decide) hDS rfl rfl ?_
              intro v1 h1 z1 hq1
              obtain ⟨rfl, rfl, hd, hf1⟩ := hq1
              obtain ⟨hDS, hDW, hDO, hb1, hb2⟩ := id hd
              have hf := hf.tr hf1
              rw [show (-1) = lkw b fi lk (b * 8 + i) from by unfold lkw; rw [show b * 8 + i - b * 8 = i by omega]; first | (rw [if_pos (by omega)]; done) | (rw [if_neg (by omega)]; rfl) | (exfalso; revert c_45; decide), fil_s] at hd
              change pz_E _ _ _ _ _ _ _ _ _ _ _ _ _
              refine pe_iincN d_Disk_bind_56 rfl (by decide) rfl ?_
              dsimp only [List.set]
              refine pe_goto (tgt := 10) d_Disk_bind_59 (by decide) ?_
              exact pe_ls (ls' := [some (.ref 8), some (.int (nI b)), some (.int x), some (.int (nI fi)), some (.int (nI lk)), some (.int (nI (i + 1))), none]) (fun j v hj => by match j, hj with | 0, hj => exact hj | 1, hj => exact hj | 2, hj => exact hj | 3, hj => exact hj | 4, hj => exact hj | 5, hj => exact hj | 6, hj => cases hj | j + 7, hj => cases hj) (ih (i + 1) _ (by omega) (by omega) hd hf)
  change pz_E l L xs M_Disk_bind 1 0 0 0 [some (.ref 8), some (.int (nI b)), some (.int x), some (.int (nI fi)), some (.int (nI lk)), none, none] [] h z _
  refine pe_aload_n d_Disk_bind_0 rfl ?_
  refine pe_getf d_Disk_bind_1 f_Disk_19 hDS rfl ?_
  refine pe_iload_n d_Disk_bind_4 rfl ?_
  refine pe_iload_n d_Disk_bind_5 rfl ?_
  refine pe_iastN d_Disk_bind_6 hDO (by omega) (by omega) ?_
  refine pe_pu (fun h2 e2 o2 => ?_)
  have hDS := (o2 (8) (by omega)).trans hDS
  have hDW := (o2 (9) (by omega)).trans hDW
  have hDO := e2
  have hf := hf.st o2 (by omega) (by omega)
  refine pe_iconst (v := nI 0) d_Disk_bind_7 (by decide) ?_
  refine pe_istore d_Disk_bind_8 (by decide) rfl ?_
  dsimp only [List.set]
  have hd : DSK h2 nb (fil dw (lkw b fi lk) (b * 8) 0) (upd dn b x) := by rw [fil_0]; exact ⟨hDS, hDW, hDO, hb1, hb2⟩
  exact loop 9 0 _ (by omega) (by omega) hd hf
set_option maxHeartbeats 4000000 in
set_option maxRecDepth 20000 in
theorem c_Disk_namesBlocks {l : Launch} {L : Nat} {xs : Nat → Int32} {h : pz_H} {z : Nat}  {nb : Nat} {dw dn : Nat → Int32} (hd : DSK h nb dw dn) {b fi lk : Nat} (hb : b < nb) (hfl : fi + lk ≤ 8) : pz_K l L xs M_Disk_namesBlocks 1 0 0 [.ref 8, .int (nI b), .int (nI fi), .int (nI lk)] h z (fun v h' z' => v = some (.int (pb (decide (ff (fun j => !decide (dw (b * 8 + j) = -1)) (fi + lk - fi) fi < fi + lk)))) ∧ h = h' ∧ z = z') := by
  obtain ⟨hDS, hDW, hDO, hb1, hb2⟩ := id hd
  refine pz_K.of rfl (Nat.le_of_ble_eq_true rfl) ?_
  have loop : ∀ (n : Nat) (i : Nat), fi ≤ i → i ≤ fi + lk → fi + lk + 1 ≤ i + n → pz_E l L xs M_Disk_namesBlocks 1 0 0 3 [some (.ref 8), some (.int (nI b)), some (.int (nI fi)), some (.int (nI lk)), some (.int (nI i))] [] h z (fun v h' z' => v = some (.int (pb (decide (ff (fun j => !decide (dw (b * 8 + j) = -1)) (fi + lk - i) i < fi + lk)))) ∧ h = h' ∧ z = z') := by
    intro n
    induction n with
    | zero => intros; omega
    | succ n ih =>
      intro i hi0 hi hin
      refine pe_iload d_Disk_namesBlocks_3 rfl ?_
      refine pe_iload_n d_Disk_namesBlocks_5 rfl ?_
      refine pe_iload_n d_Disk_namesBlocks_6 rfl ?_
      refine pe_iaddN d_Disk_namesBlocks_7 ?_
      refine pe_icmpN_ge (tgt := 30) d_Disk_namesBlocks_8 (by decide) (by omega) (by omega) (fun c_8 => ?_) (fun c_8 => ?_)
      · refine pe_iconst (v := nI 0) d_Disk_namesBlocks_30 (by decide) ?_
        refine pe_zret d_Disk_namesBlocks_31 rfl (by decide) ?_
        exact ⟨pb_no (by rw [ff_end (by omega)]; omega), rfl, rfl⟩
      · have c_8 : i < fi + lk := by omega
        refine pe_aload_n d_Disk_namesBlocks_11 rfl ?_
        refine pe_iload_n d_Disk_namesBlocks_12 rfl ?_
        refine pe_iload d_Disk_namesBlocks_13 rfl ?_
        -- 15: Disk_wordOf
        refine pe_callV d_Disk_namesBlocks_15 m_Disk_34 j_Disk_wordOf v_Disk_wordOf (c_Disk_wordOf hd (b := b) (q := i) (by omega) (by omega)) rfl rfl (by simp [Value.category]) (by decide) hDS rfl rfl ?_
        intro v1 h1 z1 hq1
        obtain ⟨rfl, rfl, rfl⟩ := hq1
        change pz_E _ _ _ _ _ _ _ _ _ (_ :: _) _ _ _
        refine pe_iconst (v := -1) d_Disk_namesBlocks_18 (by decide) ?_
        refine pe_icmp_eq (tgt := 24) d_Disk_namesBlocks_19 (by decide) (fun c_19 => ?_) (fun c_19 => ?_)
        · refine pe_iincN d_Disk_namesBlocks_24 rfl (by decide) rfl ?_
          dsimp only [List.set]
          refine pe_goto (tgt := 3) d_Disk_namesBlocks_27 (by decide) ?_
          have e := ih (i + 1) (by omega) (by omega) (by omega)
          rw [← ff_no c_8 (by simpa using c_19)] at e
          exact e
        · refine pe_iconst (v := nI 1) d_Disk_namesBlocks_22 (by decide) ?_
          refine pe_zret d_Disk_namesBlocks_23 rfl (by decide) ?_
          exact ⟨pb_yes (by rw [ff_yes c_8 (by simpa using c_19)]; exact c_8), rfl, rfl⟩
  change pz_E l L xs M_Disk_namesBlocks 1 0 0 0 [some (.ref 8), some (.int (nI b)), some (.int (nI fi)), some (.int (nI lk)), none] [] h z _
  refine pe_iload_n d_Disk_namesBlocks_0 rfl ?_
  refine pe_istore d_Disk_namesBlocks_1 (by decide) rfl ?_
  dsimp only [List.set]
  exact loop (lk + 1) fi (by omega) (by omega) (by omega)
