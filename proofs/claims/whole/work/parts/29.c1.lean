/-! constructors -/
theorem pe_eqv {l : Launch} {L : Nat} {xs : Nat → Int32} {M : pz_M} {d fc fs pc : Nat} {ls : List (Option Value)} {st : List Value} {h : pz_H} {z : Nat} {Q : pz_Q} {a t n : Nat} {f f' : Nat → Option Nat} (hh : h a = some (.inl (t, n, .inr (.inr (.inr (.inr f)))))) (ef : ∀ j, j < n → f j = f' j) (kk : pz_E l L xs M d fc fs pc ls st (pu h a (.inl (t, n, .inr (.inr (.inr (.inr f')))))) z Q) : pz_E l L xs M d fc fs pc ls st h z Q := by
  intro p e s m args below meth c R H locs cells slots D g b cA mc ms Qm A X
  obtain ⟨⟨hx, hb, hml, hown, hts⟩, hnm, ⟨hR1, hR2, hR3, hR4⟩, ⟨hK, hN, hbg, hgs, hX⟩, ⟨hP, hsz, hd1, hd2⟩, hS, hlv, ⟨hc1, hc2⟩, hret⟩ := id X
  have hat := pz_w_at (g := g) (b := b) (cA := cA) (h := h) (hd1 a _ hh)
  rw [hh] at hat
  refine kk p e s m args below meth c R H locs cells slots D g b cA mc ms Qm A ⟨X.1, X.2.1, X.2.2.1, X.2.2.2.1, (X.2.2.2.2.1.upd hh ?_ rfl (fun _ _ => rfl)), X.2.2.2.2.2⟩
  have h9 : H[g + a]? = some (vp_cell (cA t) (n, .inr (.inr (.inr (.inr (fun j => (f j).map (fun k => g + k))))))) := hP a _ hat
  show H[g + a]? = some (vp_cell (cA t) (n, .inr (.inr (.inr (.inr (fun j => (f' j).map (fun k => g + k)))))))
  rw [h9, vp_cell_q, vp_cell_q]
  congr 1
  unfold arrV
  congr 1
  congr 1
  funext j
  show va_rf ((f j.val).map _) = va_rf ((f' j.val).map _)
  rw [ef j.val j.isLt]
/-- a size within 4 .. 32 -/
def clp (x : Int32) : Nat := if x < nI 4 then 4 else if nI 32 < x then 32 else x.toNatClampNeg
theorem clp_N {x : Int32} (h4 : ¬ x < nI 4) (h32 : ¬ nI 32 < x) : x = nI (clp x) ∧ 4 ≤ clp x ∧ clp x ≤ 32 := by
  obtain ⟨q, h1, h2, rfl⟩ := rng_N (x := x) (lo := 4) (hi := 32) (by decide) (by decide) (decide_eq_true ⟨h4, h32⟩)
  unfold clp
  rw [if_neg h4, if_neg h32, nI_clamp (by omega)]
  exact ⟨rfl, h1, h2⟩
theorem clp_le (x : Int32) : 4 ≤ clp x ∧ clp x ≤ 32 := by
  by_cases h4 : x < nI 4
  · unfold clp; rw [if_pos h4]; omega
  · by_cases h32 : nI 32 < x
    · unfold clp; rw [if_neg h4, if_pos h32]; omega
    · exact (clp_N h4 h32).2
theorem clp_k (x : Int32) : imax (nI 4) (imin (nI 32) x) = nI (clp x) := by
  unfold imax imin
  by_cases h4 : x < nI 4
  · have h32 : x < nI 32 := Int32.lt_trans h4 (by decide)
    rw [if_pos h32, if_neg (fun q => Int32.lt_irrefl (Int32.lt_trans q h4))]
    unfold clp; rw [if_pos h4]
  · by_cases h32 : nI 32 < x
    · rw [if_neg (fun q => Int32.lt_irrefl (Int32.lt_trans q h32)), if_pos (by decide)]
      unfold clp; rw [if_neg h4, if_pos h32]
    · obtain ⟨e, h1, h2⟩ := clp_N h4 h32
      generalize clp x = q at e h1 h2
      subst e
      by_cases e32 : nI q < nI 32
      · rw [if_pos e32]
        split
        · rfl
        · next c => congr 1; rcases Nat.lt_or_ge 4 q with r | r; exact absurd ((nI_ltI (by omega) (by omega)).mpr r) c; omega
      · rw [if_neg e32, if_pos (by decide)]
        congr 1
        rcases Nat.lt_or_ge q 32 with r | r
        · exact absurd ((nI_ltI (by omega) (by omega)).mpr r) e32
        · omega
set_option maxHeartbeats 4000000 in
set_option maxRecDepth 20000 in
theorem c_Frame_init {l : Launch} {L : Nat} {xs : Nat → Int32} {h : pz_H} {a : Nat} (hFO : h a = some (.inr (4, [.null, .int 0]))) : pz_K l L xs M_Frame_init 1 1 16 [.ref a] h (a + 1) (fun v h' z' => v = none ∧ z' = (a + 2) ∧ FRA a h' (fun _ => 0) 0 ∧ frm a (a + 2) h h') := by
  refine pz_K.of rfl (Nat.le_of_ble_eq_true rfl) ?_
  have hf : frm a (a + 2) h h := frm.rf
  change pz_E l L xs M_Frame_init 1 1 16 0 [some (.ref a)] [] h (a + 1) _
  refine pe_aload_n d_Frame_init_0 rfl ?_
  refine pe_objInit d_Frame_init_1 o_Frame_1 o_1 o_2 (by simp [Value.category]) (by decide) ?_
  refine pe_aload_n d_Frame_init_4 rfl ?_
  refine pe_bipush (v := nI 16) d_Frame_init_5 (by decide) ?_
  refine pe_less (fc' := 0 + 1) (fs' := 0 + 16) (by omega) (by omega) ?_
  refine pe_newa (t := 0) (N := 16) (a0 := (16, .inl (fun _ => 0))) d_Frame_init_7 rfl ac_int (nI_pos (by omega)) (nI_clamp (by omega)) (by show 16 * 4 ≤ 536870912; omega) (fun _ _ => rfl) ?_
  refine pe_pu (fun h2 e2 o2 => ?_)
  have hFO := (o2 (a) (by omega)).trans hFO
  have hFB : h2 (a + 1) = _ := e2
  have hf := hf.st o2 (by omega) (by omega)
  change pz_E _ _ _ _ _ _ _ _ _ (.ref (a + 1) :: _) _ (a + 2) _
  refine pe_putF d_Frame_init_9 g_Frame_9 rfl hFO (Nat.le_of_ble_eq_true rfl) rfl ?_
  refine pe_pu (fun h2 e2 o2 => ?_)
  have hFO := e2
  have hFB := (o2 (a + 1) (by omega)).trans hFB
  have hf := hf.st o2 (by omega) (by omega)
  refine pe_aload_n d_Frame_init_12 rfl ?_
  refine pe_iconst (v := nI 0) d_Frame_init_13 (by decide) ?_
  refine pe_put d_Frame_init_14 g_Frame_13 hFO (Nat.le_of_ble_eq_true rfl) rfl ?_
  refine pe_pu (fun h2 e2 o2 => ?_)
  have hFO := e2
  have hFB := (o2 (a + 1) (by omega)).trans hFB
  have hf := hf.st o2 (by omega) (by omega)
  refine pe_vret d_Frame_init_17 rfl ?_
  exact ⟨rfl, rfl, ⟨hFO, hFB, by omega⟩, hf⟩
set_option maxHeartbeats 4000000 in
set_option maxRecDepth 20000 in
theorem c_FilterOrder_init {l : Launch} {L : Nat} {xs : Nat → Int32} {h : pz_H} (hOO : h 11 = some (.inr (3, [.null, .int 0]))) : pz_K l L xs M_FilterOrder_init 1 1 6 [.ref 11] h 12 (fun v h' z' => v = none ∧ z' = 13 ∧ ORD h' (fun _ => 0) 0 ∧ frm 11 13 h h') := by
  refine pz_K.of rfl (Nat.le_of_ble_eq_true rfl) ?_
  have hf : frm 11 13 h h := frm.rf
  change pz_E l L xs M_FilterOrder_init 1 1 6 0 [some (.ref 11)] [] h 12 _
  refine pe_aload_n d_FilterOrder_init_0 rfl ?_
  refine pe_objInit d_FilterOrder_init_1 o_FilterOrder_3 o_1 o_2 (by simp [Value.category]) (by decide) ?_
  refine pe_aload_n d_FilterOrder_init_4 rfl ?_
  refine pe_bipush (v := nI 6) d_FilterOrder_init_5 (by decide) ?_
  refine pe_less (fc' := 0 + 1) (fs' := 0 + 6) (by omega) (by omega) ?_
  refine pe_newa (t := 0) (N := 6) (a0 := (6, .inl (fun _ => 0))) d_FilterOrder_init_7 rfl ac_int (nI_pos (by omega)) (nI_clamp (by omega)) (by show 6 * 4 ≤ 536870912; omega) (fun _ _ => rfl) ?_
  refine pe_pu (fun h2 e2 o2 => ?_)
  have hOO := (o2 (11) (by omega)).trans hOO
  have hOA : h2 (12) = _ := e2
  have hf := hf.st o2 (by omega) (by omega)
  change pz_E _ _ _ _ _ _ _ _ _ (.ref (12) :: _) _ (13) _
  refine pe_putF d_FilterOrder_init_9 g_FilterOrder_9 rfl hOO (Nat.le_of_ble_eq_true rfl) rfl ?_
  refine pe_pu (fun h2 e2 o2 => ?_)
  have hOO := e2
  have hOA := (o2 (12) (by omega)).trans hOA
  have hf := hf.st o2 (by omega) (by omega)
  refine pe_aload_n d_FilterOrder_init_12 rfl ?_
  refine pe_iconst (v := nI 0) d_FilterOrder_init_13 (by decide) ?_
  refine pe_put d_FilterOrder_init_14 g_FilterOrder_15 hOO (Nat.le_of_ble_eq_true rfl) rfl ?_
  refine pe_pu (fun h2 e2 o2 => ?_)
  have hOO := e2
  have hOA := (o2 (12) (by omega)).trans hOA
  have hf := hf.st o2 (by omega) (by omega)
  refine pe_vret d_FilterOrder_init_17 rfl ?_
  exact ⟨rfl, rfl, ⟨hOO, hOA, by omega⟩, hf⟩
set_option maxHeartbeats 4000000 in
set_option maxRecDepth 20000 in
theorem c_PageList_init {l : Launch} {L : Nat} {xs : Nat → Int32} {h : pz_H} {a : Nat} (hPO : h a = some (.inr (6, [.null, .int 0, .int 0]))) : pz_K l L xs M_PageList_init 1 1 8 [.ref a] h (a + 1) (fun v h' z' => v = none ∧ z' = (a + 2) ∧ PGL a h' (fun _ => 0) 0 0 ∧ frm a (a + 2) h h') := by
  refine pz_K.of rfl (Nat.le_of_ble_eq_true rfl) ?_
  have hf : frm a (a + 2) h h := frm.rf
  change pz_E l L xs M_PageList_init 1 1 8 0 [some (.ref a)] [] h (a + 1) _
  refine pe_aload_n d_PageList_init_0 rfl ?_
  refine pe_objInit d_PageList_init_1 o_PageList_1 o_1 o_2 (by simp [Value.category]) (by decide) ?_
  refine pe_aload_n d_PageList_init_4 rfl ?_
  refine pe_bipush (v := nI 8) d_PageList_init_5 (by decide) ?_
  refine pe_less (fc' := 0 + 1) (fs' := 0 + 8) (by omega) (by omega) ?_
  refine pe_newa (t := 0) (N := 8) (a0 := (8, .inl (fun _ => 0))) d_PageList_init_7 rfl ac_int (nI_pos (by omega)) (nI_clamp (by omega)) (by show 8 * 4 ≤ 536870912; omega) (fun _ _ => rfl) ?_
  refine pe_pu (fun h2 e2 o2 => ?_)
  have hPO := (o2 (a) (by omega)).trans hPO
  have hPP : h2 (a + 1) = _ := e2
  have hf := hf.st o2 (by omega) (by omega)
  change pz_E _ _ _ _ _ _ _ _ _ (.ref (a + 1) :: _) _ (a + 2) _
  refine pe_putF d_PageList_init_9 g_PageList_9 rfl hPO (Nat.le_of_ble_eq_true rfl) rfl ?_
  refine pe_pu (fun h2 e2 o2 => ?_)
  have hPO := e2
  have hPP := (o2 (a + 1) (by omega)).trans hPP
  have hf := hf.st o2 (by omega) (by omega)
  refine pe_aload_n d_PageList_init_12 rfl ?_
  refine pe_iconst (v := nI 0) d_PageList_init_13 (by decide) ?_
  refine pe_put d_PageList_init_14 g_PageList_13 hPO (Nat.le_of_ble_eq_true rfl) rfl ?_
  refine pe_pu (fun h2 e2 o2 => ?_)
  have hPO := e2
  have hPP := (o2 (a + 1) (by omega)).trans hPP
  have hf := hf.st o2 (by omega) (by omega)
  refine pe_aload_n d_PageList_init_17 rfl ?_
  refine pe_iconst (v := nI 0) d_PageList_init_18 (by decide) ?_
  refine pe_put d_PageList_init_19 g_PageList_17 hPO (Nat.le_of_ble_eq_true rfl) rfl ?_
  refine pe_pu (fun h2 e2 o2 => ?_)
  have hPO := e2
  have hPP := (o2 (a + 1) (by omega)).trans hPP
  have hf := hf.st o2 (by omega) (by omega)
  refine pe_vret d_PageList_init_22 rfl ?_
  exact ⟨rfl, rfl, ⟨hPO, hPP, by omega, by omega⟩, hf⟩
set_option maxHeartbeats 4000000 in
set_option maxRecDepth 20000 in
theorem c_EntryTable_init {l : Launch} {L : Nat} {xs : Nat → Int32} {h : pz_H} {a : Nat} (hTO : h a = some (.inr (8, [.null, .int 0]))) : pz_K l L xs M_EntryTable_init 1 1 7 [.ref a] h (a + 1) (fun v h' z' => v = none ∧ z' = (a + 2) ∧ TAB a h' (fun _ => 0) 0 ∧ frm a (a + 2) h h') := by
  refine pz_K.of rfl (Nat.le_of_ble_eq_true rfl) ?_
  have hf : frm a (a + 2) h h := frm.rf
  change pz_E l L xs M_EntryTable_init 1 1 7 0 [some (.ref a)] [] h (a + 1) _
  refine pe_aload_n d_EntryTable_init_0 rfl ?_
  refine pe_objInit d_EntryTable_init_1 o_EntryTable_3 o_1 o_2 (by simp [Value.category]) (by decide) ?_
  refine pe_aload_n d_EntryTable_init_4 rfl ?_
  refine pe_bipush (v := nI 7) d_EntryTable_init_5 (by decide) ?_
  refine pe_less (fc' := 0 + 1) (fs' := 0 + 7) (by omega) (by omega) ?_
  refine pe_newa (t := 0) (N := 7) (a0 := (7, .inl (fun _ => 0))) d_EntryTable_init_7 rfl ac_int (nI_pos (by omega)) (nI_clamp (by omega)) (by show 7 * 4 ≤ 536870912; omega) (fun _ _ => rfl) ?_
  refine pe_pu (fun h2 e2 o2 => ?_)
  have hTO := (o2 (a) (by omega)).trans hTO
  have hTD : h2 (a + 1) = _ := e2
  have hf := hf.st o2 (by omega) (by omega)
  change pz_E _ _ _ _ _ _ _ _ _ (.ref (a + 1) :: _) _ (a + 2) _
  refine pe_putF d_EntryTable_init_9 g_EntryTable_11 rfl hTO (Nat.le_of_ble_eq_true rfl) rfl ?_
  refine pe_pu (fun h2 e2 o2 => ?_)
  have hTO := e2
  have hTD := (o2 (a + 1) (by omega)).trans hTD
  have hf := hf.st o2 (by omega) (by omega)
  refine pe_aload_n d_EntryTable_init_12 rfl ?_
  refine pe_iconst (v := nI 0) d_EntryTable_init_13 (by decide) ?_
  refine pe_put d_EntryTable_init_14 g_EntryTable_15 hTO (Nat.le_of_ble_eq_true rfl) rfl ?_
  refine pe_pu (fun h2 e2 o2 => ?_)
  have hTO := e2
  have hTD := (o2 (a + 1) (by omega)).trans hTD
  have hf := hf.st o2 (by omega) (by omega)
  refine pe_vret d_EntryTable_init_17 rfl ?_
  exact ⟨rfl, rfl, ⟨hTO, hTD, by omega⟩, hf⟩
set_option maxHeartbeats 4000000 in
set_option maxRecDepth 20000 in
theorem c_Program_init {l : Launch} {L : Nat} {xs : Nat → Int32} {h : pz_H} {a : Nat} (hGO : h a = some (.inr (9, [.null, .null, .null, .null, .int 0]))) : pz_K l L xs M_Program_init 1 4 64 [.ref a] h (a + 1) (fun v h' z' => v = none ∧ z' = (a + 5) ∧ PRG a h' (fun _ => 0) (fun _ => 0) (fun _ => 0) (fun _ => 0) 0 ∧ frm a (a + 5) h h') := by
  refine pz_K.of rfl (Nat.le_of_ble_eq_true rfl) ?_
  have hf : frm a (a + 5) h h := frm.rf
  change pz_E l L xs M_Program_init 1 4 64 0 [some (.ref a)] [] h (a + 1) _
  refine pe_aload_n d_Program_init_0 rfl ?_
  refine pe_objInit d_Program_init_1 o_Program_1 o_1 o_2 (by simp [Value.category]) (by decide) ?_
  refine pe_aload_n d_Program_init_4 rfl ?_
  refine pe_bipush (v := nI 16) d_Program_init_5 (by decide) ?_
  refine pe_less (fc' := 3 + 1) (fs' := 48 + 16) (by omega) (by omega) ?_
  refine pe_newa (t := 0) (N := 16) (a0 := (16, .inl (fun _ => 0))) d_Program_init_7 rfl ac_int (nI_pos (by omega)) (nI_clamp (by omega)) (by show 16 * 4 ≤ 536870912; omega) (fun _ _ => rfl) ?_
  refine pe_pu (fun h2 e2 o2 => ?_)
  have hGO := (o2 (a) (by omega)).trans hGO
  have hGC : h2 (a + 1) = _ := e2
  have hf := hf.st o2 (by omega) (by omega)
  change pz_E _ _ _ _ _ _ _ _ _ (.ref (a + 1) :: _) _ (a + 2) _
  refine pe_putF d_Program_init_9 g_Program_9 rfl hGO (Nat.le_of_ble_eq_true rfl) rfl ?_
  refine pe_pu (fun h2 e2 o2 => ?_)
  have hGO := e2
  have hGC := (o2 (a + 1) (by omega)).trans hGC
  have hf := hf.st o2 (by omega) (by omega)
  refine pe_aload_n d_Program_init_12 rfl ?_
  refine pe_bipush (v := nI 16) d_Program_init_13 (by decide) ?_
  refine pe_less (fc' := 2 + 1) (fs' := 32 + 16) (by omega) (by omega) ?_
  refine pe_newa (t := 0) (N := 16) (a0 := (16, .inl (fun _ => 0))) d_Program_init_15 rfl ac_int (nI_pos (by omega)) (nI_clamp (by omega)) (by show 16 * 4 ≤ 536870912; omega) (fun _ _ => rfl) ?_
  refine pe_pu (fun h2 e2 o2 => ?_)
  have hGO := (o2 (a) (by omega)).trans hGO
  have hGC := (o2 (a + 1) (by omega)).trans hGC
  have hGK : h2 (a + 2) = _ := e2
  have hf := hf.st o2 (by omega) (by omega)
  change pz_E _ _ _ _ _ _ _ _ _ (.ref (a + 2) :: _) _ (a + 3) _
  refine pe_putF d_Program_init_17 g_Program_13 rfl hGO (Nat.le_of_ble_eq_true rfl) rfl ?_
  refine pe_pu (fun h2 e2 o2 => ?_)
  have hGO := e2
  have hGC := (o2 (a + 1) (by omega)).trans hGC
  have hGK := (o2 (a + 2) (by omega)).trans hGK
  have hf := hf.st o2 (by omega) (by omega)
  refine pe_aload_n d_Program_init_20 rfl ?_
  refine pe_bipush (v := nI 16) d_Program_init_21 (by decide) ?_
  refine pe_less (fc' := 1 + 1) (fs' := 16 + 16) (by omega) (by omega) ?_
  refine pe_newa (t := 0) (N := 16) (a0 := (16, .inl (fun _ => 0))) d_Program_init_23 rfl ac_int (nI_pos (by omega)) (nI_clamp (by omega)) (by show 16 * 4 ≤ 536870912; omega) (fun _ _ => rfl) ?_
  refine pe_pu (fun h2 e2 o2 => ?_)
  have hGO := (o2 (a) (by omega)).trans hGO
  have hGC := (o2 (a + 1) (by omega)).trans hGC
  have hGK := (o2 (a + 2) (by omega)).trans hGK
  have hGY : h2 (a + 3) = _ := e2
  have hf := hf.st o2 (by omega) (by omega)
  change pz_E _ _ _ _ _ _ _ _ _ (.ref (a + 3) :: _) _ (a + 4) _
  refine pe_putF d_Program_init_25 g_Program_16 rfl hGO (Nat.le_of_ble_eq_true rfl) rfl ?_
  refine pe_pu (fun h2 e2 o2 => ?_)
  have hGO := e2
  have hGC := (o2 (a + 1) (by omega)).trans hGC
  have hGK := (o2 (a + 2) (by omega)).trans hGK
  have hGY := (o2 (a + 3) (by omega)).trans hGY
  have hf := hf.st o2 (by omega) (by omega)
  refine pe_aload_n d_Program_init_28 rfl ?_
  refine pe_bipush (v := nI 16) d_Program_init_29 (by decide) ?_
  refine pe_less (fc' := 0 + 1) (fs' := 0 + 16) (by omega) (by omega) ?_
  refine pe_newa (t := 0) (N := 16) (a0 := (16, .inl (fun _ => 0))) d_Program_init_31 rfl ac_int (nI_pos (by omega)) (nI_clamp (by omega)) (by show 16 * 4 ≤ 536870912; omega) (fun _ _ => rfl) ?_
  refine pe_pu (fun h2 e2 o2 => ?_)
  have hGO := (o2 (a) (by omega)).trans hGO
  have hGC := (o2 (a + 1) (by omega)).trans hGC
  have hGK := (o2 (a + 2) (by omega)).trans hGK
  have hGY := (o2 (a + 3) (by omega)).trans hGY
  have hGN : h2 (a + 4) = _ := e2
  have hf := hf.st o2 (by omega) (by omega)
  change pz_E _ _ _ _ _ _ _ _ _ (.ref (a + 4) :: _) _ (a + 5) _
  refine pe_putF d_Program_init_33 g_Program_19 rfl hGO (Nat.le_of_ble_eq_true rfl) rfl ?_
  refine pe_pu (fun h2 e2 o2 => ?_)
  have hGO := e2
  have hGC := (o2 (a + 1) (by omega)).trans hGC
  have hGK := (o2 (a + 2) (by omega)).trans hGK
  have hGY := (o2 (a + 3) (by omega)).trans hGY
  have hGN := (o2 (a + 4) (by omega)).trans hGN
  have hf := hf.st o2 (by omega) (by omega)
  refine pe_aload_n d_Program_init_36 rfl ?_
  refine pe_iconst (v := nI 0) d_Program_init_37 (by decide) ?_
  refine pe_put d_Program_init_38 g_Program_22 hGO (Nat.le_of_ble_eq_true rfl) rfl ?_
  refine pe_pu (fun h2 e2 o2 => ?_)
  have hGO := e2
  have hGC := (o2 (a + 1) (by omega)).trans hGC
  have hGK := (o2 (a + 2) (by omega)).trans hGK
  have hGY := (o2 (a + 3) (by omega)).trans hGY
  have hGN := (o2 (a + 4) (by omega)).trans hGN
  have hf := hf.st o2 (by omega) (by omega)
  refine pe_vret d_Program_init_41 rfl ?_
  exact ⟨rfl, rfl, ⟨hGO, hGC, hGK, hGY, hGN, by omega⟩, hf⟩
set_option maxHeartbeats 4000000 in
set_option maxRecDepth 20000 in
theorem c_Memory_init {l : Launch} {L : Nat} {xs : Nat → Int32} {h : pz_H} {np : Nat} (hn1 : 4 ≤ np) (hn2 : np ≤ 32) (hM : h 1 = some (.inr (1, [.int 0, .null, .null, .null, .null, .null, .null, .int 0, .int 0]))) : pz_K l L xs M_Memory_init 1 6 448 [.ref 1, .int (nI np)] h 2 (fun v h' z' => v = none ∧ z' = 8 ∧ MEM h' np (fun _ => 0) (fil (fun _ => 0) (fun _ => -1) 0 np) (fun _ => 0) (fun _ => 0) (fun _ => false) (fun _ => 0) 0 0 ∧ frm 1 8 h h') := by
  refine pz_K.of rfl (Nat.le_of_ble_eq_true rfl) ?_
  have hf : frm 1 8 h h := frm.rf
  have loop : ∀ (n : Nat) (i : Nat) (k : pz_H), i ≤ np → np + 1 ≤ i + n → k 1 = some (.inr (1, [.int (nI np), .ref 2, .ref 3, .ref 4, .ref 5, .ref 6, .ref 7, .int (nI 0), .int (nI 0)])) → k 2 = some (.inl (0, np * 4, .inl (fun _ => 0))) → k 3 = some (.inl (0, np, .inl (fil (fun _ => 0) (fun _ => -1) 0 i))) → k 4 = some (.inl (0, np * 6, .inl (fun _ => 0))) → k 5 = some (.inl (0, np, .inl (fun _ => 0))) → k 6 = some (.inl (1, np, .inl (fun _ => 0))) → k 7 = some (.inl (0, np, .inl (fun _ => 0))) → frm 1 8 h k → pz_E l L xs M_Memory_init 1 0 0 68 [some (.ref 1), some (.int (nI np)), some (.int (nI i))] [] k 8 (fun v h' z' => v = none ∧ z' = 8 ∧ MEM h' np (fun _ => 0) (fil (fun _ => 0) (fun _ => -1) 0 np) (fun _ => 0) (fun _ => 0) (fun _ => false) (fun _ => 0) 0 0 ∧ frm 1 8 h h') := by
    intro n
    induction n with
    | zero => intros; omega
    | succ n ih =>
      intro i k hi hin hM hW hO hR hT hN hD hf
      refine pe_iload_n d_Memory_init_68 rfl ?_
      refine pe_iload_n d_Memory_init_69 rfl ?_
      refine pe_icmpN_ge (tgt := 86) d_Memory_init_70 (by decide) (by omega) (by omega) (fun c_70 => ?_) (fun c_70 => ?_)
      · refine pe_vret d_Memory_init_86 rfl ?_
        have e : i = np := by omega
        rw [e] at hO
        exact ⟨rfl, rfl, ⟨hM, hW, hO, hR, hT, hN, hD, hn1, hn2⟩, hf⟩
      · refine pe_aload_n d_Memory_init_73 rfl ?_
        refine pe_getf d_Memory_init_74 f_Memory_19 hM rfl ?_
        refine pe_iload_n d_Memory_init_77 rfl ?_
        refine pe_iconst (v := -1) d_Memory_init_78 (by decide) ?_
        refine pe_iastN d_Memory_init_79 hO (by omega) (by omega) ?_
        refine pe_pu (fun h2 e2 o2 => ?_)
        have hM := (o2 (1) (by omega)).trans hM
        have hW := (o2 (2) (by omega)).trans hW
        have hO := e2
        have hR := (o2 (4) (by omega)).trans hR
        have hT := (o2 (5) (by omega)).trans hT
        have hN := (o2 (6) (by omega)).trans hN
        have hD := (o2 (7) (by omega)).trans hD
        have hf := hf.st o2 (by omega) (by omega)
        refine pe_iincN d_Memory_init_80 rfl (by decide) rfl ?_
        dsimp only [List.set]
        refine pe_goto (tgt := 68) d_Memory_init_83 (by decide) ?_
        rw [show upd (fil (fun _ => 0) (fun _ => -1) 0 i) i (-1) = fil (fun _ => 0) (fun _ => -1) 0 (i + 1) from by have e9 := fil_s (fun _ => (0 : Int32)) (fun _ => -1) 0 i; rw [Nat.zero_add] at e9; exact e9] at hO
        exact ih (i + 1) _ (by omega) (by omega) hM hW hO hR hT hN hD hf
  change pz_E l L xs M_Memory_init 1 6 448 0 [some (.ref 1), some (.int (nI np)), none] [] h 2 _
  refine pe_aload_n d_Memory_init_0 rfl ?_
  refine pe_objInit d_Memory_init_1 o_Memory_3 o_1 o_2 (by simp [Value.category]) (by decide) ?_
  refine pe_aload_n d_Memory_init_4 rfl ?_
  refine pe_iload_n d_Memory_init_5 rfl ?_
  refine pe_putF d_Memory_init_6 g_Memory_9 rfl hM (Nat.le_of_ble_eq_true rfl) rfl ?_
  refine pe_pu (fun h2 e2 o2 => ?_)
  have hM := e2
  have hf := hf.st o2 (by omega) (by omega)
  refine pe_aload_n d_Memory_init_9 rfl ?_
  refine pe_iload_n d_Memory_init_10 rfl ?_
  refine pe_iconst (v := nI 4) d_Memory_init_11 (by decide) ?_
  refine pe_imulN d_Memory_init_12 ?_
  refine pe_less (fc' := 5 + 1) (fs' := 320 + (np * 4)) (by omega) (by omega) ?_
  refine pe_newa (t := 0) (N := (np * 4)) (a0 := ((np * 4), .inl (fun _ => 0))) d_Memory_init_13 rfl ac_int (nI_pos (by omega)) (nI_clamp (by omega)) (by show (np * 4) * 4 ≤ 536870912; omega) (fun _ _ => rfl) ?_
  refine pe_pu (fun h2 e2 o2 => ?_)
  have hM := (o2 (1) (by omega)).trans hM
  have hW : h2 (2) = _ := e2
  have hf := hf.st o2 (by omega) (by omega)
  change pz_E _ _ _ _ _ _ _ _ _ (.ref (2) :: _) _ (3) _
  refine pe_putF d_Memory_init_15 g_Memory_15 rfl hM (Nat.le_of_ble_eq_true rfl) rfl ?_
  refine pe_pu (fun h2 e2 o2 => ?_)
  have hM := e2
  have hW := (o2 (2) (by omega)).trans hW
  have hf := hf.st o2 (by omega) (by omega)
  refine pe_aload_n d_Memory_init_18 rfl ?_
  refine pe_iload_n d_Memory_init_19 rfl ?_
  refine pe_less (fc' := 4 + 1) (fs' := 288 + np) (by omega) (by omega) ?_
  refine pe_newa (t := 0) (N := np) (a0 := (np, .inl (fun _ => 0))) d_Memory_init_20 rfl ac_int (nI_pos (by omega)) (nI_clamp (by omega)) (by show np * 4 ≤ 536870912; omega) (fun _ _ => rfl) ?_
  refine pe_pu (fun h2 e2 o2 => ?_)
  have hM := (o2 (1) (by omega)).trans hM
  have hW := (o2 (2) (by omega)).trans hW
  have hO : h2 (3) = _ := e2
  have hf := hf.st o2 (by omega) (by omega)
  change pz_E _ _ _ _ _ _ _ _ _ (.ref (3) :: _) _ (4) _
  refine pe_putF d_Memory_init_22 g_Memory_19 rfl hM (Nat.le_of_ble_eq_true rfl) rfl ?_
  refine pe_pu (fun h2 e2 o2 => ?_)
  have hM := e2
  have hW := (o2 (2) (by omega)).trans hW
  have hO := (o2 (3) (by omega)).trans hO
  have hf := hf.st o2 (by omega) (by omega)
  refine pe_aload_n d_Memory_init_25 rfl ?_
  refine pe_iload_n d_Memory_init_26 rfl ?_
  refine pe_bipush (v := nI 6) d_Memory_init_27 (by decide) ?_
  refine pe_imulN d_Memory_init_29 ?_
  refine pe_less (fc' := 3 + 1) (fs' := 96 + (np * 6)) (by omega) (by omega) ?_
  refine pe_newa (t := 0) (N := (np * 6)) (a0 := ((np * 6), .inl (fun _ => 0))) d_Memory_init_30 rfl ac_int (nI_pos (by omega)) (nI_clamp (by omega)) (by show (np * 6) * 4 ≤ 536870912; omega) (fun _ _ => rfl) ?_
  refine pe_pu (fun h2 e2 o2 => ?_)
  have hM := (o2 (1) (by omega)).trans hM
  have hW := (o2 (2) (by omega)).trans hW
  have hO := (o2 (3) (by omega)).trans hO
  have hR : h2 (4) = _ := e2
  have hf := hf.st o2 (by omega) (by omega)
  change pz_E _ _ _ _ _ _ _ _ _ (.ref (4) :: _) _ (5) _
  refine pe_putF d_Memory_init_32 g_Memory_22 rfl hM (Nat.le_of_ble_eq_true rfl) rfl ?_
  refine pe_pu (fun h2 e2 o2 => ?_)
  have hM := e2
  have hW := (o2 (2) (by omega)).trans hW
  have hO := (o2 (3) (by omega)).trans hO
  have hR := (o2 (4) (by omega)).trans hR
  have hf := hf.st o2 (by omega) (by omega)
  refine pe_aload_n d_Memory_init_35 rfl ?_
  refine pe_iload_n d_Memory_init_36 rfl ?_
  refine pe_less (fc' := 2 + 1) (fs' := 64 + np) (by omega) (by omega) ?_
  refine pe_newa (t := 0) (N := np) (a0 := (np, .inl (fun _ => 0))) d_Memory_init_37 rfl ac_int (nI_pos (by omega)) (nI_clamp (by omega)) (by show np * 4 ≤ 536870912; omega) (fun _ _ => rfl) ?_
  refine pe_pu (fun h2 e2 o2 => ?_)
  have hM := (o2 (1) (by omega)).trans hM
  have hW := (o2 (2) (by omega)).trans hW
  have hO := (o2 (3) (by omega)).trans hO
  have hR := (o2 (4) (by omega)).trans hR
  have hT : h2 (5) = _ := e2
  have hf := hf.st o2 (by omega) (by omega)
  change pz_E _ _ _ _ _ _ _ _ _ (.ref (5) :: _) _ (6) _
  refine pe_putF d_Memory_init_39 g_Memory_25 rfl hM (Nat.le_of_ble_eq_true rfl) rfl ?_
  refine pe_pu (fun h2 e2 o2 => ?_)
  have hM := e2
  have hW := (o2 (2) (by omega)).trans hW
  have hO := (o2 (3) (by omega)).trans hO
  have hR := (o2 (4) (by omega)).trans hR
  have hT := (o2 (5) (by omega)).trans hT
  have hf := hf.st o2 (by omega) (by omega)
  refine pe_aload_n d_Memory_init_42 rfl ?_
  refine pe_iload_n d_Memory_init_43 rfl ?_
  refine pe_less (fc' := 1 + 1) (fs' := 32 + np) (by omega) (by omega) ?_
  refine pe_newa (t := 1) (N := np) (a0 := (np, .inl (fun _ => 0))) d_Memory_init_44 rfl ac_boolean (nI_pos (by omega)) (nI_clamp (by omega)) (by show np * 1 ≤ 536870912; omega) (fun _ _ => rfl) ?_
  refine pe_pu (fun h2 e2 o2 => ?_)
  have hM := (o2 (1) (by omega)).trans hM
  have hW := (o2 (2) (by omega)).trans hW
  have hO := (o2 (3) (by omega)).trans hO
  have hR := (o2 (4) (by omega)).trans hR
  have hT := (o2 (5) (by omega)).trans hT
  have hN : h2 (6) = _ := e2
  have hf := hf.st o2 (by omega) (by omega)
  change pz_E _ _ _ _ _ _ _ _ _ (.ref (6) :: _) _ (7) _
  refine pe_putF d_Memory_init_46 g_Memory_28 rfl hM (Nat.le_of_ble_eq_true rfl) rfl ?_
  refine pe_pu (fun h2 e2 o2 => ?_)
  have hM := e2
  have hW := (o2 (2) (by omega)).trans hW
  have hO := (o2 (3) (by omega)).trans hO
  have hR := (o2 (4) (by omega)).trans hR
  have hT := (o2 (5) (by omega)).trans hT
  have hN := (o2 (6) (by omega)).trans hN
  have hf := hf.st o2 (by omega) (by omega)
  refine pe_aload_n d_Memory_init_49 rfl ?_
  refine pe_iload_n d_Memory_init_50 rfl ?_
  refine pe_less (fc' := 0 + 1) (fs' := 0 + np) (by omega) (by omega) ?_
  refine pe_newa (t := 0) (N := np) (a0 := (np, .inl (fun _ => 0))) d_Memory_init_51 rfl ac_int (nI_pos (by omega)) (nI_clamp (by omega)) (by show np * 4 ≤ 536870912; omega) (fun _ _ => rfl) ?_
  refine pe_pu (fun h2 e2 o2 => ?_)
  have hM := (o2 (1) (by omega)).trans hM
  have hW := (o2 (2) (by omega)).trans hW
  have hO := (o2 (3) (by omega)).trans hO
  have hR := (o2 (4) (by omega)).trans hR
  have hT := (o2 (5) (by omega)).trans hT
  have hN := (o2 (6) (by omega)).trans hN
  have hD : h2 (7) = _ := e2
  have hf := hf.st o2 (by omega) (by omega)
  change pz_E _ _ _ _ _ _ _ _ _ (.ref (7) :: _) _ (8) _
  refine pe_putF d_Memory_init_53 g_Memory_32 rfl hM (Nat.le_of_ble_eq_true rfl) rfl ?_
  refine pe_pu (fun h2 e2 o2 => ?_)
  have hM := e2
  have hW := (o2 (2) (by omega)).trans hW
  have hO := (o2 (3) (by omega)).trans hO
  have hR := (o2 (4) (by omega)).trans hR
  have hT := (o2 (5) (by omega)).trans hT
  have hN := (o2 (6) (by omega)).trans hN
  have hD := (o2 (7) (by omega)).trans hD
  have hf := hf.st o2 (by omega) (by omega)
  refine pe_aload_n d_Memory_init_56 rfl ?_
  refine pe_iconst (v := nI 0) d_Memory_init_57 (by decide) ?_
  refine pe_put d_Memory_init_58 g_Memory_35 hM (Nat.le_of_ble_eq_true rfl) rfl ?_
  refine pe_pu (fun h2 e2 o2 => ?_)
  have hM := e2
  have hW := (o2 (2) (by omega)).trans hW
  have hO := (o2 (3) (by omega)).trans hO
  have hR := (o2 (4) (by omega)).trans hR
  have hT := (o2 (5) (by omega)).trans hT
  have hN := (o2 (6) (by omega)).trans hN
  have hD := (o2 (7) (by omega)).trans hD
  have hf := hf.st o2 (by omega) (by omega)
  refine pe_aload_n d_Memory_init_61 rfl ?_
  refine pe_iconst (v := nI 0) d_Memory_init_62 (by decide) ?_
  refine pe_put d_Memory_init_63 g_Memory_38 hM (Nat.le_of_ble_eq_true rfl) rfl ?_
  refine pe_pu (fun h2 e2 o2 => ?_)
  have hM := e2
  have hW := (o2 (2) (by omega)).trans hW
  have hO := (o2 (3) (by omega)).trans hO
  have hR := (o2 (4) (by omega)).trans hR
  have hT := (o2 (5) (by omega)).trans hT
  have hN := (o2 (6) (by omega)).trans hN
  have hD := (o2 (7) (by omega)).trans hD
  have hf := hf.st o2 (by omega) (by omega)
  refine pe_iconst (v := nI 0) d_Memory_init_66 (by decide) ?_
  refine pe_istore_n d_Memory_init_67 (by decide) rfl ?_
  dsimp only [List.set]
  refine pe_less (fc' := 0) (fs' := 0) (by omega) (by omega) ?_
  exact loop (np + 1) 0 _ (by omega) (by omega) hM hW (by rw [fil_0]; exact hO) hR hT hN hD hf
set_option maxHeartbeats 4000000 in
set_option maxRecDepth 20000 in
theorem c_Disk_init {l : Launch} {L : Nat} {xs : Nat → Int32} {h : pz_H} {nb : Nat} (hn1 : 4 ≤ nb) (hn2 : nb ≤ 32) (hDS : h 8 = some (.inr (2, [.int 0, .null, .null]))) : pz_K l L xs M_Disk_init 1 2 288 [.ref 8, .int (nI nb)] h 9 (fun v h' z' => v = none ∧ z' = 11 ∧ DSK h' nb (fun _ => 0) (fil (fun _ => 0) (fun _ => -1) 0 nb) ∧ frm 8 11 h h') := by
  refine pz_K.of rfl (Nat.le_of_ble_eq_true rfl) ?_
  have hf : frm 8 11 h h := frm.rf
  have loop : ∀ (n : Nat) (i : Nat) (k : pz_H), i ≤ nb → nb + 1 ≤ i + n → k 8 = some (.inr (2, [.int (nI nb), .ref 9, .ref 10])) → k 9 = some (.inl (0, nb * 8, .inl (fun _ => 0))) → k 10 = some (.inl (0, nb, .inl (fil (fun _ => 0) (fun _ => -1) 0 i))) → frm 8 11 h k → pz_E l L xs M_Disk_init 1 0 0 28 [some (.ref 8), some (.int (nI nb)), some (.int (nI i))] [] k 11 (fun v h' z' => v = none ∧ z' = 11 ∧ DSK h' nb (fun _ => 0) (fil (fun _ => 0) (fun _ => -1) 0 nb) ∧ frm 8 11 h h') := by
    intro n
    induction n with
    | zero => intros; omega
    | succ n ih =>
      intro i k hi hin hDS hDW hDO hf
      refine pe_iload_n d_Disk_init_28 rfl ?_
      refine pe_iload_n d_Disk_init_29 rfl ?_
      refine pe_icmpN_ge (tgt := 46) d_Disk_init_30 (by decide) (by omega) (by omega) (fun c_30 => ?_) (fun c_30 => ?_)
      · refine pe_vret d_Disk_init_46 rfl ?_
        have e : i = nb := by omega
        rw [e] at hDO
        exact ⟨rfl, rfl, ⟨hDS, hDW, hDO, hn1, hn2⟩, hf⟩
      · refine pe_aload_n d_Disk_init_33 rfl ?_
        refine pe_getf d_Disk_init_34 f_Disk_19 hDS rfl ?_
        refine pe_iload_n d_Disk_init_37 rfl ?_
        refine pe_iconst (v := -1) d_Disk_init_38 (by decide) ?_
        refine pe_iastN d_Disk_init_39 hDO (by omega) (by omega) ?_
        refine pe_pu (fun h2 e2 o2 => ?_)
        have hDS := (o2 (8) (by omega)).trans hDS
        have hDW := (o2 (9) (by omega)).trans hDW
        have hDO := e2
        have hf := hf.st o2 (by omega) (by omega)
        refine pe_iincN d_Disk_init_40 rfl (by decide) rfl ?_
        dsimp only [List.set]
        refine pe_goto (tgt := 28) d_Disk_init_43 (by decide) ?_
        rw [show upd (fil (fun _ => 0) (fun _ => -1) 0 i) i (-1) = fil (fun _ => 0) (fun _ => -1) 0 (i + 1) from by have e9 := fil_s (fun _ => (0 : Int32)) (fun _ => -1) 0 i; rw [Nat.zero_add] at e9; exact e9] at hDO
        exact ih (i + 1) _ (by omega) (by omega) hDS hDW hDO hf
  change pz_E l L xs M_Disk_init 1 2 288 0 [some (.ref 8), some (.int (nI nb)), none] [] h 9 _
  refine pe_aload_n d_Disk_init_0 rfl ?_
  refine pe_objInit d_Disk_init_1 o_Disk_3 o_1 o_2 (by simp [Value.category]) (by decide) ?_
  refine pe_aload_n d_Disk_init_4 rfl ?_
  refine pe_iload_n d_Disk_init_5 rfl ?_
  refine pe_putF d_Disk_init_6 g_Disk_9 rfl hDS (Nat.le_of_ble_eq_true rfl) rfl ?_
  refine pe_pu (fun h2 e2 o2 => ?_)
  have hDS := e2
  have hf := hf.st o2 (by omega) (by omega)
  refine pe_aload_n d_Disk_init_9 rfl ?_
  refine pe_iload_n d_Disk_init_10 rfl ?_
  refine pe_bipush (v := nI 8) d_Disk_init_11 (by decide) ?_
  refine pe_imulN d_Disk_init_13 ?_
  refine pe_less (fc' := 1 + 1) (fs' := 32 + (nb * 8)) (by omega) (by omega) ?_
  refine pe_newa (t := 0) (N := (nb * 8)) (a0 := ((nb * 8), .inl (fun _ => 0))) d_Disk_init_14 rfl ac_int (nI_pos (by omega)) (nI_clamp (by omega)) (by show (nb * 8) * 4 ≤ 536870912; omega) (fun _ _ => rfl) ?_
  refine pe_pu (fun h2 e2 o2 => ?_)
  have hDS := (o2 (8) (by omega)).trans hDS
  have hDW : h2 (9) = _ := e2
  have hf := hf.st o2 (by omega) (by omega)
  change pz_E _ _ _ _ _ _ _ _ _ (.ref (9) :: _) _ (10) _
  refine pe_putF d_Disk_init_16 g_Disk_15 rfl hDS (Nat.le_of_ble_eq_true rfl) rfl ?_
  refine pe_pu (fun h2 e2 o2 => ?_)
  have hDS := e2
  have hDW := (o2 (9) (by omega)).trans hDW
  have hf := hf.st o2 (by omega) (by omega)
  refine pe_aload_n d_Disk_init_19 rfl ?_
  refine pe_iload_n d_Disk_init_20 rfl ?_
  refine pe_less (fc' := 0 + 1) (fs' := 0 + nb) (by omega) (by omega) ?_
  refine pe_newa (t := 0) (N := nb) (a0 := (nb, .inl (fun _ => 0))) d_Disk_init_21 rfl ac_int (nI_pos (by omega)) (nI_clamp (by omega)) (by show nb * 4 ≤ 536870912; omega) (fun _ _ => rfl) ?_
  refine pe_pu (fun h2 e2 o2 => ?_)
  have hDS := (o2 (8) (by omega)).trans hDS
  have hDW := (o2 (9) (by omega)).trans hDW
  have hDO : h2 (10) = _ := e2
  have hf := hf.st o2 (by omega) (by omega)
  change pz_E _ _ _ _ _ _ _ _ _ (.ref (10) :: _) _ (11) _
  refine pe_putF d_Disk_init_23 g_Disk_19 rfl hDS (Nat.le_of_ble_eq_true rfl) rfl ?_
  refine pe_pu (fun h2 e2 o2 => ?_)
  have hDS := e2
  have hDW := (o2 (9) (by omega)).trans hDW
  have hDO := (o2 (10) (by omega)).trans hDO
  have hf := hf.st o2 (by omega) (by omega)
  refine pe_iconst (v := nI 0) d_Disk_init_26 (by decide) ?_
  refine pe_istore_n d_Disk_init_27 (by decide) rfl ?_
  dsimp only [List.set]
  refine pe_less (fc' := 0) (fs' := 0) (by omega) (by omega) ?_
  exact loop (nb + 1) 0 _ (by omega) (by omega) hDS hDW (by rw [fil_0]; exact hDO) hf
set_option maxHeartbeats 4000000 in
set_option maxRecDepth 20000 in
theorem c_FrameQueue_init {l : Launch} {L : Nat} {xs : Nat → Int32} {h : pz_H} {a : Nat} (hQO : h a = some (.inr (7, [.null, .int 0, .int 0]))) : pz_K l L xs M_FrameQueue_init 2 9 76 [.ref a] h (a + 1) (fun v h' z' => v = none ∧ z' = (a + 10) ∧ QUE a h' (fun _ => (fun _ => 0)) (fun _ => 0) 0 0 ∧ frm a (a + 10) h h') := by
  refine pz_K.of rfl (Nat.le_of_ble_eq_true rfl) ?_
  have hf : frm a (a + 10) h h := frm.rf
  change pz_E l L xs M_FrameQueue_init 2 9 76 0 [some (.ref a), none] [] h (a + 1) _
  refine pe_aload_n d_FrameQueue_init_0 rfl ?_
  refine pe_objInit d_FrameQueue_init_1 o_FrameQueue_1 o_1 o_2 (by simp [Value.category]) (by decide) ?_
  refine pe_aload_n d_FrameQueue_init_4 rfl ?_
  refine pe_iconst (v := nI 4) d_FrameQueue_init_5 (by decide) ?_
  refine pe_less (fc' := 8 + 1) (fs' := 72 + 4) (by omega) (by omega) ?_
  refine pe_newq (t := 3) (N := 4) d_FrameQueue_init_6 rfl q_FrameQueue_9 (by simp [px_ao]) (nI_pos (by omega)) (nI_clamp (by omega)) (by omega) ?_
  refine pe_pu (fun h2 e2 o2 => ?_)
  have hQO := (o2 (a) (by omega)).trans hQO
  have hQA : h2 (a + 1) = _ := e2
  have hf := hf.st o2 (by omega) (by omega)
  change pz_E _ _ _ _ _ _ _ _ _ (.ref (a + 1) :: _) _ (a + 2) _
  refine pe_putF d_FrameQueue_init_9 g_FrameQueue_11 rfl hQO (Nat.le_of_ble_eq_true rfl) rfl ?_
  refine pe_pu (fun h2 e2 o2 => ?_)
  have hQO := e2
  have hQA := (o2 (a + 1) (by omega)).trans hQA
  have hf := hf.st o2 (by omega) (by omega)
  refine pe_aload_n d_FrameQueue_init_12 rfl ?_
  refine pe_iconst (v := nI 0) d_FrameQueue_init_13 (by decide) ?_
  refine pe_put d_FrameQueue_init_14 g_FrameQueue_15 hQO (Nat.le_of_ble_eq_true rfl) rfl ?_
  refine pe_pu (fun h2 e2 o2 => ?_)
  have hQO := e2
  have hQA := (o2 (a + 1) (by omega)).trans hQA
  have hf := hf.st o2 (by omega) (by omega)
  refine pe_aload_n d_FrameQueue_init_17 rfl ?_
  refine pe_iconst (v := nI 0) d_FrameQueue_init_18 (by decide) ?_
  refine pe_put d_FrameQueue_init_19 g_FrameQueue_19 hQO (Nat.le_of_ble_eq_true rfl) rfl ?_
  refine pe_pu (fun h2 e2 o2 => ?_)
  have hQO := e2
  have hQA := (o2 (a + 1) (by omega)).trans hQA
  have hf := hf.st o2 (by omega) (by omega)
  refine pe_iconst (v := nI 0) d_FrameQueue_init_22 (by decide) ?_
  refine pe_istore_n d_FrameQueue_init_23 (by decide) rfl ?_
  dsimp only [List.set]
  refine pe_iload_n d_FrameQueue_init_24 rfl ?_
  refine pe_iconst (v := nI 4) d_FrameQueue_init_25 (by decide) ?_
  refine pe_icmpN_ge (tgt := 48) d_FrameQueue_init_26 (by decide) (by omega) (by omega) (fun c_26 => ?_) (fun c_26 => ?_)
  · exfalso; omega
  · refine pe_aload_n d_FrameQueue_init_29 rfl ?_
    refine pe_getf d_FrameQueue_init_30 f_FrameQueue_11 hQO rfl ?_
    refine pe_iload_n d_FrameQueue_init_33 rfl ?_
    refine pe_less (fc' := 7 + 1) (fs' := 70 + 2) (by omega) (by omega) ?_
    refine pe_new d_FrameQueue_init_34 n_FrameQueue_9 ?_
    refine pe_pu (fun h2 e2 o2 => ?_)
    have hQO := (o2 (a) (by omega)).trans hQO
    have hQA := (o2 (a + 1) (by omega)).trans hQA
    have hF0 : h2 (a + 2) = _ := e2
    have hf := hf.st o2 (by omega) (by omega)
    change pz_E _ _ _ _ _ _ _ _ _ (.ref (a + 2) :: _) _ (a + 3) _
    refine pe_dup d_FrameQueue_init_37 rfl ?_
    refine pe_less (fc' := 6 + 1) (fs' := 54 + 16) (by omega) (by omega) ?_
    -- 38: Frame_init
    refine pe_callI d_FrameQueue_init_38 m_FrameQueue_22 j_Frame_init rfl rfl (c_Frame_init hF0) rfl rfl (by simp [Value.category]) (by decide) ?_
    intro v7 h7 z7 hq7
    obtain ⟨rfl, rfl, hR0, hf7⟩ := hq7
    have hQO := (hf7 (a) (by omega)).trans hQO
    have hQA := (hf7 (a + 1) (by omega)).trans hQA
    have hf := hf.tr (hf7.wd (by omega) (by omega))
    change pz_E _ _ _ _ _ _ _ _ _ _ _ _ _
    refine pe_aast d_FrameQueue_init_41 rfl hQA hR0.1 rfl (by unfold vp_in; decide) ?_
    refine pe_pu (fun h2 e2 o2 => ?_)
    have hQO := (o2 (a) (by omega)).trans hQO
    have hQA := e2
    have hf := hf.st o2 (by omega) (by omega)
    have hR0 := hR0.on (fun c9 h9 h8 => o2 c9 (by omega))
    refine pe_iinc (v := nI 1) d_FrameQueue_init_42 rfl (by decide) (by decide) rfl ?_
    dsimp only [List.set]
    refine pe_goto (tgt := 24) d_FrameQueue_init_45 (by decide) ?_
    refine pe_iload_n d_FrameQueue_init_24 rfl ?_
    refine pe_iconst (v := nI 4) d_FrameQueue_init_25 (by decide) ?_
    refine pe_icmpN_ge (tgt := 48) d_FrameQueue_init_26 (by decide) (by omega) (by omega) (fun c_26 => ?_) (fun c_26 => ?_)
    · exfalso; omega
    · refine pe_aload_n d_FrameQueue_init_29 rfl ?_
      refine pe_getf d_FrameQueue_init_30 f_FrameQueue_11 hQO rfl ?_
      refine pe_iload_n d_FrameQueue_init_33 rfl ?_
      refine pe_less (fc' := 5 + 1) (fs' := 52 + 2) (by omega) (by omega) ?_
      refine pe_new d_FrameQueue_init_34 n_FrameQueue_9 ?_
      refine pe_pu (fun h2 e2 o2 => ?_)
      have hQO := (o2 (a) (by omega)).trans hQO
      have hQA := (o2 (a + 1) (by omega)).trans hQA
      have hF1 : h2 (a + 4) = _ := e2
      have hf := hf.st o2 (by omega) (by omega)
      have hR0 := hR0.on (fun c9 h9 h8 => o2 c9 (by omega))
      change pz_E _ _ _ _ _ _ _ _ _ (.ref (a + 4) :: _) _ (a + 5) _
      refine pe_dup d_FrameQueue_init_37 rfl ?_
      refine pe_less (fc' := 4 + 1) (fs' := 36 + 16) (by omega) (by omega) ?_
      -- 38: Frame_init
      refine pe_callI d_FrameQueue_init_38 m_FrameQueue_22 j_Frame_init rfl rfl (c_Frame_init hF1) rfl rfl (by simp [Value.category]) (by decide) ?_
      intro v7 h7 z7 hq7
      obtain ⟨rfl, rfl, hR1, hf7⟩ := hq7
      have hQO := (hf7 (a) (by omega)).trans hQO
      have hQA := (hf7 (a + 1) (by omega)).trans hQA
      have hR0 := hR0.on (hf7.on (by omega))
      have hf := hf.tr (hf7.wd (by omega) (by omega))
      change pz_E _ _ _ _ _ _ _ _ _ _ _ _ _
      refine pe_aast d_FrameQueue_init_41 rfl hQA hR1.1 rfl (by unfold vp_in; decide) ?_
      refine pe_pu (fun h2 e2 o2 => ?_)
      have hQO := (o2 (a) (by omega)).trans hQO
      have hQA := e2
      have hf := hf.st o2 (by omega) (by omega)
      have hR0 := hR0.on (fun c9 h9 h8 => o2 c9 (by omega))
      have hR1 := hR1.on (fun c9 h9 h8 => o2 c9 (by omega))
      refine pe_iinc (v := nI 2) d_FrameQueue_init_42 rfl (by decide) (by decide) rfl ?_
      dsimp only [List.set]
      refine pe_goto (tgt := 24) d_FrameQueue_init_45 (by decide) ?_
      refine pe_iload_n d_FrameQueue_init_24 rfl ?_
      refine pe_iconst (v := nI 4) d_FrameQueue_init_25 (by decide) ?_
      refine pe_icmpN_ge (tgt := 48) d_FrameQueue_init_26 (by decide) (by omega) (by omega) (fun c_26 => ?_) (fun c_26 => ?_)
      · exfalso; omega
      · refine pe_aload_n d_FrameQueue_init_29 rfl ?_
        refine pe_getf d_FrameQueue_init_30 f_FrameQueue_11 hQO rfl ?_
        refine pe_iload_n d_FrameQueue_init_33 rfl ?_
        refine pe_less (fc' := 3 + 1) (fs' := 34 + 2) (by omega) (by omega) ?_
        refine pe_new d_FrameQueue_init_34 n_FrameQueue_9 ?_
        refine pe_pu (fun h2 e2 o2 => ?_)
        have hQO := (o2 (a) (by omega)).trans hQO
        have hQA := (o2 (a + 1) (by omega)).trans hQA
        have hF2 : h2 (a + 6) = _ := e2
        have hf := hf.st o2 (by omega) (by omega)
        have hR0 := hR0.on (fun c9 h9 h8 => o2 c9 (by omega))
        have hR1 := hR1.on (fun c9 h9 h8 => o2 c9 (by omega))
        change pz_E _ _ _ _ _ _ _ _ _ (.ref (a + 6) :: _) _ (a + 7) _
        refine pe_dup d_FrameQueue_init_37 rfl ?_
        refine pe_less (fc' := 2 + 1) (fs' := 18 + 16) (by omega) (by omega) ?_
        -- 38: Frame_init
        refine pe_callI d_FrameQueue_init_38 m_FrameQueue_22 j_Frame_init rfl rfl (c_Frame_init hF2) rfl rfl (by simp [Value.category]) (by decide) ?_
        intro v7 h7 z7 hq7
        obtain ⟨rfl, rfl, hR2, hf7⟩ := hq7
        have hQO := (hf7 (a) (by omega)).trans hQO
        have hQA := (hf7 (a + 1) (by omega)).trans hQA
        have hR0 := hR0.on (hf7.on (by omega))
        have hR1 := hR1.on (hf7.on (by omega))
        have hf := hf.tr (hf7.wd (by omega) (by omega))
        change pz_E _ _ _ _ _ _ _ _ _ _ _ _ _
        refine pe_aast d_FrameQueue_init_41 rfl hQA hR2.1 rfl (by unfold vp_in; decide) ?_
        refine pe_pu (fun h2 e2 o2 => ?_)
        have hQO := (o2 (a) (by omega)).trans hQO
        have hQA := e2
        have hf := hf.st o2 (by omega) (by omega)
        have hR0 := hR0.on (fun c9 h9 h8 => o2 c9 (by omega))
        have hR1 := hR1.on (fun c9 h9 h8 => o2 c9 (by omega))
        have hR2 := hR2.on (fun c9 h9 h8 => o2 c9 (by omega))
        refine pe_iinc (v := nI 3) d_FrameQueue_init_42 rfl (by decide) (by decide) rfl ?_
        dsimp only [List.set]
        refine pe_goto (tgt := 24) d_FrameQueue_init_45 (by decide) ?_
        refine pe_iload_n d_FrameQueue_init_24 rfl ?_
        refine pe_iconst (v := nI 4) d_FrameQueue_init_25 (by decide) ?_
        refine pe_icmpN_ge (tgt := 48) d_FrameQueue_init_26 (by decide) (by omega) (by omega) (fun c_26 => ?_) (fun c_26 => ?_)
        · exfalso; omega
        · refine pe_aload_n d_FrameQueue_init_29 rfl ?_
          refine pe_getf d_FrameQueue_init_30 f_FrameQueue_11 hQO rfl ?_
          refine pe_iload_n d_FrameQueue_init_33 rfl ?_
          refine pe_less (fc' := 1 + 1) (fs' := 16 + 2) (by omega) (by omega) ?_
          refine pe_new d_FrameQueue_init_34 n_FrameQueue_9 ?_
          refine pe_pu (fun h2 e2 o2 => ?_)
          have hQO := (o2 (a) (by omega)).trans hQO
          have hQA := (o2 (a + 1) (by omega)).trans hQA
          have hF3 : h2 (a + 8) = _ := e2
          have hf := hf.st o2 (by omega) (by omega)
          have hR0 := hR0.on (fun c9 h9 h8 => o2 c9 (by omega))
          have hR1 := hR1.on (fun c9 h9 h8 => o2 c9 (by omega))
          have hR2 := hR2.on (fun c9 h9 h8 => o2 c9 (by omega))
          change pz_E _ _ _ _ _ _ _ _ _ (.ref (a + 8) :: _) _ (a + 9) _
          refine pe_dup d_FrameQueue_init_37 rfl ?_
          refine pe_less (fc' := 0 + 1) (fs' := 0 + 16) (by omega) (by omega) ?_
          -- 38: Frame_init
          refine pe_callI d_FrameQueue_init_38 m_FrameQueue_22 j_Frame_init rfl rfl (c_Frame_init hF3) rfl rfl (by simp [Value.category]) (by decide) ?_
          intro v7 h7 z7 hq7
          obtain ⟨rfl, rfl, hR3, hf7⟩ := hq7
          have hQO := (hf7 (a) (by omega)).trans hQO
          have hQA := (hf7 (a + 1) (by omega)).trans hQA
          have hR0 := hR0.on (hf7.on (by omega))
          have hR1 := hR1.on (hf7.on (by omega))
          have hR2 := hR2.on (hf7.on (by omega))
          have hf := hf.tr (hf7.wd (by omega) (by omega))
          change pz_E _ _ _ _ _ _ _ _ _ _ _ _ _
          refine pe_aast d_FrameQueue_init_41 rfl hQA hR3.1 rfl (by unfold vp_in; decide) ?_
          refine pe_pu (fun h2 e2 o2 => ?_)
          have hQO := (o2 (a) (by omega)).trans hQO
          have hQA := e2
          have hf := hf.st o2 (by omega) (by omega)
          have hR0 := hR0.on (fun c9 h9 h8 => o2 c9 (by omega))
          have hR1 := hR1.on (fun c9 h9 h8 => o2 c9 (by omega))
          have hR2 := hR2.on (fun c9 h9 h8 => o2 c9 (by omega))
          have hR3 := hR3.on (fun c9 h9 h8 => o2 c9 (by omega))
          refine pe_iinc (v := nI 4) d_FrameQueue_init_42 rfl (by decide) (by decide) rfl ?_
          dsimp only [List.set]
          refine pe_goto (tgt := 24) d_FrameQueue_init_45 (by decide) ?_
          refine pe_iload_n d_FrameQueue_init_24 rfl ?_
          refine pe_iconst (v := nI 4) d_FrameQueue_init_25 (by decide) ?_
          refine pe_icmpN_ge (tgt := 48) d_FrameQueue_init_26 (by decide) (by omega) (by omega) (fun c_26 => ?_) (fun c_26 => ?_)
          · refine pe_eqv (f' := fun j => some (a + 2 + 2 * j)) hQA (by intro j hj; rcases (show j = 0 ∨ j = 1 ∨ j = 2 ∨ j = 3 by omega) with rfl | rfl | rfl | rfl <;> rfl) ?_
            refine pe_pu (fun h2 e2 o2 => ?_)
            have hQO := (o2 (a) (by omega)).trans hQO
            have hQA : h2 (a + 1) = _ := e2
            have hR0 := hR0.on (fun c9 h9 h8 => o2 c9 (by omega))
            have hR1 := hR1.on (fun c9 h9 h8 => o2 c9 (by omega))
            have hR2 := hR2.on (fun c9 h9 h8 => o2 c9 (by omega))
            have hR3 := hR3.on (fun c9 h9 h8 => o2 c9 (by omega))
            have hf := hf.st o2 (by omega) (by omega)
            refine pe_vret d_FrameQueue_init_48 rfl ?_
            exact ⟨rfl, rfl, ⟨hQO, hQA, (fun j hj => by rcases (show j = 0 ∨ j = 1 ∨ j = 2 ∨ j = 3 by omega) with rfl | rfl | rfl | rfl <;> first | exact hR0 | exact hR1 | exact hR2 | exact hR3), by omega, by omega⟩, hf⟩
          · exfalso; omega
/-- a new application at a -/
def APZ (a : Nat) (h : pz_H) : Prop := AOB a h (a + 15) (a + 20) false false 0 0 ∧ PGL (a + 1) h (fun _ => 0) 0 0 ∧ QUE (a + 3) h (fun _ => (fun _ => 0)) (fun _ => 0) 0 0 ∧ TAB (a + 13) h (fun _ => 0) 0 ∧ PRG (a + 15) h (fun _ => 0) (fun _ => 0) (fun _ => 0) (fun _ => 0) 0 ∧ PRG (a + 20) h (fun _ => 0) (fun _ => 0) (fun _ => 0) (fun _ => 0) 0
theorem APZ.on {a : Nat} {h h' : pz_H} (m : APZ a h) (f : ∀ c, a ≤ c → c < a + 25 → h' c = h c) : APZ a h' := by
  obtain ⟨m1, m2, m3, m4, m5, m6⟩ := m
  exact ⟨m1.on (fun c h1 h2 => f c (by omega) (by omega)), m2.on (fun c h1 h2 => f c (by omega) (by omega)), m3.on (fun c h1 h2 => f c (by omega) (by omega)), m4.on (fun c h1 h2 => f c (by omega) (by omega)), m5.on (fun c h1 h2 => f c (by omega) (by omega)), m6.on (fun c h1 h2 => f c (by omega) (by omega))⟩
set_option maxHeartbeats 4000000 in
set_option maxRecDepth 20000 in
theorem c_Application_init {l : Launch} {L : Nat} {xs : Nat → Int32} {h : pz_H} {a : Nat} (hA : h a = some (.inr (5, [.null, .null, .null, .null, .null, .int 0, .int 0, .int 0, .int 0]))) : pz_K l L xs M_Application_init 3 40 400 [.ref a] h (a + 1) (fun v h' z' => v = none ∧ z' = a + 25 ∧ APZ a h' ∧ frm a (a + 25) h h') := by
  refine pz_K.of rfl (Nat.le_of_ble_eq_true rfl) ?_
  have hf : frm a (a + 25) h h := frm.rf
  change pz_E l L xs M_Application_init 3 40 400 0 [some (.ref a)] [] h (a + 1) _
  refine pe_aload_n d_Application_init_0 rfl ?_
  refine pe_objInit d_Application_init_1 o_Application_1 o_1 o_2 (by simp [Value.category]) (by decide) ?_
  refine pe_aload_n d_Application_init_4 rfl ?_
  refine pe_less (fc' := 39 + 1) (fs' := 397 + 3) (by omega) (by omega) ?_
  refine pe_new d_Application_init_5 n_Application_7 ?_
  refine pe_pu (fun h2 e2 o2 => ?_)
  have hA := (o2 (a) (by omega)).trans hA
  have hg0 : h2 (a + 1) = _ := e2
  have hf := hf.st o2 (by omega) (by omega)
  change pz_E _ _ _ _ _ _ _ _ _ (.ref (a + 1) :: _) _ (a + 2) _
  refine pe_dup d_Application_init_8 rfl ?_
  refine pe_less (fc' := 38 + 1) (fs' := 389 + 8) (by omega) (by omega) ?_
  -- 9: PageList_init
  refine pe_callI d_Application_init_9 m_Application_9 j_PageList_init rfl rfl (c_PageList_init hg0) rfl rfl (by simp [Value.category]) (by decide) ?_
  intro v7 h7 z7 hq7
  obtain ⟨rfl, rfl, hg, hf7⟩ := hq7
  have hA := (hf7 (a) (by omega)).trans hA
  have hf := hf.tr (hf7.wd (by omega) (by omega))
  change pz_E _ _ _ _ _ _ _ _ _ _ _ _ _
  refine pe_putF d_Application_init_12 g_Application_10 rfl hA (Nat.le_of_ble_eq_true rfl) rfl ?_
  refine pe_pu (fun h2 e2 o2 => ?_)
  have hA := e2
  have hf := hf.st o2 (by omega) (by omega)
  have hg := hg.on (fun c9 h9 h8 => o2 c9 (by omega))
  refine pe_aload_n d_Application_init_15 rfl ?_
  refine pe_less (fc' := 37 + 1) (fs' := 386 + 3) (by omega) (by omega) ?_
  refine pe_new d_Application_init_16 n_Application_16 ?_
  refine pe_pu (fun h2 e2 o2 => ?_)
  have hA := (o2 (a) (by omega)).trans hA
  have hq0 : h2 (a + 3) = _ := e2
  have hf := hf.st o2 (by omega) (by omega)
  have hg := hg.on (fun c9 h9 h8 => o2 c9 (by omega))
  change pz_E _ _ _ _ _ _ _ _ _ (.ref (a + 3) :: _) _ (a + 4) _
  refine pe_dup d_Application_init_19 rfl ?_
  refine pe_less (fc' := 28 + 9) (fs' := 310 + 76) (by omega) (by omega) ?_
  -- 20: FrameQueue_init
  refine pe_callI d_Application_init_20 m_Application_18 j_FrameQueue_init rfl rfl (c_FrameQueue_init hq0) rfl rfl (by simp [Value.category]) (by decide) ?_
  intro v7 h7 z7 hq7
  obtain ⟨rfl, rfl, hq, hf7⟩ := hq7
  have hA := (hf7 (a) (by omega)).trans hA
  have hg := hg.on (hf7.on (by omega))
  have hf := hf.tr (hf7.wd (by omega) (by omega))
  change pz_E _ _ _ _ _ _ _ _ _ _ _ _ _
  refine pe_putF d_Application_init_23 g_Application_19 rfl hA (Nat.le_of_ble_eq_true rfl) rfl ?_
  refine pe_pu (fun h2 e2 o2 => ?_)
  have hA := e2
  have hf := hf.st o2 (by omega) (by omega)
  have hg := hg.on (fun c9 h9 h8 => o2 c9 (by omega))
  have hq := hq.on (fun c9 h9 h8 => o2 c9 (by omega))
  refine pe_aload_n d_Application_init_26 rfl ?_
  refine pe_less (fc' := 27 + 1) (fs' := 308 + 2) (by omega) (by omega) ?_
  refine pe_new d_Application_init_27 n_Application_23 ?_
  refine pe_pu (fun h2 e2 o2 => ?_)
  have hA := (o2 (a) (by omega)).trans hA
  have ht0 : h2 (a + 13) = _ := e2
  have hf := hf.st o2 (by omega) (by omega)
  have hg := hg.on (fun c9 h9 h8 => o2 c9 (by omega))
  have hq := hq.on (fun c9 h9 h8 => o2 c9 (by omega))
  change pz_E _ _ _ _ _ _ _ _ _ (.ref (a + 13) :: _) _ (a + 14) _
  refine pe_dup d_Application_init_30 rfl ?_
  refine pe_less (fc' := 26 + 1) (fs' := 301 + 7) (by omega) (by omega) ?_
  -- 31: EntryTable_init
  refine pe_callI d_Application_init_31 m_Application_25 j_EntryTable_init rfl rfl (c_EntryTable_init ht0) rfl rfl (by simp [Value.category]) (by decide) ?_
  intro v7 h7 z7 hq7
  obtain ⟨rfl, rfl, ht, hf7⟩ := hq7
  have hA := (hf7 (a) (by omega)).trans hA
  have hg := hg.on (hf7.on (by omega))
  have hq := hq.on (hf7.on (by omega))
  have hf := hf.tr (hf7.wd (by omega) (by omega))
  change pz_E _ _ _ _ _ _ _ _ _ _ _ _ _
  refine pe_putF d_Application_init_34 g_Application_26 rfl hA (Nat.le_of_ble_eq_true rfl) rfl ?_
  refine pe_pu (fun h2 e2 o2 => ?_)
  have hA := e2
  have hf := hf.st o2 (by omega) (by omega)
  have hg := hg.on (fun c9 h9 h8 => o2 c9 (by omega))
  have hq := hq.on (fun c9 h9 h8 => o2 c9 (by omega))
  have ht := ht.on (fun c9 h9 h8 => o2 c9 (by omega))
  refine pe_aload_n d_Application_init_37 rfl ?_
  refine pe_less (fc' := 25 + 1) (fs' := 296 + 5) (by omega) (by omega) ?_
  refine pe_new d_Application_init_38 n_Application_30 ?_
  refine pe_pu (fun h2 e2 o2 => ?_)
  have hA := (o2 (a) (by omega)).trans hA
  have hp10 : h2 (a + 15) = _ := e2
  have hf := hf.st o2 (by omega) (by omega)
  have hg := hg.on (fun c9 h9 h8 => o2 c9 (by omega))
  have hq := hq.on (fun c9 h9 h8 => o2 c9 (by omega))
  have ht := ht.on (fun c9 h9 h8 => o2 c9 (by omega))
  change pz_E _ _ _ _ _ _ _ _ _ (.ref (a + 15) :: _) _ (a + 16) _
  refine pe_dup d_Application_init_41 rfl ?_
  refine pe_less (fc' := 21 + 4) (fs' := 232 + 64) (by omega) (by omega) ?_
  -- 42: Program_init
  refine pe_callI d_Application_init_42 m_Application_32 j_Program_init rfl rfl (c_Program_init hp10) rfl rfl (by simp [Value.category]) (by decide) ?_
  intro v7 h7 z7 hq7
  obtain ⟨rfl, rfl, hp1, hf7⟩ := hq7
  have hA := (hf7 (a) (by omega)).trans hA
  have hg := hg.on (hf7.on (by omega))
  have hq := hq.on (hf7.on (by omega))
  have ht := ht.on (hf7.on (by omega))
  have hf := hf.tr (hf7.wd (by omega) (by omega))
  change pz_E _ _ _ _ _ _ _ _ _ _ _ _ _
  refine pe_put d_Application_init_45 g_Application_33 hA (Nat.le_of_ble_eq_true rfl) rfl ?_
  refine pe_pu (fun h2 e2 o2 => ?_)
  have hA := e2
  have hf := hf.st o2 (by omega) (by omega)
  have hg := hg.on (fun c9 h9 h8 => o2 c9 (by omega))
  have hq := hq.on (fun c9 h9 h8 => o2 c9 (by omega))
  have ht := ht.on (fun c9 h9 h8 => o2 c9 (by omega))
  have hp1 := hp1.on (fun c9 h9 h8 => o2 c9 (by omega))
  refine pe_aload_n d_Application_init_48 rfl ?_
  refine pe_less (fc' := 20 + 1) (fs' := 227 + 5) (by omega) (by omega) ?_
  refine pe_new d_Application_init_49 n_Application_30 ?_
  refine pe_pu (fun h2 e2 o2 => ?_)
  have hA := (o2 (a) (by omega)).trans hA
  have hp20 : h2 (a + 20) = _ := e2
  have hf := hf.st o2 (by omega) (by omega)
  have hg := hg.on (fun c9 h9 h8 => o2 c9 (by omega))
  have hq := hq.on (fun c9 h9 h8 => o2 c9 (by omega))
  have ht := ht.on (fun c9 h9 h8 => o2 c9 (by omega))
  have hp1 := hp1.on (fun c9 h9 h8 => o2 c9 (by omega))
  change pz_E _ _ _ _ _ _ _ _ _ (.ref (a + 20) :: _) _ (a + 21) _
  refine pe_dup d_Application_init_52 rfl ?_
  refine pe_less (fc' := 16 + 4) (fs' := 163 + 64) (by omega) (by omega) ?_
  -- 53: Program_init
  refine pe_callI d_Application_init_53 m_Application_32 j_Program_init rfl rfl (c_Program_init hp20) rfl rfl (by simp [Value.category]) (by decide) ?_
  intro v7 h7 z7 hq7
  obtain ⟨rfl, rfl, hp2, hf7⟩ := hq7
  have hA := (hf7 (a) (by omega)).trans hA
  have hg := hg.on (hf7.on (by omega))
  have hq := hq.on (hf7.on (by omega))
  have ht := ht.on (hf7.on (by omega))
  have hp1 := hp1.on (hf7.on (by omega))
  have hf := hf.tr (hf7.wd (by omega) (by omega))
  change pz_E _ _ _ _ _ _ _ _ _ _ _ _ _
  refine pe_put d_Application_init_56 g_Application_37 hA (Nat.le_of_ble_eq_true rfl) rfl ?_
  refine pe_pu (fun h2 e2 o2 => ?_)
  have hA := e2
  have hf := hf.st o2 (by omega) (by omega)
  have hg := hg.on (fun c9 h9 h8 => o2 c9 (by omega))
  have hq := hq.on (fun c9 h9 h8 => o2 c9 (by omega))
  have ht := ht.on (fun c9 h9 h8 => o2 c9 (by omega))
  have hp1 := hp1.on (fun c9 h9 h8 => o2 c9 (by omega))
  have hp2 := hp2.on (fun c9 h9 h8 => o2 c9 (by omega))
  refine pe_aload_n d_Application_init_59 rfl ?_
  refine pe_iconst (v := nI 0) d_Application_init_60 (by decide) ?_
  refine pe_top (y := .int (pb false)) (by decide) ?_
  refine pe_put d_Application_init_61 g_Application_40 hA (Nat.le_of_ble_eq_true rfl) (pb_fits _) ?_
  refine pe_pu (fun h2 e2 o2 => ?_)
  have hA := e2
  have hf := hf.st o2 (by omega) (by omega)
  have hg := hg.on (fun c9 h9 h8 => o2 c9 (by omega))
  have hq := hq.on (fun c9 h9 h8 => o2 c9 (by omega))
  have ht := ht.on (fun c9 h9 h8 => o2 c9 (by omega))
  have hp1 := hp1.on (fun c9 h9 h8 => o2 c9 (by omega))
  have hp2 := hp2.on (fun c9 h9 h8 => o2 c9 (by omega))
  refine pe_aload_n d_Application_init_64 rfl ?_
  refine pe_iconst (v := nI 0) d_Application_init_65 (by decide) ?_
  refine pe_top (y := .int (pb false)) (by decide) ?_
  refine pe_put d_Application_init_66 g_Application_44 hA (Nat.le_of_ble_eq_true rfl) (pb_fits _) ?_
  refine pe_pu (fun h2 e2 o2 => ?_)
  have hA := e2
  have hf := hf.st o2 (by omega) (by omega)
  have hg := hg.on (fun c9 h9 h8 => o2 c9 (by omega))
  have hq := hq.on (fun c9 h9 h8 => o2 c9 (by omega))
  have ht := ht.on (fun c9 h9 h8 => o2 c9 (by omega))
  have hp1 := hp1.on (fun c9 h9 h8 => o2 c9 (by omega))
  have hp2 := hp2.on (fun c9 h9 h8 => o2 c9 (by omega))
  refine pe_aload_n d_Application_init_69 rfl ?_
  refine pe_iconst (v := nI 0) d_Application_init_70 (by decide) ?_
  refine pe_put d_Application_init_71 g_Application_47 hA (Nat.le_of_ble_eq_true rfl) rfl ?_
  refine pe_pu (fun h2 e2 o2 => ?_)
  have hA := e2
  have hf := hf.st o2 (by omega) (by omega)
  have hg := hg.on (fun c9 h9 h8 => o2 c9 (by omega))
  have hq := hq.on (fun c9 h9 h8 => o2 c9 (by omega))
  have ht := ht.on (fun c9 h9 h8 => o2 c9 (by omega))
  have hp1 := hp1.on (fun c9 h9 h8 => o2 c9 (by omega))
  have hp2 := hp2.on (fun c9 h9 h8 => o2 c9 (by omega))
  refine pe_aload_n d_Application_init_74 rfl ?_
  refine pe_iconst (v := nI 0) d_Application_init_75 (by decide) ?_
  refine pe_put d_Application_init_76 g_Application_51 hA (Nat.le_of_ble_eq_true rfl) rfl ?_
  refine pe_pu (fun h2 e2 o2 => ?_)
  have hA := e2
  have hf := hf.st o2 (by omega) (by omega)
  have hg := hg.on (fun c9 h9 h8 => o2 c9 (by omega))
  have hq := hq.on (fun c9 h9 h8 => o2 c9 (by omega))
  have ht := ht.on (fun c9 h9 h8 => o2 c9 (by omega))
  have hp1 := hp1.on (fun c9 h9 h8 => o2 c9 (by omega))
  have hp2 := hp2.on (fun c9 h9 h8 => o2 c9 (by omega))
  refine pe_vret d_Application_init_79 rfl ?_
  exact ⟨rfl, rfl, ⟨hA, hg, hq, ht, hp1, hp2⟩, hf⟩
set_option maxHeartbeats 4000000 in
set_option maxRecDepth 20000 in
theorem c_K_clampSize {l : Launch} {L : Nat} {xs : Nat → Int32} {h : pz_H} {z : Nat} (x : Int32) : pz_K l L xs M_K_clampSize 1 0 0 [.int x] h z (fun v h' z' => v = some (.int (nI (clp x))) ∧ h = h' ∧ z = z') := by
  refine pz_K.of rfl (Nat.le_of_ble_eq_true rfl) ?_
  change pz_E l L xs M_K_clampSize 1 0 0 0 [some (.int x)] [] h z _
  refine pe_iconst (v := nI 4) d_K_clampSize_0 (by decide) ?_
  refine pe_bipush (v := nI 32) d_K_clampSize_1 (by decide) ?_
  refine pe_iload_n d_K_clampSize_3 rfl ?_
  -- 4: Math_min
  refine pe_callS d_K_clampSize_4 m_K_287 s_Math_min (c_Math_min _ _) rfl rfl (by simp [Value.category]) (by decide) ?_
  intro v1 h1 z1 hq1
  obtain ⟨rfl, rfl, rfl⟩ := hq1
  change pz_E _ _ _ _ _ _ _ _ _ (_ :: _) _ _ _
  -- 7: Math_max
  refine pe_callS d_K_clampSize_7 m_K_290 s_Math_max (c_Math_max _ _) rfl rfl (by simp [Value.category]) (by decide) ?_
  intro v1 h1 z1 hq1
  obtain ⟨rfl, rfl, rfl⟩ := hq1
  change pz_E _ _ _ _ _ _ _ _ _ (_ :: _) _ _ _
  refine pe_iret d_K_clampSize_10 rfl ?_
  exact ⟨by rw [clp_k], rfl, rfl⟩
set_option maxHeartbeats 4000000 in
set_option maxRecDepth 20000 in
theorem c_K_init {l : Launch} {L : Nat} {xs : Nat → Int32} {h : pz_H} (x y : Int32) (hKO : h 0 = some (.inr (0, [.null, .null, .null, .null, .null, .int 0]))) : pz_K l L xs M_K_init 4 400 6000 [.ref 0, .int x, .int y] h 1 (fun v h' z' => v = none ∧ z' = 166 ∧ KOB h' 0 ∧ MEM h' (clp x) (fun _ => 0) (fil (fun _ => 0) (fun _ => -1) 0 (clp x)) (fun _ => 0) (fun _ => 0) (fun _ => false) (fun _ => 0) 0 0 ∧ DSK h' (clp y) (fun _ => 0) (fil (fun _ => 0) (fun _ => -1) 0 (clp y)) ∧ ORD h' (fun _ => 0) 0 ∧ FRA 13 h' (fun _ => 0) 0 ∧ (∀ i, i < 6 → APZ (16 + 25 * i) h') ∧ frm 0 166 h h') := by
  refine pz_K.of rfl (Nat.le_of_ble_eq_true rfl) ?_
  have hf : frm 0 166 h h := frm.rf
  change pz_E l L xs M_K_init 4 400 6000 0 [some (.ref 0), some (.int x), some (.int y), none] [] h 1 _
  refine pe_aload_n d_K_init_0 rfl ?_
  refine pe_objInit d_K_init_1 o_K_1 o_1 o_2 (by simp [Value.category]) (by decide) ?_
  refine pe_aload_n d_K_init_4 rfl ?_
  refine pe_less (fc' := 399 + 1) (fs' := 5991 + 9) (by omega) (by omega) ?_
  refine pe_new d_K_init_5 n_K_7 ?_
  refine pe_pu (fun h2 e2 o2 => ?_)
  have hKO := (o2 (0) (by omega)).trans hKO
  have hm0 : h2 (1) = _ := e2
  have hf := hf.st o2 (by omega) (by omega)
  change pz_E _ _ _ _ _ _ _ _ _ (.ref (1) :: _) _ (2) _
  refine pe_dup d_K_init_8 rfl ?_
  refine pe_iload_n d_K_init_9 rfl ?_
  -- 10: K_clampSize
  refine pe_callS d_K_init_10 m_K_9 s_K_clampSize (c_K_clampSize _) rfl rfl (by simp [Value.category]) (by decide) ?_
  intro v1 h1 z1 hq1
  obtain ⟨rfl, rfl, rfl⟩ := hq1
  change pz_E _ _ _ _ _ _ _ _ _ (_ :: _) _ _ _
  refine pe_less (fc' := 393 + 6) (fs' := 5543 + 448) (by omega) (by omega) ?_
  -- 13: Memory_init
  refine pe_callI d_K_init_13 m_K_15 j_Memory_init rfl rfl (c_Memory_init (clp_le x).1 (clp_le x).2 hm0) rfl rfl (by simp [Value.category]) (by decide) ?_
  intro v7 h7 z7 hq7
  obtain ⟨rfl, rfl, hm, hf7⟩ := hq7
  have hKO := (hf7 (0) (by omega)).trans hKO
  have hf := hf.tr (hf7.wd (by omega) (by omega))
  change pz_E _ _ _ _ _ _ _ _ _ _ _ _ _
  refine pe_putF d_K_init_16 g_K_18 rfl hKO (Nat.le_of_ble_eq_true rfl) rfl ?_
  refine pe_pu (fun h2 e2 o2 => ?_)
  have hKO := e2
  have hf := hf.st o2 (by omega) (by omega)
  have hm := hm.on (fun c9 h9 h8 => o2 c9 (by omega))
  refine pe_aload_n d_K_init_19 rfl ?_
  refine pe_less (fc' := 392 + 1) (fs' := 5540 + 3) (by omega) (by omega) ?_
  refine pe_new d_K_init_20 n_K_22 ?_
  refine pe_pu (fun h2 e2 o2 => ?_)
  have hKO := (o2 (0) (by omega)).trans hKO
  have hd0 : h2 (8) = _ := e2
  have hf := hf.st o2 (by omega) (by omega)
  have hm := hm.on (fun c9 h9 h8 => o2 c9 (by omega))
  change pz_E _ _ _ _ _ _ _ _ _ (.ref (8) :: _) _ (9) _
  refine pe_dup d_K_init_23 rfl ?_
  refine pe_iload_n d_K_init_24 rfl ?_
  -- 25: K_clampSize
  refine pe_callS d_K_init_25 m_K_9 s_K_clampSize (c_K_clampSize _) rfl rfl (by simp [Value.category]) (by decide) ?_
  intro v1 h1 z1 hq1
  obtain ⟨rfl, rfl, rfl⟩ := hq1
  change pz_E _ _ _ _ _ _ _ _ _ (_ :: _) _ _ _
  refine pe_less (fc' := 390 + 2) (fs' := 5252 + 288) (by omega) (by omega) ?_
  -- 28: Disk_init
  refine pe_callI d_K_init_28 m_K_24 j_Disk_init rfl rfl (c_Disk_init (clp_le y).1 (clp_le y).2 hd0) rfl rfl (by simp [Value.category]) (by decide) ?_
  intro v7 h7 z7 hq7
  obtain ⟨rfl, rfl, hd, hf7⟩ := hq7
  have hKO := (hf7 (0) (by omega)).trans hKO
  have hm := hm.on (hf7.on (by omega))
  have hf := hf.tr (hf7.wd (by omega) (by omega))
  change pz_E _ _ _ _ _ _ _ _ _ _ _ _ _
  refine pe_putF d_K_init_31 g_K_25 rfl hKO (Nat.le_of_ble_eq_true rfl) rfl ?_
  refine pe_pu (fun h2 e2 o2 => ?_)
  have hKO := e2
  have hf := hf.st o2 (by omega) (by omega)
  have hm := hm.on (fun c9 h9 h8 => o2 c9 (by omega))
  have hd := hd.on (fun c9 h9 h8 => o2 c9 (by omega))
  refine pe_aload_n d_K_init_34 rfl ?_
  refine pe_less (fc' := 389 + 1) (fs' := 5250 + 2) (by omega) (by omega) ?_
  refine pe_new d_K_init_35 n_K_29 ?_
  refine pe_pu (fun h2 e2 o2 => ?_)
  have hKO := (o2 (0) (by omega)).trans hKO
  have ho0 : h2 (11) = _ := e2
  have hf := hf.st o2 (by omega) (by omega)
  have hm := hm.on (fun c9 h9 h8 => o2 c9 (by omega))
  have hd := hd.on (fun c9 h9 h8 => o2 c9 (by omega))
  change pz_E _ _ _ _ _ _ _ _ _ (.ref (11) :: _) _ (12) _
  refine pe_dup d_K_init_38 rfl ?_
  refine pe_less (fc' := 388 + 1) (fs' := 5244 + 6) (by omega) (by omega) ?_
  -- 39: FilterOrder_init
  refine pe_callI d_K_init_39 m_K_31 j_FilterOrder_init rfl rfl (c_FilterOrder_init ho0) rfl rfl (by simp [Value.category]) (by decide) ?_
  intro v7 h7 z7 hq7
  obtain ⟨rfl, rfl, ho, hf7⟩ := hq7
  have hKO := (hf7 (0) (by omega)).trans hKO
  have hm := hm.on (hf7.on (by omega))
  have hd := hd.on (hf7.on (by omega))
  have hf := hf.tr (hf7.wd (by omega) (by omega))
  change pz_E _ _ _ _ _ _ _ _ _ _ _ _ _
  refine pe_putF d_K_init_42 g_K_32 rfl hKO (Nat.le_of_ble_eq_true rfl) rfl ?_
  refine pe_pu (fun h2 e2 o2 => ?_)
  have hKO := e2
  have hf := hf.st o2 (by omega) (by omega)
  have hm := hm.on (fun c9 h9 h8 => o2 c9 (by omega))
  have hd := hd.on (fun c9 h9 h8 => o2 c9 (by omega))
  have ho := ho.on (fun c9 h9 h8 => o2 c9 (by omega))
  refine pe_aload_n d_K_init_45 rfl ?_
  refine pe_less (fc' := 387 + 1) (fs' := 5242 + 2) (by omega) (by omega) ?_
  refine pe_new d_K_init_46 n_K_36 ?_
  refine pe_pu (fun h2 e2 o2 => ?_)
  have hKO := (o2 (0) (by omega)).trans hKO
  have hr0 : h2 (13) = _ := e2
  have hf := hf.st o2 (by omega) (by omega)
  have hm := hm.on (fun c9 h9 h8 => o2 c9 (by omega))
  have hd := hd.on (fun c9 h9 h8 => o2 c9 (by omega))
  have ho := ho.on (fun c9 h9 h8 => o2 c9 (by omega))
  change pz_E _ _ _ _ _ _ _ _ _ (.ref (13) :: _) _ (14) _
  refine pe_dup d_K_init_49 rfl ?_
  refine pe_less (fc' := 386 + 1) (fs' := 5226 + 16) (by omega) (by omega) ?_
  -- 50: Frame_init
  refine pe_callI d_K_init_50 m_K_38 j_Frame_init rfl rfl (c_Frame_init hr0) rfl rfl (by simp [Value.category]) (by decide) ?_
  intro v7 h7 z7 hq7
  obtain ⟨rfl, rfl, hr, hf7⟩ := hq7
  have hKO := (hf7 (0) (by omega)).trans hKO
  have hm := hm.on (hf7.on (by omega))
  have hd := hd.on (hf7.on (by omega))
  have ho := ho.on (hf7.on (by omega))
  have hf := hf.tr (hf7.wd (by omega) (by omega))
  change pz_E _ _ _ _ _ _ _ _ _ _ _ _ _
  refine pe_putF d_K_init_53 g_K_39 rfl hKO (Nat.le_of_ble_eq_true rfl) rfl ?_
  refine pe_pu (fun h2 e2 o2 => ?_)
  have hKO := e2
  have hf := hf.st o2 (by omega) (by omega)
  have hm := hm.on (fun c9 h9 h8 => o2 c9 (by omega))
  have hd := hd.on (fun c9 h9 h8 => o2 c9 (by omega))
  have ho := ho.on (fun c9 h9 h8 => o2 c9 (by omega))
  have hr := hr.on (fun c9 h9 h8 => o2 c9 (by omega))
  refine pe_aload_n d_K_init_56 rfl ?_
  refine pe_iconst (v := nI 0) d_K_init_57 (by decide) ?_
  refine pe_put d_K_init_58 g_K_43 hKO (Nat.le_of_ble_eq_true rfl) rfl ?_
  refine pe_pu (fun h2 e2 o2 => ?_)
  have hKO := e2
  have hf := hf.st o2 (by omega) (by omega)
  have hm := hm.on (fun c9 h9 h8 => o2 c9 (by omega))
  have hd := hd.on (fun c9 h9 h8 => o2 c9 (by omega))
  have ho := ho.on (fun c9 h9 h8 => o2 c9 (by omega))
  have hr := hr.on (fun c9 h9 h8 => o2 c9 (by omega))
  refine pe_aload_n d_K_init_61 rfl ?_
  refine pe_bipush (v := nI 6) d_K_init_62 (by decide) ?_
  refine pe_less (fc' := 385 + 1) (fs' := 5220 + 6) (by omega) (by omega) ?_
  refine pe_newq (t := 2) (N := 6) d_K_init_64 rfl q_K_47 (by simp [px_ao]) (nI_pos (by omega)) (nI_clamp (by omega)) (by omega) ?_
  refine pe_pu (fun h2 e2 o2 => ?_)
  have hKO := (o2 (0) (by omega)).trans hKO
  have hAP : h2 (15) = _ := e2
  have hf := hf.st o2 (by omega) (by omega)
  have hm := hm.on (fun c9 h9 h8 => o2 c9 (by omega))
  have hd := hd.on (fun c9 h9 h8 => o2 c9 (by omega))
  have ho := ho.on (fun c9 h9 h8 => o2 c9 (by omega))
  have hr := hr.on (fun c9 h9 h8 => o2 c9 (by omega))
  change pz_E _ _ _ _ _ _ _ _ _ (.ref (15) :: _) _ (16) _
  refine pe_putF d_K_init_67 g_K_49 rfl hKO (Nat.le_of_ble_eq_true rfl) rfl ?_
  refine pe_pu (fun h2 e2 o2 => ?_)
  have hKO := e2
  have hAP := (o2 (15) (by omega)).trans hAP
  have hf := hf.st o2 (by omega) (by omega)
  have hm := hm.on (fun c9 h9 h8 => o2 c9 (by omega))
  have hd := hd.on (fun c9 h9 h8 => o2 c9 (by omega))
  have ho := ho.on (fun c9 h9 h8 => o2 c9 (by omega))
  have hr := hr.on (fun c9 h9 h8 => o2 c9 (by omega))
  refine pe_iconst (v := nI 0) d_K_init_70 (by decide) ?_
  refine pe_istore_n d_K_init_71 (by decide) rfl ?_
  dsimp only [List.set]
  refine pe_iload_n d_K_init_72 rfl ?_
  refine pe_bipush (v := nI 6) d_K_init_73 (by decide) ?_
  refine pe_icmpN_ge (tgt := 97) d_K_init_75 (by decide) (by omega) (by omega) (fun c_75 => ?_) (fun c_75 => ?_)
  · exfalso; omega
  · refine pe_aload_n d_K_init_78 rfl ?_
    refine pe_getf d_K_init_79 f_K_49 hKO rfl ?_
    refine pe_iload_n d_K_init_82 rfl ?_
    refine pe_less (fc' := 384 + 1) (fs' := 5211 + 9) (by omega) (by omega) ?_
    refine pe_new d_K_init_83 n_K_47 ?_
    refine pe_pu (fun h2 e2 o2 => ?_)
    have hKO := (o2 (0) (by omega)).trans hKO
    have hAP := (o2 (15) (by omega)).trans hAP
    have hA0z : h2 (16) = _ := e2
    have hf := hf.st o2 (by omega) (by omega)
    have hm := hm.on (fun c9 h9 h8 => o2 c9 (by omega))
    have hd := hd.on (fun c9 h9 h8 => o2 c9 (by omega))
    have ho := ho.on (fun c9 h9 h8 => o2 c9 (by omega))
    have hr := hr.on (fun c9 h9 h8 => o2 c9 (by omega))
    change pz_E _ _ _ _ _ _ _ _ _ (.ref (16) :: _) _ (17) _
    refine pe_dup d_K_init_86 rfl ?_
    refine pe_less (fc' := 344 + 40) (fs' := 4811 + 400) (by omega) (by omega) ?_
    -- 87: Application_init
    refine pe_callI d_K_init_87 m_K_53 j_Application_init rfl rfl (c_Application_init hA0z) rfl rfl (by simp [Value.category]) (by decide) ?_
    intro v7 h7 z7 hq7
    obtain ⟨rfl, rfl, hA0, hf7⟩ := hq7
    have hKO := (hf7 (0) (by omega)).trans hKO
    have hAP := (hf7 (15) (by omega)).trans hAP
    have hm := hm.on (hf7.on (by omega))
    have hd := hd.on (hf7.on (by omega))
    have ho := ho.on (hf7.on (by omega))
    have hr := hr.on (hf7.on (by omega))
    have hf := hf.tr (hf7.wd (by omega) (by omega))
    change pz_E _ _ _ _ _ _ _ _ _ _ _ _ _
    refine pe_aast d_K_init_90 rfl hAP hA0.1 rfl (by unfold vp_in; decide) ?_
    refine pe_pu (fun h2 e2 o2 => ?_)
    have hKO := (o2 (0) (by omega)).trans hKO
    have hAP := e2
    have hf := hf.st o2 (by omega) (by omega)
    have hm := hm.on (fun c9 h9 h8 => o2 c9 (by omega))
    have hd := hd.on (fun c9 h9 h8 => o2 c9 (by omega))
    have ho := ho.on (fun c9 h9 h8 => o2 c9 (by omega))
    have hr := hr.on (fun c9 h9 h8 => o2 c9 (by omega))
    have hA0 := hA0.on (fun c9 h9 h8 => o2 c9 (by omega))
    refine pe_iinc (v := nI 1) d_K_init_91 rfl (by decide) (by decide) rfl ?_
    dsimp only [List.set]
    refine pe_goto (tgt := 72) d_K_init_94 (by decide) ?_
    refine pe_iload_n d_K_init_72 rfl ?_
    refine pe_bipush (v := nI 6) d_K_init_73 (by decide) ?_
    refine pe_icmpN_ge (tgt := 97) d_K_init_75 (by decide) (by omega) (by omega) (fun c_75 => ?_) (fun c_75 => ?_)
    · exfalso; omega
    · refine pe_aload_n d_K_init_78 rfl ?_
      refine pe_getf d_K_init_79 f_K_49 hKO rfl ?_
      refine pe_iload_n d_K_init_82 rfl ?_
      refine pe_less (fc' := 343 + 1) (fs' := 4802 + 9) (by omega) (by omega) ?_
      refine pe_new d_K_init_83 n_K_47 ?_
      refine pe_pu (fun h2 e2 o2 => ?_)
      have hKO := (o2 (0) (by omega)).trans hKO
      have hAP := (o2 (15) (by omega)).trans hAP
      have hA1z : h2 (41) = _ := e2
      have hf := hf.st o2 (by omega) (by omega)
      have hm := hm.on (fun c9 h9 h8 => o2 c9 (by omega))
      have hd := hd.on (fun c9 h9 h8 => o2 c9 (by omega))
      have ho := ho.on (fun c9 h9 h8 => o2 c9 (by omega))
      have hr := hr.on (fun c9 h9 h8 => o2 c9 (by omega))
      have hA0 := hA0.on (fun c9 h9 h8 => o2 c9 (by omega))
      change pz_E _ _ _ _ _ _ _ _ _ (.ref (41) :: _) _ (42) _
      refine pe_dup d_K_init_86 rfl ?_
      refine pe_less (fc' := 303 + 40) (fs' := 4402 + 400) (by omega) (by omega) ?_
      -- 87: Application_init
      refine pe_callI d_K_init_87 m_K_53 j_Application_init rfl rfl (c_Application_init hA1z) rfl rfl (by simp [Value.category]) (by decide) ?_
      intro v7 h7 z7 hq7
      obtain ⟨rfl, rfl, hA1, hf7⟩ := hq7
      have hKO := (hf7 (0) (by omega)).trans hKO
      have hAP := (hf7 (15) (by omega)).trans hAP
      have hm := hm.on (hf7.on (by omega))
      have hd := hd.on (hf7.on (by omega))
      have ho := ho.on (hf7.on (by omega))
      have hr := hr.on (hf7.on (by omega))
      have hA0 := hA0.on (hf7.on (by omega))
      have hf := hf.tr (hf7.wd (by omega) (by omega))
      change pz_E _ _ _ _ _ _ _ _ _ _ _ _ _
      refine pe_aast d_K_init_90 rfl hAP hA1.1 rfl (by unfold vp_in; decide) ?_
      refine pe_pu (fun h2 e2 o2 => ?_)
      have hKO := (o2 (0) (by omega)).trans hKO
      have hAP := e2
      have hf := hf.st o2 (by omega) (by omega)
      have hm := hm.on (fun c9 h9 h8 => o2 c9 (by omega))
      have hd := hd.on (fun c9 h9 h8 => o2 c9 (by omega))
      have ho := ho.on (fun c9 h9 h8 => o2 c9 (by omega))
      have hr := hr.on (fun c9 h9 h8 => o2 c9 (by omega))
      have hA0 := hA0.on (fun c9 h9 h8 => o2 c9 (by omega))
      have hA1 := hA1.on (fun c9 h9 h8 => o2 c9 (by omega))
      refine pe_iinc (v := nI 2) d_K_init_91 rfl (by decide) (by decide) rfl ?_
      dsimp only [List.set]
      refine pe_goto (tgt := 72) d_K_init_94 (by decide) ?_
      refine pe_iload_n d_K_init_72 rfl ?_
      refine pe_bipush (v := nI 6) d_K_init_73 (by decide) ?_
      refine pe_icmpN_ge (tgt := 97) d_K_init_75 (by decide) (by omega) (by omega) (fun c_75 => ?_) (fun c_75 => ?_)
      · exfalso; omega
      · refine pe_aload_n d_K_init_78 rfl ?_
        refine pe_getf d_K_init_79 f_K_49 hKO rfl ?_
        refine pe_iload_n d_K_init_82 rfl ?_
        refine pe_less (fc' := 302 + 1) (fs' := 4393 + 9) (by omega) (by omega) ?_
        refine pe_new d_K_init_83 n_K_47 ?_
        refine pe_pu (fun h2 e2 o2 => ?_)
        have hKO := (o2 (0) (by omega)).trans hKO
        have hAP := (o2 (15) (by omega)).trans hAP
        have hA2z : h2 (66) = _ := e2
        have hf := hf.st o2 (by omega) (by omega)
        have hm := hm.on (fun c9 h9 h8 => o2 c9 (by omega))
        have hd := hd.on (fun c9 h9 h8 => o2 c9 (by omega))
        have ho := ho.on (fun c9 h9 h8 => o2 c9 (by omega))
        have hr := hr.on (fun c9 h9 h8 => o2 c9 (by omega))
        have hA0 := hA0.on (fun c9 h9 h8 => o2 c9 (by omega))
        have hA1 := hA1.on (fun c9 h9 h8 => o2 c9 (by omega))
        change pz_E _ _ _ _ _ _ _ _ _ (.ref (66) :: _) _ (67) _
        refine pe_dup d_K_init_86 rfl ?_
        refine pe_less (fc' := 262 + 40) (fs' := 3993 + 400) (by omega) (by omega) ?_
        -- 87: Application_init
        refine pe_callI d_K_init_87 m_K_53 j_Application_init rfl rfl (c_Application_init hA2z) rfl rfl (by simp [Value.category]) (by decide) ?_
        intro v7 h7 z7 hq7
        obtain ⟨rfl, rfl, hA2, hf7⟩ := hq7
        have hKO := (hf7 (0) (by omega)).trans hKO
        have hAP := (hf7 (15) (by omega)).trans hAP
        have hm := hm.on (hf7.on (by omega))
        have hd := hd.on (hf7.on (by omega))
        have ho := ho.on (hf7.on (by omega))
        have hr := hr.on (hf7.on (by omega))
        have hA0 := hA0.on (hf7.on (by omega))
        have hA1 := hA1.on (hf7.on (by omega))
        have hf := hf.tr (hf7.wd (by omega) (by omega))
        change pz_E _ _ _ _ _ _ _ _ _ _ _ _ _
        refine pe_aast d_K_init_90 rfl hAP hA2.1 rfl (by unfold vp_in; decide) ?_
        refine pe_pu (fun h2 e2 o2 => ?_)
        have hKO := (o2 (0) (by omega)).trans hKO
        have hAP := e2
        have hf := hf.st o2 (by omega) (by omega)
        have hm := hm.on (fun c9 h9 h8 => o2 c9 (by omega))
        have hd := hd.on (fun c9 h9 h8 => o2 c9 (by omega))
        have ho := ho.on (fun c9 h9 h8 => o2 c9 (by omega))
        have hr := hr.on (fun c9 h9 h8 => o2 c9 (by omega))
        have hA0 := hA0.on (fun c9 h9 h8 => o2 c9 (by omega))
        have hA1 := hA1.on (fun c9 h9 h8 => o2 c9 (by omega))
        have hA2 := hA2.on (fun c9 h9 h8 => o2 c9 (by omega))
        refine pe_iinc (v := nI 3) d_K_init_91 rfl (by decide) (by decide) rfl ?_
        dsimp only [List.set]
        refine pe_goto (tgt := 72) d_K_init_94 (by decide) ?_
        refine pe_iload_n d_K_init_72 rfl ?_
        refine pe_bipush (v := nI 6) d_K_init_73 (by decide) ?_
        refine pe_icmpN_ge (tgt := 97) d_K_init_75 (by decide) (by omega) (by omega) (fun c_75 => ?_) (fun c_75 => ?_)
        · exfalso; omega
        · refine pe_aload_n d_K_init_78 rfl ?_
          refine pe_getf d_K_init_79 f_K_49 hKO rfl ?_
          refine pe_iload_n d_K_init_82 rfl ?_
          refine pe_less (fc' := 261 + 1) (fs' := 3984 + 9) (by omega) (by omega) ?_
          refine pe_new d_K_init_83 n_K_47 ?_
          refine pe_pu (fun h2 e2 o2 => ?_)
          have hKO := (o2 (0) (by omega)).trans hKO
          have hAP := (o2 (15) (by omega)).trans hAP
          have hA3z : h2 (91) = _ := e2
          have hf := hf.st o2 (by omega) (by omega)
          have hm := hm.on (fun c9 h9 h8 => o2 c9 (by omega))
          have hd := hd.on (fun c9 h9 h8 => o2 c9 (by omega))
          have ho := ho.on (fun c9 h9 h8 => o2 c9 (by omega))
          have hr := hr.on (fun c9 h9 h8 => o2 c9 (by omega))
          have hA0 := hA0.on (fun c9 h9 h8 => o2 c9 (by omega))
          have hA1 := hA1.on (fun c9 h9 h8 => o2 c9 (by omega))
          have hA2 := hA2.on (fun c9 h9 h8 => o2 c9 (by omega))
          change pz_E _ _ _ _ _ _ _ _ _ (.ref (91) :: _) _ (92) _
          refine pe_dup d_K_init_86 rfl ?_
          refine pe_less (fc' := 221 + 40) (fs' := 3584 + 400) (by omega) (by omega) ?_
          -- 87: Application_init
          refine pe_callI d_K_init_87 m_K_53 j_Application_init rfl rfl (c_Application_init hA3z) rfl rfl (by simp [Value.category]) (by decide) ?_
          intro v7 h7 z7 hq7
          obtain ⟨rfl, rfl, hA3, hf7⟩ := hq7
          have hKO := (hf7 (0) (by omega)).trans hKO
          have hAP := (hf7 (15) (by omega)).trans hAP
          have hm := hm.on (hf7.on (by omega))
          have hd := hd.on (hf7.on (by omega))
          have ho := ho.on (hf7.on (by omega))
          have hr := hr.on (hf7.on (by omega))
          have hA0 := hA0.on (hf7.on (by omega))
          have hA1 := hA1.on (hf7.on (by omega))
          have hA2 := hA2.on (hf7.on (by omega))
          have hf := hf.tr (hf7.wd (by omega) (by omega))
          change pz_E _ _ _ _ _ _ _ _ _ _ _ _ _
          refine pe_aast d_K_init_90 rfl hAP hA3.1 rfl (by unfold vp_in; decide) ?_
          refine pe_pu (fun h2 e2 o2 => ?_)
          have hKO := (o2 (0) (by omega)).trans hKO
          have hAP := e2
          have hf := hf.st o2 (by omega) (by omega)
          have hm := hm.on (fun c9 h9 h8 => o2 c9 (by omega))
          have hd := hd.on (fun c9 h9 h8 => o2 c9 (by omega))
          have ho := ho.on (fun c9 h9 h8 => o2 c9 (by omega))
          have hr := hr.on (fun c9 h9 h8 => o2 c9 (by omega))
          have hA0 := hA0.on (fun c9 h9 h8 => o2 c9 (by omega))
          have hA1 := hA1.on (fun c9 h9 h8 => o2 c9 (by omega))
          have hA2 := hA2.on (fun c9 h9 h8 => o2 c9 (by omega))
          have hA3 := hA3.on (fun c9 h9 h8 => o2 c9 (by omega))
          refine pe_iinc (v := nI 4) d_K_init_91 rfl (by decide) (by decide) rfl ?_
          dsimp only [List.set]
          refine pe_goto (tgt := 72) d_K_init_94 (by decide) ?_
          refine pe_iload_n d_K_init_72 rfl ?_
          refine pe_bipush (v := nI 6) d_K_init_73 (by decide) ?_
          refine pe_icmpN_ge (tgt := 97) d_K_init_75 (by decide) (by omega) (by omega) (fun c_75 => ?_) (fun c_75 => ?_)
          · exfalso; omega
          · refine pe_aload_n d_K_init_78 rfl ?_
            refine pe_getf d_K_init_79 f_K_49 hKO rfl ?_
            refine pe_iload_n d_K_init_82 rfl ?_
            refine pe_less (fc' := 220 + 1) (fs' := 3575 + 9) (by omega) (by omega) ?_
            refine pe_new d_K_init_83 n_K_47 ?_
            refine pe_pu (fun h2 e2 o2 => ?_)
            have hKO := (o2 (0) (by omega)).trans hKO
            have hAP := (o2 (15) (by omega)).trans hAP
            have hA4z : h2 (116) = _ := e2
            have hf := hf.st o2 (by omega) (by omega)
            have hm := hm.on (fun c9 h9 h8 => o2 c9 (by omega))
            have hd := hd.on (fun c9 h9 h8 => o2 c9 (by omega))
            have ho := ho.on (fun c9 h9 h8 => o2 c9 (by omega))
            have hr := hr.on (fun c9 h9 h8 => o2 c9 (by omega))
            have hA0 := hA0.on (fun c9 h9 h8 => o2 c9 (by omega))
            have hA1 := hA1.on (fun c9 h9 h8 => o2 c9 (by omega))
            have hA2 := hA2.on (fun c9 h9 h8 => o2 c9 (by omega))
            have hA3 := hA3.on (fun c9 h9 h8 => o2 c9 (by omega))
            change pz_E _ _ _ _ _ _ _ _ _ (.ref (116) :: _) _ (117) _
            refine pe_dup d_K_init_86 rfl ?_
            refine pe_less (fc' := 180 + 40) (fs' := 3175 + 400) (by omega) (by omega) ?_
            -- 87: Application_init
            refine pe_callI d_K_init_87 m_K_53 j_Application_init rfl rfl (c_Application_init hA4z) rfl rfl (by simp [Value.category]) (by decide) ?_
            intro v7 h7 z7 hq7
            obtain ⟨rfl, rfl, hA4, hf7⟩ := hq7
            have hKO := (hf7 (0) (by omega)).trans hKO
            have hAP := (hf7 (15) (by omega)).trans hAP
            have hm := hm.on (hf7.on (by omega))
            have hd := hd.on (hf7.on (by omega))
            have ho := ho.on (hf7.on (by omega))
            have hr := hr.on (hf7.on (by omega))
            have hA0 := hA0.on (hf7.on (by omega))
            have hA1 := hA1.on (hf7.on (by omega))
            have hA2 := hA2.on (hf7.on (by omega))
            have hA3 := hA3.on (hf7.on (by omega))
            have hf := hf.tr (hf7.wd (by omega) (by omega))
            change pz_E _ _ _ _ _ _ _ _ _ _ _ _ _
            refine pe_aast d_K_init_90 rfl hAP hA4.1 rfl (by unfold vp_in; decide) ?_
            refine pe_pu (fun h2 e2 o2 => ?_)
            have hKO := (o2 (0) (by omega)).trans hKO
            have hAP := e2
            have hf := hf.st o2 (by omega) (by omega)
            have hm := hm.on (fun c9 h9 h8 => o2 c9 (by omega))
            have hd := hd.on (fun c9 h9 h8 => o2 c9 (by omega))
            have ho := ho.on (fun c9 h9 h8 => o2 c9 (by omega))
            have hr := hr.on (fun c9 h9 h8 => o2 c9 (by omega))
            have hA0 := hA0.on (fun c9 h9 h8 => o2 c9 (by omega))
            have hA1 := hA1.on (fun c9 h9 h8 => o2 c9 (by omega))
            have hA2 := hA2.on (fun c9 h9 h8 => o2 c9 (by omega))
            have hA3 := hA3.on (fun c9 h9 h8 => o2 c9 (by omega))
            have hA4 := hA4.on (fun c9 h9 h8 => o2 c9 (by omega))
            refine pe_iinc (v := nI 5) d_K_init_91 rfl (by decide) (by decide) rfl ?_
            dsimp only [List.set]
            refine pe_goto (tgt := 72) d_K_init_94 (by decide) ?_
            refine pe_iload_n d_K_init_72 rfl ?_
            refine pe_bipush (v := nI 6) d_K_init_73 (by decide) ?_
            refine pe_icmpN_ge (tgt := 97) d_K_init_75 (by decide) (by omega) (by omega) (fun c_75 => ?_) (fun c_75 => ?_)
            · exfalso; omega
            · refine pe_aload_n d_K_init_78 rfl ?_
              refine pe_getf d_K_init_79 f_K_49 hKO rfl ?_
              refine pe_iload_n d_K_init_82 rfl ?_
              refine pe_less (fc' := 179 + 1) (fs' := 3166 + 9) (by omega) (by omega) ?_
              refine pe_new d_K_init_83 n_K_47 ?_
              refine pe_pu (fun h2 e2 o2 => ?_)
              have hKO := (o2 (0) (by omega)).trans hKO
              have hAP := (o2 (15) (by omega)).trans hAP
              have hA5z : h2 (141) = _ := e2
              have hf := hf.st o2 (by omega) (by omega)
              have hm := hm.on (fun c9 h9 h8 => o2 c9 (by omega))
              have hd := hd.on (fun c9 h9 h8 => o2 c9 (by omega))
              have ho := ho.on (fun c9 h9 h8 => o2 c9 (by omega))
              have hr := hr.on (fun c9 h9 h8 => o2 c9 (by omega))
              have hA0 := hA0.on (fun c9 h9 h8 => o2 c9 (by omega))
              have hA1 := hA1.on (fun c9 h9 h8 => o2 c9 (by omega))
              have hA2 := hA2.on (fun c9 h9 h8 => o2 c9 (by omega))
              have hA3 := hA3.on (fun c9 h9 h8 => o2 c9 (by omega))
              have hA4 := hA4.on (fun c9 h9 h8 => o2 c9 (by omega))
              change pz_E _ _ _ _ _ _ _ _ _ (.ref (141) :: _) _ (142) _
              refine pe_dup d_K_init_86 rfl ?_
              refine pe_less (fc' := 139 + 40) (fs' := 2766 + 400) (by omega) (by omega) ?_
              -- 87: Application_init
              refine pe_callI d_K_init_87 m_K_53 j_Application_init rfl rfl (c_Application_init hA5z) rfl rfl (by simp [Value.category]) (by decide) ?_
              intro v7 h7 z7 hq7
              obtain ⟨rfl, rfl, hA5, hf7⟩ := hq7
              have hKO := (hf7 (0) (by omega)).trans hKO
              have hAP := (hf7 (15) (by omega)).trans hAP
              have hm := hm.on (hf7.on (by omega))
              have hd := hd.on (hf7.on (by omega))
              have ho := ho.on (hf7.on (by omega))
              have hr := hr.on (hf7.on (by omega))
              have hA0 := hA0.on (hf7.on (by omega))
              have hA1 := hA1.on (hf7.on (by omega))
              have hA2 := hA2.on (hf7.on (by omega))
              have hA3 := hA3.on (hf7.on (by omega))
              have hA4 := hA4.on (hf7.on (by omega))
              have hf := hf.tr (hf7.wd (by omega) (by omega))
              change pz_E _ _ _ _ _ _ _ _ _ _ _ _ _
              refine pe_aast d_K_init_90 rfl hAP hA5.1 rfl (by unfold vp_in; decide) ?_
              refine pe_pu (fun h2 e2 o2 => ?_)
              have hKO := (o2 (0) (by omega)).trans hKO
              have hAP := e2
              have hf := hf.st o2 (by omega) (by omega)
              have hm := hm.on (fun c9 h9 h8 => o2 c9 (by omega))
              have hd := hd.on (fun c9 h9 h8 => o2 c9 (by omega))
              have ho := ho.on (fun c9 h9 h8 => o2 c9 (by omega))
              have hr := hr.on (fun c9 h9 h8 => o2 c9 (by omega))
              have hA0 := hA0.on (fun c9 h9 h8 => o2 c9 (by omega))
              have hA1 := hA1.on (fun c9 h9 h8 => o2 c9 (by omega))
              have hA2 := hA2.on (fun c9 h9 h8 => o2 c9 (by omega))
              have hA3 := hA3.on (fun c9 h9 h8 => o2 c9 (by omega))
              have hA4 := hA4.on (fun c9 h9 h8 => o2 c9 (by omega))
              have hA5 := hA5.on (fun c9 h9 h8 => o2 c9 (by omega))
              refine pe_iinc (v := nI 6) d_K_init_91 rfl (by decide) (by decide) rfl ?_
              dsimp only [List.set]
              refine pe_goto (tgt := 72) d_K_init_94 (by decide) ?_
              refine pe_iload_n d_K_init_72 rfl ?_
              refine pe_bipush (v := nI 6) d_K_init_73 (by decide) ?_
              refine pe_icmpN_ge (tgt := 97) d_K_init_75 (by decide) (by omega) (by omega) (fun c_75 => ?_) (fun c_75 => ?_)
              · refine pe_eqv (f' := fun j => some (16 + 25 * j)) hAP (by intro j hj; rcases (show j = 0 ∨ j = 1 ∨ j = 2 ∨ j = 3 ∨ j = 4 ∨ j = 5 by omega) with rfl | rfl | rfl | rfl | rfl | rfl <;> rfl) ?_
                refine pe_pu (fun h2 e2 o2 => ?_)
                have hKO := (o2 (0) (by omega)).trans hKO
                have hAP : h2 (15) = _ := e2
                have hm := hm.on (fun c9 h9 h8 => o2 c9 (by omega))
                have hd := hd.on (fun c9 h9 h8 => o2 c9 (by omega))
                have ho := ho.on (fun c9 h9 h8 => o2 c9 (by omega))
                have hr := hr.on (fun c9 h9 h8 => o2 c9 (by omega))
                have hA0 := hA0.on (fun c9 h9 h8 => o2 c9 (by omega))
                have hA1 := hA1.on (fun c9 h9 h8 => o2 c9 (by omega))
                have hA2 := hA2.on (fun c9 h9 h8 => o2 c9 (by omega))
                have hA3 := hA3.on (fun c9 h9 h8 => o2 c9 (by omega))
                have hA4 := hA4.on (fun c9 h9 h8 => o2 c9 (by omega))
                have hA5 := hA5.on (fun c9 h9 h8 => o2 c9 (by omega))
                have hf := hf.st o2 (by omega) (by omega)
                refine pe_vret d_K_init_97 rfl ?_
                exact ⟨rfl, rfl, ⟨hKO, hAP⟩, hm, hd, ho, hr, (fun i hi => by rcases (show i = 0 ∨ i = 1 ∨ i = 2 ∨ i = 3 ∨ i = 4 ∨ i = 5 by omega) with rfl | rfl | rfl | rfl | rfl | rfl <;> first | exact hA0 | exact hA1 | exact hA2 | exact hA3 | exact hA4 | exact hA5), hf⟩
              · exfalso; omega
