/-! the kernel: tick, with the frame exact -/
/-- the cells of the pages and of the six lists alone have changed -/
def frt (h h' : pz_H) : Prop := ∀ c, (c < 1 ∨ 8 ≤ c) → (∀ i, i < 6 → c ≠ 16 + 25 * i + 1 ∧ c ≠ 16 + 25 * i + 2) → h' c = h c
theorem frt.rf {h : pz_H} : frt h h := fun _ _ _ => rfl
theorem frt.m {h h1 h2 : pz_H} (a : frt h h1) (b : frm 1 8 h1 h2) : frt h h2 := fun c q1 q2 => (b c q1).trans (a c q1 q2)
theorem frt.g {h h1 h2 : pz_H} (a : frt h h1) {i : Nat} (b : frm (16 + 25 * i + 1) (16 + 25 * i + 1 + 2) h1 h2) (hi : i < 6) : frt h h2 := fun c q1 q2 => (b c (by have := q2 i hi; omega)).trans (a c q1 q2)
set_option maxHeartbeats 4000000 in
set_option maxRecDepth 20000 in
theorem c_K_tick_all {l : Launch} {L : Nat} {xs : Nat → Int32} {h : pz_H} {z : Nat} {lost : Nat} (hK : KOB h lost) {dr fl : Nat → Nat} {op mp : Nat → Bool} {fi lk : Nat → Nat} (hap : ∀ i, i < 6 → AOB (16 + 25 * i) h (dr i) (fl i) (op i) (mp i) (fi i) (lk i)) {np : Nat} {mw mo mr mt : Nat → Int32} {mn : Nat → Bool} {md : Nat → Int32} {ts ck : Nat} (hm : MEM h np mw mo mr mt mn md ts ck) {n : Nat} (hn1 : 1 ≤ n) (hn100 : n ≤ 100) {pp : Nat → Nat → Int32} {pl pe : Nat → Nat} (hgs : ∀ i, i < 6 → PGL (16 + 25 * i + 1) h (pp i) (pl i) (pe i)) (how : ∀ j, j < np → mn j = true → ∃ a, a < 6 ∧ mo j = nI a) : pz_K l L xs M_K_tick 3 0 0 [.ref 0, .int (nI n)] h z (fun v h' z' => v = some (.int (nI (tks np md (ck + n) np mn).length)) ∧ z = z' ∧ MEM h' np mw (tsF ((mo, mr, mn, pp, pl, pe) : TS) (tks np md (ck + n) np mn)).1 (tsF ((mo, mr, mn, pp, pl, pe) : TS) (tks np md (ck + n) np mn)).2.1 mt (tsF ((mo, mr, mn, pp, pl, pe) : TS) (tks np md (ck + n) np mn)).2.2.1 md ts (ck + n) ∧ (∀ i, i < 6 → PGL (16 + 25 * i + 1) h' ((tsF ((mo, mr, mn, pp, pl, pe) : TS) (tks np md (ck + n) np mn)).2.2.2.1 i) ((tsF ((mo, mr, mn, pp, pl, pe) : TS) (tks np md (ck + n) np mn)).2.2.2.2.1 i) ((tsF ((mo, mr, mn, pp, pl, pe) : TS) (tks np md (ck + n) np mn)).2.2.2.2.2 i)) ∧ frt h h') := by
  refine pz_K.of rfl (Nat.le_of_ble_eq_true rfl) ?_
  obtain ⟨ck9, hck⟩ : ∃ c, c = ck + n := ⟨_, rfl⟩
  rw [← hck]
  have loop : ∀ (n9 : Nat) (t : Nat) (s : TS) (g : pz_H), t ≤ np → np + 1 ≤ t + n9 → KOB g lost → (∀ i, i < 6 → AOB (16 + 25 * i) g (dr i) (fl i) (op i) (mp i) (fi i) (lk i)) → MEM g np mw s.1 s.2.1 mt s.2.2.1 md ts ck9 → (∀ i, i < 6 → PGL (16 + 25 * i + 1) g (s.2.2.2.1 i) (s.2.2.2.2.1 i) (s.2.2.2.2.2 i)) → (∀ j, j < np → s.2.2.1 j = true → ∃ a, a < 6 ∧ s.1 j = nI a) → frt h g → pz_E l L xs M_K_tick 3 0 0 22 [some (.ref 0), some (.int (nI n)), some (.int (nI t)), none] [] g z (fun v h' z' => v = some (.int (nI (t + (tks np md ck9 (np - t) s.2.2.1).length))) ∧ z = z' ∧ MEM h' np mw (tsF s (tks np md ck9 (np - t) s.2.2.1)).1 (tsF s (tks np md ck9 (np - t) s.2.2.1)).2.1 mt (tsF s (tks np md ck9 (np - t) s.2.2.1)).2.2.1 md ts ck9 ∧ (∀ i, i < 6 → PGL (16 + 25 * i + 1) h' ((tsF s (tks np md ck9 (np - t) s.2.2.1)).2.2.2.1 i) ((tsF s (tks np md ck9 (np - t) s.2.2.1)).2.2.2.2.1 i) ((tsF s (tks np md ck9 (np - t) s.2.2.1)).2.2.2.2.2 i)) ∧ frt h h') := by
    intro n9
    induction n9 with
    | zero => intros; omega
    | succ n9 ih =>
      intro t s g hi hin hK hap hm hgs how hf
      have hn2 := hm.2.2.2.2.2.2.2.2
      refine pe_iload_n d_K_tick_22 rfl ?_
      refine pe_aload_n d_K_tick_23 rfl ?_
      refine pe_getf d_K_tick_24 f_K_18 hK.1 rfl ?_
      refine pe_getf d_K_tick_27 f_K_138 hm.1 rfl ?_
      refine pe_icmpN_ge (tgt := 82) d_K_tick_30 (by decide) (by omega) (by omega) (fun c_30 => ?_) (fun c_30 => ?_)
      · refine pe_aload_n d_K_tick_82 rfl ?_
        refine pe_getf d_K_tick_83 f_K_18 hK.1 rfl ?_
        refine pe_getf d_K_tick_86 f_K_138 hm.1 rfl ?_
        refine pe_iret d_K_tick_89 rfl ?_
        exact ⟨by rw [show np - t = 0 by omega]; show _ = some (Value.int (nI (t + 0))); rw [show t + 0 = np by omega], rfl, by rw [show np - t = 0 by omega]; exact hm, by rw [show np - t = 0 by omega]; exact hgs, hf⟩
      · have c_30 : t < np := by omega
        refine pe_aload_n d_K_tick_33 rfl ?_
        refine pe_getf d_K_tick_34 f_K_18 hK.1 rfl ?_
        -- 37: Memory_firstDue
        refine pe_callV d_K_tick_37 m_K_141 j_Memory_firstDue v_Memory_firstDue (c_Memory_firstDue hm) rfl rfl (by simp [Value.category]) (by decide) hm.1 rfl rfl ?_
        intro v1 h1 z1 hq1
        obtain ⟨rfl, rfl, rfl⟩ := hq1
        rw [Nat.sub_zero]
        change pz_E _ _ _ _ _ _ _ _ _ [.int (omi (sel (cDu s.2.2.1 md ck9) (lDu md) np 0 none))] _ _ _
        change pz_E _ _ _ _ _ _ _ _ _ (_ :: _) _ _ _
        have hn2 := hm.2.2.2.2.2.2.2.2
        cases hpg : sel (cDu s.2.2.1 md ck9) (lDu md) np 0 none with
        | none =>
          change pz_E _ _ _ _ _ _ _ _ _ [.int (-1)] _ _ _
          refine pe_istore_n d_K_tick_40 (by decide) rfl ?_
          dsimp only [List.set]
          refine pe_iload_n d_K_tick_41 rfl ?_
          refine pe_iconst (v := -1) d_K_tick_42 (by decide) ?_
          refine pe_icmp_ne (tgt := 48) d_K_tick_43 (by decide) (fun c_43 => ?_) (fun c_43 => ?_)
          · exact absurd rfl c_43
          · refine pe_iload_n d_K_tick_46 rfl ?_
            refine pe_iret d_K_tick_47 rfl ?_
            exact ⟨by rw [tks_n hpg]; rfl, rfl, by rw [tks_n hpg]; exact hm, by rw [tks_n hpg]; exact hgs, hf⟩
        | some q =>
          obtain ⟨hq1, hq2⟩ := sel_in np 0 none (fun _ e => by cases e) q hpg
          rw [Nat.zero_add] at hq1
          unfold cDu at hq2
          rw [Bool.and_eq_true] at hq2
          obtain ⟨a, ha, hoa⟩ := how q hq1 hq2.1
          have hA := hap a ha
          have hg := hgs a ha
          change pz_E _ _ _ _ _ _ _ _ _ [.int (nI q)] _ _ _
          refine pe_istore_n d_K_tick_40 (by decide) rfl ?_
          dsimp only [List.set]
          refine pe_iload_n d_K_tick_41 rfl ?_
          refine pe_iconst (v := -1) d_K_tick_42 (by decide) ?_
          refine pe_icmp_ne (tgt := 48) d_K_tick_43 (by decide) (fun c_43 => ?_) (fun c_43 => ?_)
          · refine pe_aload_n d_K_tick_48 rfl ?_
            refine pe_getf d_K_tick_49 f_K_49 hK.1 rfl ?_
            refine pe_aload_n d_K_tick_52 rfl ?_
            refine pe_getf d_K_tick_53 f_K_18 hK.1 rfl ?_
            refine pe_iload_n d_K_tick_56 rfl ?_
            -- 57: Memory_ownerOf
            refine pe_callV d_K_tick_57 m_K_144 j_Memory_ownerOf v_Memory_ownerOf (c_Memory_ownerOf hm hq1) rfl rfl (by simp [Value.category]) (by decide) hm.1 rfl rfl ?_
            intro v1 h1 z1 hq1
            obtain ⟨rfl, rfl, rfl⟩ := hq1
            rw [hoa]
            change pz_E _ _ _ _ _ _ _ _ _ (_ :: _) _ _ _
            refine pe_aaldN d_K_tick_60 rfl hK.2 (by omega) (by omega) rfl ?_
            refine pe_getf d_K_tick_61 f_K_147 hA rfl ?_
            refine pe_iload_n d_K_tick_64 rfl ?_
            -- 65: PageList_append
            refine pe_callV d_K_tick_65 m_K_151 j_PageList_append v_PageList_append (c_PageList_append hg _) rfl rfl (by simp [Value.category]) (by decide) hg.1 rfl rfl ?_
            intro v1 h1 z1 hq1
            obtain ⟨rfl, rfl, hg, hf1⟩ := hq1
            have hK := hK.on (hf1.on (by omega)) (hf1.on (by omega))
            have hap := fun i (hi : i < 6) => (hap i hi).on (hf1.on (by omega))
            have hm := hm.on (hf1.on (by omega))
            change pz_E _ _ _ _ _ _ _ _ _ _ _ _ _
            refine pe_aload_n d_K_tick_68 rfl ?_
            refine pe_getf d_K_tick_69 f_K_18 hK.1 rfl ?_
            refine pe_iload_n d_K_tick_72 rfl ?_
            -- 73: Memory_free
            refine pe_callV d_K_tick_73 m_K_105 j_Memory_free v_Memory_free (c_Memory_free hm hq1) rfl rfl (by simp [Value.category]) (by decide) hm.1 rfl rfl ?_
            intro v2 h2 z2 hq2
            obtain ⟨rfl, rfl, hm, hf2⟩ := hq2
            have hK := hK.on (hf2.on (by omega)) (hf2.on (by omega))
            have hap := fun i (hi : i < 6) => (hap i hi).on (hf2.on (by omega))
            have hg := hg.on (hf2.on (by omega))
            change pz_E _ _ _ _ _ _ _ _ _ _ _ _ _
            refine pe_iincN d_K_tick_76 rfl (by decide) rfl ?_
            dsimp only [List.set]
            refine pe_goto (tgt := 22) d_K_tick_79 (by decide) ?_
            have hcl : (s.1 q).toNatClampNeg = a := by rw [hoa, nI_clamp (by omega)]
            have hgs : ∀ i, i < 6 → PGL (16 + 25 * i + 1) h2 ((tst1 s q).2.2.2.1 i) ((tst1 s q).2.2.2.2.1 i) ((tst1 s q).2.2.2.2.2 i) := by
              intro i hi
              by_cases e : i = a
              · subst e; simp only [tst1, hcl, va_up, if_pos]; exact hg
              · simp only [tst1, hcl, va_up, if_neg e]; exact ((hgs i hi).on (hf1.on (by omega))).on (hf2.on (by omega))
            have hm : MEM h2 np mw (tst1 s q).1 (tst1 s q).2.1 mt (tst1 s q).2.2.1 md ts ck9 := hm
            have how : ∀ j, j < np → (tst1 s q).2.2.1 j = true → ∃ a, a < 6 ∧ (tst1 s q).1 j = nI a := by
              intro j hj hn
              by_cases e : j = q
              · subst e; simp only [tst1, updB_eq] at hn; cases hn
              · simp only [tst1, updB_ne e] at hn; simp only [tst1, upd_ne e]; exact how j hj hn
            have hf := (hf.g hf1 ha).m hf2
            have e := ih (t + 1) (tst1 s q) _ (by omega) (by omega) hK hap hm hgs how hf
            rw [tks_s c_30 hpg]
            exact pe_ls (ls' := [some (.ref 0), some (.int (nI n)), some (.int (nI (t + 1))), none]) (fun j v hj => by match j, hj with | 0, hj => exact hj | 1, hj => exact hj | 2, hj => exact hj | 3, hj => cases hj | j + 4, hj => cases hj) (by rw [List.length_cons, ← Nat.add_assoc, Nat.add_right_comm t _ 1]; exact e)
          · exact absurd c_43 (nI_nem1 (by omega))
  change pz_E l L xs M_K_tick 3 0 0 0 [some (.ref 0), some (.int (nI n)), none, none] [] h z _
  refine pe_iload_n d_K_tick_0 rfl ?_
  refine pe_iconst (v := nI 1) d_K_tick_1 (by decide) ?_
  refine pe_bipush (v := nI 100) d_K_tick_2 (by decide) ?_
  -- 4: K_isIn
  refine pe_callS d_K_tick_4 m_K_108 s_K_isIn (c_K_isIn _ _ _) rfl rfl (by simp [Value.category]) (by decide) ?_
  intro v1 h1 z1 hq1
  obtain ⟨rfl, rfl, rfl⟩ := hq1
  change pz_E _ _ _ _ _ _ _ _ _ (_ :: _) _ _ _
  refine pe_if_ne (tgt := 12) d_K_tick_7 (by decide) (fun c_7 => ?_) (fun c_7 => ?_)
  · have c_7 := pb_n0.mp c_7
    refine pe_aload_n d_K_tick_12 rfl ?_
    refine pe_getf d_K_tick_13 f_K_18 hK.1 rfl ?_
    refine pe_iload_n d_K_tick_16 rfl ?_
    -- 17: Memory_passTime
    refine pe_callV d_K_tick_17 m_K_135 j_Memory_passTime v_Memory_passTime (c_Memory_passTime hm) rfl rfl (by simp [Value.category]) (by decide) hm.1 rfl rfl ?_
    intro v1 h1 z1 hq1
    obtain ⟨rfl, rfl, hm, hf1⟩ := hq1
    rw [← hck] at hm
    have hK := hK.on (hf1.on (by omega)) (hf1.on (by omega))
    have hap := fun i (hi : i < 6) => (hap i hi).on (hf1.on (by omega))
    have hgs := fun i (hi : i < 6) => (hgs i hi).on (hf1.on (by omega))
    have hf := (frt.rf (h := h)).m hf1
    change pz_E _ _ _ _ _ _ _ _ _ _ _ _ _
    refine pe_iconst (v := nI 0) d_K_tick_20 (by decide) ?_
    refine pe_istore_n d_K_tick_21 (by decide) rfl ?_
    dsimp only [List.set]
    have e := loop (np + 1) 0 ((mo, mr, mn, pp, pl, pe) : TS) _ (by omega) (by omega) hK hap hm hgs how hf
    rw [Nat.zero_add, Nat.sub_zero] at e
    exact e
  · have c_7 := pb_0.mp c_7
    exact absurd (c_7.symm.trans (rng_y (by decide) hn1 hn100)) (by decide)
