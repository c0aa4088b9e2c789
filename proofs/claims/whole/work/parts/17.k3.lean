/-! the kernel: contracts of BindingKernel, third part -/
def opg (op : Nat → Bool) (x : Int32) (m : Bool) (f c : Int32) : Bool := rng x (nI 0) (nI 5) && ((m || (rng f (nI 0) (nI 7) && rng c (nI 0) (nI 8 - f))) && !op x.toNatClampNeg)
set_option maxHeartbeats 4000000 in
set_option maxRecDepth 20000 in
theorem c_K_open_no {l : Launch} {L : Nat} {xs : Nat → Int32} {h : pz_H} {z : Nat} {lost : Nat} (hK : KOB h lost) {dr fl : Nat → Nat} {op mp : Nat → Bool} {fi lk : Nat → Nat} (hap : ∀ i, i < 6 → AOB (16 + 25 * i) h (dr i) (fl i) (op i) (mp i) (fi i) (lk i)) (x f c : Int32) (m : Bool) (hno : opg op x m f c = false) : pz_K l L xs M_K_open 2 0 0 [.ref 0, .int x, .int (pb m), .int f, .int c] h z (fun v h' z' => v = some (.int (-1)) ∧ h = h' ∧ z = z') := by
  refine pz_K.of rfl (Nat.le_of_ble_eq_true rfl) ?_
  change pz_E l L xs M_K_open 2 0 0 0 [some (.ref 0), some (.int x), some (.int (pb m)), some (.int f), some (.int c), none] [] h z _
  refine pe_iload_n d_K_open_0 rfl ?_
  -- 1: K_isApp
  refine pe_callS d_K_open_1 m_K_54 s_K_isApp (c_K_isApp _) rfl rfl (by simp [Value.category]) (by decide) ?_
  intro v1 h1 z1 hq1
  obtain ⟨rfl, rfl, rfl⟩ := hq1
  change pz_E _ _ _ _ _ _ _ _ _ (_ :: _) _ _ _
  refine pe_if_eq (tgt := 32) d_K_open_4 (by decide) (fun c_4 => ?_) (fun c_4 => ?_)
  · have c_4 := pb_0.mp c_4
    refine pe_iconst (v := -1) d_K_open_32 (by decide) ?_
    refine pe_iret d_K_open_33 rfl ?_
    exact ⟨rfl, rfl, rfl⟩
  · have c_4 := pb_n0.mp c_4
    refine pe_iload_n d_K_open_7 rfl ?_
    refine pe_if_ne (tgt := 20) d_K_open_8 (by decide) (fun c_8 => ?_) (fun c_8 => ?_)
    · have c_8 := pb_n0.mp c_8
      obtain ⟨a, -, ha9, rfl⟩ := rng_N (by decide) (by decide) c_4
      have ha : a < 6 := by omega
      have hA := hap a ha
      refine pe_aload_n d_K_open_20 rfl ?_
      refine pe_getf d_K_open_21 f_K_49 hK.1 rfl ?_
      refine pe_iload_n d_K_open_24 rfl ?_
      refine pe_aaldN d_K_open_25 rfl hK.2 (by omega) (by omega) rfl ?_
      refine pe_getf d_K_open_26 f_K_62 hA rfl ?_
      refine pe_if_eq (tgt := 34) d_K_open_29 (by decide) (fun c_29 => ?_) (fun c_29 => ?_)
      · have c_29 := pb_0.mp c_29
        exfalso; rw [opg, c_4, nI_clamp (by omega), c_29] at hno; simp_all
      · have c_29 := pb_n0.mp c_29
        refine pe_iconst (v := -1) d_K_open_32 (by decide) ?_
        refine pe_iret d_K_open_33 rfl ?_
        exact ⟨rfl, rfl, rfl⟩
    · have c_8 := pb_0.mp c_8
      refine pe_iload_n d_K_open_11 rfl ?_
      refine pe_iload d_K_open_12 rfl ?_
      -- 14: K_isLayout
      refine pe_callS d_K_open_14 m_K_58 s_K_isLayout (c_K_isLayout _ _) rfl rfl (by simp [Value.category]) (by decide) ?_
      intro v1 h1 z1 hq1
      obtain ⟨rfl, rfl, rfl⟩ := hq1
      change pz_E _ _ _ _ _ _ _ _ _ (_ :: _) _ _ _
      refine pe_if_eq (tgt := 32) d_K_open_17 (by decide) (fun c_17 => ?_) (fun c_17 => ?_)
      · have c_17 := pb_0.mp c_17
        refine pe_iconst (v := -1) d_K_open_32 (by decide) ?_
        refine pe_iret d_K_open_33 rfl ?_
        exact ⟨rfl, rfl, rfl⟩
      · have c_17 := pb_n0.mp c_17
        obtain ⟨a, -, ha9, rfl⟩ := rng_N (by decide) (by decide) c_4
        have ha : a < 6 := by omega
        have hA := hap a ha
        refine pe_aload_n d_K_open_20 rfl ?_
        refine pe_getf d_K_open_21 f_K_49 hK.1 rfl ?_
        refine pe_iload_n d_K_open_24 rfl ?_
        refine pe_aaldN d_K_open_25 rfl hK.2 (by omega) (by omega) rfl ?_
        refine pe_getf d_K_open_26 f_K_62 hA rfl ?_
        refine pe_if_eq (tgt := 34) d_K_open_29 (by decide) (fun c_29 => ?_) (fun c_29 => ?_)
        · have c_29 := pb_0.mp c_29
          exfalso; rw [opg, c_4, nI_clamp (by omega), c_29] at hno; simp_all
        · have c_29 := pb_n0.mp c_29
          refine pe_iconst (v := -1) d_K_open_32 (by decide) ?_
          refine pe_iret d_K_open_33 rfl ?_
          exact ⟨rfl, rfl, rfl⟩
set_option maxHeartbeats 4000000 in
set_option maxRecDepth 20000 in
theorem c_K_open_full_map {l : Launch} {L : Nat} {xs : Nat → Int32} {h : pz_H} {z : Nat} {lost : Nat} (hK : KOB h lost) {dr fl : Nat → Nat} {op mp : Nat → Bool} {fi lk : Nat → Nat} (hap : ∀ i, i < 6 → AOB (16 + 25 * i) h (dr i) (fl i) (op i) (mp i) (fi i) (lk i)) {nb : Nat} {dw dn : Nat → Int32} (hd : DSK h nb dw dn) {a : Nat} (ha : a < 6) (f c : Int32) (hcl : op a = false) (hfull : ¬ ff (fun j => decide (dn j = -1)) nb 0 < nb) : pz_K l L xs M_K_open 2 0 0 [.ref 0, .int (nI a), .int (pb true), .int f, .int c] h z (fun v h' z' => v = some (.int (-2)) ∧ h = h' ∧ z = z') := by
  refine pz_K.of rfl (Nat.le_of_ble_eq_true rfl) ?_
  have hA := hap a ha
  change pz_E l L xs M_K_open 2 0 0 0 [some (.ref 0), some (.int (nI a)), some (.int (pb true)), some (.int f), some (.int c), none] [] h z _
  refine pe_iload_n d_K_open_0 rfl ?_
  -- 1: K_isApp
  refine pe_callS d_K_open_1 m_K_54 s_K_isApp (c_K_isApp _) rfl rfl (by simp [Value.category]) (by decide) ?_
  intro v1 h1 z1 hq1
  obtain ⟨rfl, rfl, rfl⟩ := hq1
  change pz_E _ _ _ _ _ _ _ _ _ (_ :: _) _ _ _
  refine pe_if_eq (tgt := 32) d_K_open_4 (by decide) (fun c_4 => ?_) (fun c_4 => ?_)
  · have c_4 := pb_0.mp c_4
    exact absurd (c_4.symm.trans (rng_y (by decide) (Nat.zero_le _) (by omega))) (by decide)
  · have c_4 := pb_n0.mp c_4
    refine pe_iload_n d_K_open_7 rfl ?_
    refine pe_if_ne (tgt := 20) d_K_open_8 (by decide) (fun c_8 => ?_) (fun c_8 => ?_)
    · have c_8 := pb_n0.mp c_8
      refine pe_aload_n d_K_open_20 rfl ?_
      refine pe_getf d_K_open_21 f_K_49 hK.1 rfl ?_
      refine pe_iload_n d_K_open_24 rfl ?_
      refine pe_aaldN d_K_open_25 rfl hK.2 (by omega) (by omega) rfl ?_
      refine pe_getf d_K_open_26 f_K_62 hA rfl ?_
      refine pe_if_eq (tgt := 34) d_K_open_29 (by decide) (fun c_29 => ?_) (fun c_29 => ?_)
      · have c_29 := pb_0.mp c_29
        refine pe_aload_n d_K_open_34 rfl ?_
        refine pe_getf d_K_open_35 f_K_25 hK.1 rfl ?_
        -- 38: Disk_leastFree
        refine pe_callV d_K_open_38 m_K_66 j_Disk_leastFree v_Disk_leastFree (c_Disk_leastFree hd) rfl rfl (by simp [Value.category]) (by decide) hd.1 rfl rfl ?_
        intro v1 h1 z1 hq1
        obtain ⟨rfl, rfl, rfl⟩ := hq1
        rw [Nat.sub_zero]
        rw [orm_ge hfull]
        change pz_E _ _ _ _ _ _ _ _ _ (_ :: _) _ _ _
        refine pe_istore d_K_open_41 (by decide) rfl ?_
        dsimp only [List.set]
        refine pe_iload d_K_open_43 rfl ?_
        refine pe_iconst (v := -1) d_K_open_45 (by decide) ?_
        refine pe_icmp_ne (tgt := 52) d_K_open_46 (by decide) (fun c_46 => ?_) (fun c_46 => ?_)
        · exact absurd rfl c_46
        · refine pe_bipush (v := -2) d_K_open_49 (by decide) ?_
          refine pe_iret d_K_open_51 rfl ?_
          exact ⟨rfl, rfl, rfl⟩
      · have c_29 := pb_n0.mp c_29
        exact absurd (c_29.symm.trans hcl) (by decide)
    · have c_8 := pb_0.mp c_8
      exact absurd c_8 (by decide)
set_option maxHeartbeats 4000000 in
set_option maxRecDepth 20000 in
theorem c_K_open_map {l : Launch} {L : Nat} {xs : Nat → Int32} {h : pz_H} {z : Nat} {lost : Nat} (hK : KOB h lost) {dr fl : Nat → Nat} {op mp : Nat → Bool} {fi lk : Nat → Nat} (hap : ∀ i, i < 6 → AOB (16 + 25 * i) h (dr i) (fl i) (op i) (mp i) (fi i) (lk i)) {nb : Nat} {dw dn : Nat → Int32} (hd : DSK h nb dw dn) {a : Nat} (ha : a < 6) (f c : Int32) (hcl : op a = false) {pp : Nat → Int32} {pl pe : Nat} (hg : PGL (16 + 25 * a + 1) h pp pl pe) {bb : Nat} (hbe : bb = ff (fun j => decide (dn j = -1)) nb 0) (hb : bb < nb) : pz_K l L xs M_K_open 2 0 0 [.ref 0, .int (nI a), .int (pb true), .int f, .int c] h z (fun v h' z' => v = some (.int (nI 0)) ∧ z = z' ∧ AOB (16 + 25 * a) h' (dr a) (fl a) true true 0 0 ∧ PGL (16 + 25 * a + 1) h' pp 0 0 ∧ DSK h' nb (fil dw (lkw bb 0 0) (bb * 8) 8) (upd dn bb (nI a)) ∧ fr2 8 11 (16 + 25 * a) (16 + 25 * a + 3) h h') := by
  refine pz_K.of rfl (Nat.le_of_ble_eq_true rfl) ?_
  have hA := hap a ha
  change pz_E l L xs M_K_open 2 0 0 0 [some (.ref 0), some (.int (nI a)), some (.int (pb true)), some (.int f), some (.int c), none] [] h z _
  refine pe_iload_n d_K_open_0 rfl ?_
  -- 1: K_isApp
  refine pe_callS d_K_open_1 m_K_54 s_K_isApp (c_K_isApp _) rfl rfl (by simp [Value.category]) (by decide) ?_
  intro v1 h1 z1 hq1
  obtain ⟨rfl, rfl, rfl⟩ := hq1
  change pz_E _ _ _ _ _ _ _ _ _ (_ :: _) _ _ _
  refine pe_if_eq (tgt := 32) d_K_open_4 (by decide) (fun c_4 => ?_) (fun c_4 => ?_)
  · have c_4 := pb_0.mp c_4
    exact absurd (c_4.symm.trans (rng_y (by decide) (Nat.zero_le _) (by omega))) (by decide)
  · have c_4 := pb_n0.mp c_4
    refine pe_iload_n d_K_open_7 rfl ?_
    refine pe_if_ne (tgt := 20) d_K_open_8 (by decide) (fun c_8 => ?_) (fun c_8 => ?_)
    · have c_8 := pb_n0.mp c_8
      refine pe_aload_n d_K_open_20 rfl ?_
      refine pe_getf d_K_open_21 f_K_49 hK.1 rfl ?_
      refine pe_iload_n d_K_open_24 rfl ?_
      refine pe_aaldN d_K_open_25 rfl hK.2 (by omega) (by omega) rfl ?_
      refine pe_getf d_K_open_26 f_K_62 hA rfl ?_
      refine pe_if_eq (tgt := 34) d_K_open_29 (by decide) (fun c_29 => ?_) (fun c_29 => ?_)
      · have c_29 := pb_0.mp c_29
        refine pe_aload_n d_K_open_34 rfl ?_
        refine pe_getf d_K_open_35 f_K_25 hK.1 rfl ?_
        -- 38: Disk_leastFree
        refine pe_callV d_K_open_38 m_K_66 j_Disk_leastFree v_Disk_leastFree (c_Disk_leastFree hd) rfl rfl (by simp [Value.category]) (by decide) hd.1 rfl rfl ?_
        intro v1 h1 z1 hq1
        obtain ⟨rfl, rfl, rfl⟩ := hq1
        rw [Nat.sub_zero]
        rw [← hbe, orm_lt hb]
        have hb2 := hd.2.2.2.2
        change pz_E _ _ _ _ _ _ _ _ _ (_ :: _) _ _ _
        refine pe_istore d_K_open_41 (by decide) rfl ?_
        dsimp only [List.set]
        refine pe_iload d_K_open_43 rfl ?_
        refine pe_iconst (v := -1) d_K_open_45 (by decide) ?_
        refine pe_icmp_ne (tgt := 52) d_K_open_46 (by decide) (fun c_46 => ?_) (fun c_46 => ?_)
        · refine pe_aload_n d_K_open_52 rfl ?_
          refine pe_getf d_K_open_53 f_K_49 hK.1 rfl ?_
          refine pe_iload_n d_K_open_56 rfl ?_
          refine pe_aaldN d_K_open_57 rfl hK.2 (by omega) (by omega) rfl ?_
          refine pe_iload_n d_K_open_58 rfl ?_
          refine pe_iload_n d_K_open_59 rfl ?_
          refine pe_iload d_K_open_60 rfl ?_
          -- 62: Application_begin
          refine pe_callV d_K_open_62 m_K_70 j_Application_begin v_Application_begin (c_Application_begin_map hA hg _ _) rfl rfl (by simp [Value.category]) (by decide) hA rfl rfl ?_
          intro v1 h1 z1 hq1
          obtain ⟨rfl, rfl, hA, hg, hf1⟩ := hq1
          have hK := hK.on (hf1.on (by omega)) (hf1.on (by omega))
          have hd := hd.on (hf1.on (by omega))
          change pz_E _ _ _ _ _ _ _ _ _ _ _ _ _
          refine pe_aload_n d_K_open_65 rfl ?_
          refine pe_getf d_K_open_66 f_K_25 hK.1 rfl ?_
          refine pe_iload d_K_open_69 rfl ?_
          refine pe_iload_n d_K_open_71 rfl ?_
          refine pe_aload_n d_K_open_72 rfl ?_
          refine pe_getf d_K_open_73 f_K_49 hK.1 rfl ?_
          refine pe_iload_n d_K_open_76 rfl ?_
          refine pe_aaldN d_K_open_77 rfl hK.2 (by omega) (by omega) rfl ?_
          refine pe_getf d_K_open_78 f_K_74 hA rfl ?_
          refine pe_aload_n d_K_open_81 rfl ?_
          refine pe_getf d_K_open_82 f_K_49 hK.1 rfl ?_
          refine pe_iload_n d_K_open_85 rfl ?_
          refine pe_aaldN d_K_open_86 rfl hK.2 (by omega) (by omega) rfl ?_
          refine pe_getf d_K_open_87 f_K_77 hA rfl ?_
          -- 90: Disk_bind
          refine pe_callV d_K_open_90 m_K_80 j_Disk_bind v_Disk_bind (c_Disk_bind hd (b := bb) (fi := 0) (lk := 0) (by omega) (by omega) _) rfl rfl (by simp [Value.category]) (by decide) hd.1 rfl rfl ?_
          intro v2 h2 z2 hq2
          obtain ⟨rfl, rfl, hd, hf2⟩ := hq2
          have hA := hA.on (hf2.on (by omega))
          have hg := hg.on (hf2.on (by omega))
          have hfr : fr2 8 11 (16 + 25 * a) (16 + 25 * a + 3) h h2 := (fr2.rf.r hf1).l hf2
          change pz_E _ _ _ _ _ _ _ _ _ _ _ _ _
          refine pe_iconst (v := nI 0) d_K_open_93 (by decide) ?_
          refine pe_iret d_K_open_94 rfl ?_
          exact ⟨rfl, rfl, hA, hg, hd, hfr⟩
        · exact absurd c_46 (nI_nem1 (by omega))
      · have c_29 := pb_n0.mp c_29
        exact absurd (c_29.symm.trans hcl) (by decide)
    · have c_8 := pb_0.mp c_8
      exact absurd c_8 (by decide)
set_option maxHeartbeats 4000000 in
set_option maxRecDepth 20000 in
theorem c_K_open_full_raw {l : Launch} {L : Nat} {xs : Nat → Int32} {h : pz_H} {z : Nat} {lost : Nat} (hK : KOB h lost) {dr fl : Nat → Nat} {op mp : Nat → Bool} {fi lk : Nat → Nat} (hap : ∀ i, i < 6 → AOB (16 + 25 * i) h (dr i) (fl i) (op i) (mp i) (fi i) (lk i)) {nb : Nat} {dw dn : Nat → Int32} (hd : DSK h nb dw dn) {a : Nat} (ha : a < 6) (f c : Nat) (hlay : (rng (nI f) (nI 0) (nI 7) && rng (nI c) (nI 0) (nI 8 - nI f)) = true) (hfc : f + c ≤ 8) (hcl : op a = false) (hfull : ¬ ff (fun j => decide (dn j = -1)) nb 0 < nb) : pz_K l L xs M_K_open 2 0 0 [.ref 0, .int (nI a), .int (pb false), .int (nI f), .int (nI c)] h z (fun v h' z' => v = some (.int (-2)) ∧ h = h' ∧ z = z') := by
  refine pz_K.of rfl (Nat.le_of_ble_eq_true rfl) ?_
  have hA := hap a ha
  change pz_E l L xs M_K_open 2 0 0 0 [some (.ref 0), some (.int (nI a)), some (.int (pb false)), some (.int (nI f)), some (.int (nI c)), none] [] h z _
  refine pe_iload_n d_K_open_0 rfl ?_
  -- 1: K_isApp
  refine pe_callS d_K_open_1 m_K_54 s_K_isApp (c_K_isApp _) rfl rfl (by simp [Value.category]) (by decide) ?_
  intro v1 h1 z1 hq1
  obtain ⟨rfl, rfl, rfl⟩ := hq1
  change pz_E _ _ _ _ _ _ _ _ _ (_ :: _) _ _ _
  refine pe_if_eq (tgt := 32) d_K_open_4 (by decide) (fun c_4 => ?_) (fun c_4 => ?_)
  · have c_4 := pb_0.mp c_4
    exact absurd (c_4.symm.trans (rng_y (by decide) (Nat.zero_le _) (by omega))) (by decide)
  · have c_4 := pb_n0.mp c_4
    refine pe_iload_n d_K_open_7 rfl ?_
    refine pe_if_ne (tgt := 20) d_K_open_8 (by decide) (fun c_8 => ?_) (fun c_8 => ?_)
    · have c_8 := pb_n0.mp c_8
      exact absurd c_8 (by decide)
    · have c_8 := pb_0.mp c_8
      refine pe_iload_n d_K_open_11 rfl ?_
      refine pe_iload d_K_open_12 rfl ?_
      -- 14: K_isLayout
      refine pe_callS d_K_open_14 m_K_58 s_K_isLayout (c_K_isLayout _ _) rfl rfl (by simp [Value.category]) (by decide) ?_
      intro v1 h1 z1 hq1
      obtain ⟨rfl, rfl, rfl⟩ := hq1
      change pz_E _ _ _ _ _ _ _ _ _ (_ :: _) _ _ _
      refine pe_if_eq (tgt := 32) d_K_open_17 (by decide) (fun c_17 => ?_) (fun c_17 => ?_)
      · have c_17 := pb_0.mp c_17
        exact absurd (c_17.symm.trans hlay) (by decide)
      · have c_17 := pb_n0.mp c_17
        refine pe_aload_n d_K_open_20 rfl ?_
        refine pe_getf d_K_open_21 f_K_49 hK.1 rfl ?_
        refine pe_iload_n d_K_open_24 rfl ?_
        refine pe_aaldN d_K_open_25 rfl hK.2 (by omega) (by omega) rfl ?_
        refine pe_getf d_K_open_26 f_K_62 hA rfl ?_
        refine pe_if_eq (tgt := 34) d_K_open_29 (by decide) (fun c_29 => ?_) (fun c_29 => ?_)
        · have c_29 := pb_0.mp c_29
          refine pe_aload_n d_K_open_34 rfl ?_
          refine pe_getf d_K_open_35 f_K_25 hK.1 rfl ?_
          -- 38: Disk_leastFree
          refine pe_callV d_K_open_38 m_K_66 j_Disk_leastFree v_Disk_leastFree (c_Disk_leastFree hd) rfl rfl (by simp [Value.category]) (by decide) hd.1 rfl rfl ?_
          intro v1 h1 z1 hq1
          obtain ⟨rfl, rfl, rfl⟩ := hq1
          rw [Nat.sub_zero]
          rw [orm_ge hfull]
          change pz_E _ _ _ _ _ _ _ _ _ (_ :: _) _ _ _
          refine pe_istore d_K_open_41 (by decide) rfl ?_
          dsimp only [List.set]
          refine pe_iload d_K_open_43 rfl ?_
          refine pe_iconst (v := -1) d_K_open_45 (by decide) ?_
          refine pe_icmp_ne (tgt := 52) d_K_open_46 (by decide) (fun c_46 => ?_) (fun c_46 => ?_)
          · exact absurd rfl c_46
          · refine pe_bipush (v := -2) d_K_open_49 (by decide) ?_
            refine pe_iret d_K_open_51 rfl ?_
            exact ⟨rfl, rfl, rfl⟩
        · have c_29 := pb_n0.mp c_29
          exact absurd (c_29.symm.trans hcl) (by decide)
set_option maxHeartbeats 4000000 in
set_option maxRecDepth 20000 in
theorem c_K_open_raw {l : Launch} {L : Nat} {xs : Nat → Int32} {h : pz_H} {z : Nat} {lost : Nat} (hK : KOB h lost) {dr fl : Nat → Nat} {op mp : Nat → Bool} {fi lk : Nat → Nat} (hap : ∀ i, i < 6 → AOB (16 + 25 * i) h (dr i) (fl i) (op i) (mp i) (fi i) (lk i)) {nb : Nat} {dw dn : Nat → Int32} (hd : DSK h nb dw dn) {a : Nat} (ha : a < 6) (f c : Nat) (hlay : (rng (nI f) (nI 0) (nI 7) && rng (nI c) (nI 0) (nI 8 - nI f)) = true) (hfc : f + c ≤ 8) (hcl : op a = false) {pp : Nat → Int32} {pl pe : Nat} (hg : PGL (16 + 25 * a + 1) h pp pl pe) {bb : Nat} (hbe : bb = ff (fun j => decide (dn j = -1)) nb 0) (hb : bb < nb) : pz_K l L xs M_K_open 2 0 0 [.ref 0, .int (nI a), .int (pb false), .int (nI f), .int (nI c)] h z (fun v h' z' => v = some (.int (nI 0)) ∧ z = z' ∧ AOB (16 + 25 * a) h' (dr a) (fl a) true false f c ∧ PGL (16 + 25 * a + 1) h' pp 0 0 ∧ DSK h' nb (fil dw (lkw bb f c) (bb * 8) 8) (upd dn bb (nI a)) ∧ fr2 8 11 (16 + 25 * a) (16 + 25 * a + 3) h h') := by
  refine pz_K.of rfl (Nat.le_of_ble_eq_true rfl) ?_
  have hA := hap a ha
  change pz_E l L xs M_K_open 2 0 0 0 [some (.ref 0), some (.int (nI a)), some (.int (pb false)), some (.int (nI f)), some (.int (nI c)), none] [] h z _
  refine pe_iload_n d_K_open_0 rfl ?_
  -- 1: K_isApp
  refine pe_callS d_K_open_1 m_K_54 s_K_isApp (c_K_isApp _) rfl rfl (by simp [Value.category]) (by decide) ?_
  intro v1 h1 z1 hq1
  obtain ⟨rfl, rfl, rfl⟩ := hq1
  change pz_E _ _ _ _ _ _ _ _ _ (_ :: _) _ _ _
  refine pe_if_eq (tgt := 32) d_K_open_4 (by decide) (fun c_4 => ?_) (fun c_4 => ?_)
  · have c_4 := pb_0.mp c_4
    exact absurd (c_4.symm.trans (rng_y (by decide) (Nat.zero_le _) (by omega))) (by decide)
  · have c_4 := pb_n0.mp c_4
    refine pe_iload_n d_K_open_7 rfl ?_
    refine pe_if_ne (tgt := 20) d_K_open_8 (by decide) (fun c_8 => ?_) (fun c_8 => ?_)
    · have c_8 := pb_n0.mp c_8
      exact absurd c_8 (by decide)
    · have c_8 := pb_0.mp c_8
      refine pe_iload_n d_K_open_11 rfl ?_
      refine pe_iload d_K_open_12 rfl ?_
      -- 14: K_isLayout
      refine pe_callS d_K_open_14 m_K_58 s_K_isLayout (c_K_isLayout _ _) rfl rfl (by simp [Value.category]) (by decide) ?_
      intro v1 h1 z1 hq1
      obtain ⟨rfl, rfl, rfl⟩ := hq1
      change pz_E _ _ _ _ _ _ _ _ _ (_ :: _) _ _ _
      refine pe_if_eq (tgt := 32) d_K_open_17 (by decide) (fun c_17 => ?_) (fun c_17 => ?_)
      · have c_17 := pb_0.mp c_17
        exact absurd (c_17.symm.trans hlay) (by decide)
      · have c_17 := pb_n0.mp c_17
        refine pe_aload_n d_K_open_20 rfl ?_
        refine pe_getf d_K_open_21 f_K_49 hK.1 rfl ?_
        refine pe_iload_n d_K_open_24 rfl ?_
        refine pe_aaldN d_K_open_25 rfl hK.2 (by omega) (by omega) rfl ?_
        refine pe_getf d_K_open_26 f_K_62 hA rfl ?_
        refine pe_if_eq (tgt := 34) d_K_open_29 (by decide) (fun c_29 => ?_) (fun c_29 => ?_)
        · have c_29 := pb_0.mp c_29
          refine pe_aload_n d_K_open_34 rfl ?_
          refine pe_getf d_K_open_35 f_K_25 hK.1 rfl ?_
          -- 38: Disk_leastFree
          refine pe_callV d_K_open_38 m_K_66 j_Disk_leastFree v_Disk_leastFree (c_Disk_leastFree hd) rfl rfl (by simp [Value.category]) (by decide) hd.1 rfl rfl ?_
          intro v1 h1 z1 hq1
          obtain ⟨rfl, rfl, rfl⟩ := hq1
          rw [Nat.sub_zero]
          rw [← hbe, orm_lt hb]
          have hb2 := hd.2.2.2.2
          change pz_E _ _ _ _ _ _ _ _ _ (_ :: _) _ _ _
          refine pe_istore d_K_open_41 (by decide) rfl ?_
          dsimp only [List.set]
          refine pe_iload d_K_open_43 rfl ?_
          refine pe_iconst (v := -1) d_K_open_45 (by decide) ?_
          refine pe_icmp_ne (tgt := 52) d_K_open_46 (by decide) (fun c_46 => ?_) (fun c_46 => ?_)
          · refine pe_aload_n d_K_open_52 rfl ?_
            refine pe_getf d_K_open_53 f_K_49 hK.1 rfl ?_
            refine pe_iload_n d_K_open_56 rfl ?_
            refine pe_aaldN d_K_open_57 rfl hK.2 (by omega) (by omega) rfl ?_
            refine pe_iload_n d_K_open_58 rfl ?_
            refine pe_iload_n d_K_open_59 rfl ?_
            refine pe_iload d_K_open_60 rfl ?_
            -- 62: Application_begin
            refine pe_callV d_K_open_62 m_K_70 j_Application_begin v_Application_begin (c_Application_begin_raw hA hg _ _) rfl rfl (by simp [Value.category]) (by decide) hA rfl rfl ?_
            intro v1 h1 z1 hq1
            obtain ⟨rfl, rfl, hA, hg, hf1⟩ := hq1
            have hK := hK.on (hf1.on (by omega)) (hf1.on (by omega))
            have hd := hd.on (hf1.on (by omega))
            change pz_E _ _ _ _ _ _ _ _ _ _ _ _ _
            refine pe_aload_n d_K_open_65 rfl ?_
            refine pe_getf d_K_open_66 f_K_25 hK.1 rfl ?_
            refine pe_iload d_K_open_69 rfl ?_
            refine pe_iload_n d_K_open_71 rfl ?_
            refine pe_aload_n d_K_open_72 rfl ?_
            refine pe_getf d_K_open_73 f_K_49 hK.1 rfl ?_
            refine pe_iload_n d_K_open_76 rfl ?_
            refine pe_aaldN d_K_open_77 rfl hK.2 (by omega) (by omega) rfl ?_
            refine pe_getf d_K_open_78 f_K_74 hA rfl ?_
            refine pe_aload_n d_K_open_81 rfl ?_
            refine pe_getf d_K_open_82 f_K_49 hK.1 rfl ?_
            refine pe_iload_n d_K_open_85 rfl ?_
            refine pe_aaldN d_K_open_86 rfl hK.2 (by omega) (by omega) rfl ?_
            refine pe_getf d_K_open_87 f_K_77 hA rfl ?_
            -- 90: Disk_bind
            refine pe_callV d_K_open_90 m_K_80 j_Disk_bind v_Disk_bind (c_Disk_bind hd (b := bb) (fi := f) (lk := c) (by omega) (by omega) _) rfl rfl (by simp [Value.category]) (by decide) hd.1 rfl rfl ?_
            intro v2 h2 z2 hq2
            obtain ⟨rfl, rfl, hd, hf2⟩ := hq2
            have hA := hA.on (hf2.on (by omega))
            have hg := hg.on (hf2.on (by omega))
            have hfr : fr2 8 11 (16 + 25 * a) (16 + 25 * a + 3) h h2 := (fr2.rf.r hf1).l hf2
            change pz_E _ _ _ _ _ _ _ _ _ _ _ _ _
            refine pe_iconst (v := nI 0) d_K_open_93 (by decide) ?_
            refine pe_iret d_K_open_94 rfl ?_
            exact ⟨rfl, rfl, hA, hg, hd, hfr⟩
          · exact absurd c_46 (nI_nem1 (by omega))
        · have c_29 := pb_n0.mp c_29
          exact absurd (c_29.symm.trans hcl) (by decide)
set_option maxHeartbeats 4000000 in
set_option maxRecDepth 20000 in
theorem c_K_close_no {l : Launch} {L : Nat} {xs : Nat → Int32} {h : pz_H} {z : Nat} {lost : Nat} (hK : KOB h lost) {dr fl : Nat → Nat} {op mp : Nat → Bool} {fi lk : Nat → Nat} (hap : ∀ i, i < 6 → AOB (16 + 25 * i) h (dr i) (fl i) (op i) (mp i) (fi i) (lk i)) (x : Int32) (hno : opn op x = false) : pz_K l L xs M_K_close 3 0 0 [.ref 0, .int x] h z (fun v h' z' => v = some (.int (-1)) ∧ h = h' ∧ z = z') := by
  refine pz_K.of rfl (Nat.le_of_ble_eq_true rfl) ?_
  change pz_E l L xs M_K_close 3 0 0 0 [some (.ref 0), some (.int x)] [] h z _
  refine pe_aload_n d_K_close_0 rfl ?_
  refine pe_iload_n d_K_close_1 rfl ?_
  -- 2: K_isOpen
  refine pe_callV d_K_close_2 m_K_84 j_K_isOpen v_K_isOpen (c_K_isOpen hK hap _) rfl rfl (by simp [Value.category]) (by decide) hK.1 rfl rfl ?_
  intro v1 h1 z1 hq1
  obtain ⟨rfl, rfl, rfl⟩ := hq1
  change pz_E _ _ _ _ _ _ _ _ _ (_ :: _) _ _ _
  refine pe_if_ne (tgt := 10) d_K_close_5 (by decide) (fun c_5 => ?_) (fun c_5 => ?_)
  · have c_5 := pb_n0.mp c_5
    exact absurd (c_5.symm.trans hno) (by decide)
  · have c_5 := pb_0.mp c_5
    refine pe_iconst (v := -1) d_K_close_8 (by decide) ?_
    refine pe_iret d_K_close_9 rfl ?_
    exact ⟨rfl, rfl, rfl⟩
set_option maxHeartbeats 4000000 in
set_option maxRecDepth 20000 in
theorem c_K_close_ok {l : Launch} {L : Nat} {xs : Nat → Int32} {h : pz_H} {z : Nat} {lost : Nat} (hK : KOB h lost) {dr fl : Nat → Nat} {op mp : Nat → Bool} {fi lk : Nat → Nat} (hap : ∀ i, i < 6 → AOB (16 + 25 * i) h (dr i) (fl i) (op i) (mp i) (fi i) (lk i)) {np : Nat} {mw mo mr mt : Nat → Int32} {mn : Nat → Bool} {md : Nat → Int32} {ts ck : Nat} (hm : MEM h np mw mo mr mt mn md ts ck) {nb : Nat} {dw dn : Nat → Int32} (hd : DSK h nb dw dn) {os : Nat → Int32} {ol : Nat} (ho : ORD h os ol) {a : Nat} (ha : a < 6) (hyes : opn op (nI a) = true) (hdf : (dr a = 16 + 25 * a + 15 ∧ fl a = 16 + 25 * a + 20) ∨ (dr a = 16 + 25 * a + 20 ∧ fl a = 16 + 25 * a + 15)) {c1 o1 y1 n1 : Nat → Int32} {l1 : Nat} (hp1 : PRG (dr a) h c1 o1 y1 n1 l1) {c2 o2 y2 n2 : Nat → Int32} {l2 : Nat} (hp2 : PRG (fl a) h c2 o2 y2 n2 l2) {qb : Nat → Nat → Int32} {qn : Nat → Nat} {qf ql : Nat} (hq : QUE (16 + 25 * a + 3) h qb qn qf ql) {td : Nat → Int32} {tl : Nat} (ht : TAB (16 + 25 * a + 13) h td tl) : pz_K l L xs M_K_close 3 0 0 [.ref 0, .int (nI a)] h z (fun v h' z' => v = some (.int (nI 0)) ∧ z = z' ∧ MEM h' np mw (fgO mo (nI a) np) (fgR mo mr (nI a) a np) mt (fgN mo mn (nI a) np) md ts ck ∧ DSK h' nb dw (frA dn (nI a) nb) ∧ ORD h' (dro os ol (nI a)) (drl os ol (nI a)) ∧ AOB (16 + 25 * a) h' (dr a) (fl a) false (mp a) (fi a) (lk a) ∧ PRG (dr a) h' c1 o1 y1 n1 0 ∧ PRG (fl a) h' c2 o2 y2 n2 0 ∧ QUE (16 + 25 * a + 3) h' qb qn qf 0 ∧ TAB (16 + 25 * a + 13) h' td 0 ∧ fr2 1 13 (16 + 25 * a) (16 + 25 * a + 25) h h') := by
  refine pz_K.of rfl (Nat.le_of_ble_eq_true rfl) ?_
  have hA := hap a ha
  change pz_E l L xs M_K_close 3 0 0 0 [some (.ref 0), some (.int (nI a))] [] h z _
  refine pe_aload_n d_K_close_0 rfl ?_
  refine pe_iload_n d_K_close_1 rfl ?_
  -- 2: K_isOpen
  refine pe_callV d_K_close_2 m_K_84 j_K_isOpen v_K_isOpen (c_K_isOpen hK hap _) rfl rfl (by simp [Value.category]) (by decide) hK.1 rfl rfl ?_
  intro v1 h1 z1 hq1
  obtain ⟨rfl, rfl, rfl⟩ := hq1
  change pz_E _ _ _ _ _ _ _ _ _ (_ :: _) _ _ _
  refine pe_if_ne (tgt := 10) d_K_close_5 (by decide) (fun c_5 => ?_) (fun c_5 => ?_)
  · have c_5 := pb_n0.mp c_5
    refine pe_aload_n d_K_close_10 rfl ?_
    refine pe_getf d_K_close_11 f_K_18 hK.1 rfl ?_
    refine pe_iload_n d_K_close_14 rfl ?_
    -- 15: Memory_forget
    refine pe_callV d_K_close_15 m_K_86 j_Memory_forget v_Memory_forget (c_Memory_forget hm ha) rfl rfl (by simp [Value.category]) (by decide) hm.1 rfl rfl ?_
    intro v1 h1 z1 hq1
    obtain ⟨rfl, rfl, hm, hf1⟩ := hq1
    have hK := hK.on (hf1.on (by omega)) (hf1.on (by omega))
    have hA := hA.on (hf1.on (by omega))
    have hd := hd.on (hf1.on (by omega))
    have ho := ho.on (hf1.on (by omega))
    have hp1 := hp1.on (hf1.on (by omega))
    have hp2 := hp2.on (hf1.on (by omega))
    have hq := hq.on (hf1.on (by omega))
    have ht := ht.on (hf1.on (by omega))
    change pz_E _ _ _ _ _ _ _ _ _ _ _ _ _
    refine pe_aload_n d_K_close_18 rfl ?_
    refine pe_getf d_K_close_19 f_K_25 hK.1 rfl ?_
    refine pe_iload_n d_K_close_22 rfl ?_
    -- 23: Disk_freeAllOf
    refine pe_callV d_K_close_23 m_K_89 j_Disk_freeAllOf v_Disk_freeAllOf (c_Disk_freeAllOf hd _) rfl rfl (by simp [Value.category]) (by decide) hd.1 rfl rfl ?_
    intro v2 h2 z2 hq2
    obtain ⟨rfl, rfl, hd, hf2⟩ := hq2
    have hK := hK.on (hf2.on (by omega)) (hf2.on (by omega))
    have hA := hA.on (hf2.on (by omega))
    have hm := hm.on (hf2.on (by omega))
    have ho := ho.on (hf2.on (by omega))
    have hp1 := hp1.on (hf2.on (by omega))
    have hp2 := hp2.on (hf2.on (by omega))
    have hq := hq.on (hf2.on (by omega))
    have ht := ht.on (hf2.on (by omega))
    change pz_E _ _ _ _ _ _ _ _ _ _ _ _ _
    refine pe_aload_n d_K_close_26 rfl ?_
    refine pe_getf d_K_close_27 f_K_32 hK.1 rfl ?_
    refine pe_iload_n d_K_close_30 rfl ?_
    -- 31: FilterOrder_drop
    refine pe_callV d_K_close_31 m_K_92 j_FilterOrder_drop v_FilterOrder_drop (c_FilterOrder_drop ho _) rfl rfl (by simp [Value.category]) (by decide) ho.1 rfl rfl ?_
    intro v3 h3 z3 hq3
    obtain ⟨rfl, rfl, ho, hf3⟩ := hq3
    have hK := hK.on (hf3.on (by omega)) (hf3.on (by omega))
    have hA := hA.on (hf3.on (by omega))
    have hm := hm.on (hf3.on (by omega))
    have hd := hd.on (hf3.on (by omega))
    have hp1 := hp1.on (hf3.on (by omega))
    have hp2 := hp2.on (hf3.on (by omega))
    have hq := hq.on (hf3.on (by omega))
    have ht := ht.on (hf3.on (by omega))
    change pz_E _ _ _ _ _ _ _ _ _ _ _ _ _
    refine pe_aload_n d_K_close_34 rfl ?_
    refine pe_getf d_K_close_35 f_K_49 hK.1 rfl ?_
    refine pe_iload_n d_K_close_38 rfl ?_
    refine pe_aaldN d_K_close_39 rfl hK.2 (by omega) (by omega) rfl ?_
    -- 40: Application_end
    refine pe_callV d_K_close_40 m_K_95 j_Application_end v_Application_end (c_Application_end hA hdf hp1 hp2 hq ht) rfl rfl (by simp [Value.category]) (by decide) hA rfl rfl ?_
    intro v4 h4 z4 hq4
    obtain ⟨rfl, rfl, hA, hp1, hp2, hq, ht, hf4⟩ := hq4
    have hm := hm.on (hf4.on (by omega))
    have hd := hd.on (hf4.on (by omega))
    have ho := ho.on (hf4.on (by omega))
    have hfr : fr2 1 13 (16 + 25 * a) (16 + 25 * a + 25) h h4 := (((fr2.rf.l (hf1.wd (by omega) (by omega))).l (hf2.wd (by omega) (by omega))).l (hf3.wd (by omega) (by omega))).r hf4
    change pz_E _ _ _ _ _ _ _ _ _ _ _ _ _
    refine pe_iconst (v := nI 0) d_K_close_43 (by decide) ?_
    refine pe_iret d_K_close_44 rfl ?_
    exact ⟨rfl, rfl, hm, hd, ho, hA, hp1, hp2, hq, ht, hfr⟩
  · have c_5 := pb_0.mp c_5
    exact absurd (c_5.symm.trans hyes) (by decide)
set_option maxHeartbeats 4000000 in
set_option maxRecDepth 20000 in
theorem c_K_install_no {l : Launch} {L : Nat} {xs : Nat → Int32} {h : pz_H} {z : Nat} {lost : Nat} (hK : KOB h lost) {dr fl : Nat → Nat} {op mp : Nat → Bool} {fi lk : Nat → Nat} (hap : ∀ i, i < 6 → AOB (16 + 25 * i) h (dr i) (fl i) (op i) (mp i) (fi i) (lk i)) (x : Int32) (hno : opn op x = false) : pz_K l L xs M_K_install 3 0 0 [.ref 0, .int x] h z (fun v h' z' => v = some (.int (-1)) ∧ h = h' ∧ z = z') := by
  refine pz_K.of rfl (Nat.le_of_ble_eq_true rfl) ?_
  change pz_E l L xs M_K_install 3 0 0 0 [some (.ref 0), some (.int x)] [] h z _
  refine pe_aload_n d_K_install_0 rfl ?_
  refine pe_iload_n d_K_install_1 rfl ?_
  -- 2: K_isOpen
  refine pe_callV d_K_install_2 m_K_84 j_K_isOpen v_K_isOpen (c_K_isOpen hK hap _) rfl rfl (by simp [Value.category]) (by decide) hK.1 rfl rfl ?_
  intro v1 h1 z1 hq1
  obtain ⟨rfl, rfl, rfl⟩ := hq1
  change pz_E _ _ _ _ _ _ _ _ _ (_ :: _) _ _ _
  refine pe_if_ne (tgt := 10) d_K_install_5 (by decide) (fun c_5 => ?_) (fun c_5 => ?_)
  · have c_5 := pb_n0.mp c_5
    exact absurd (c_5.symm.trans hno) (by decide)
  · have c_5 := pb_0.mp c_5
    refine pe_iconst (v := -1) d_K_install_8 (by decide) ?_
    refine pe_iret d_K_install_9 rfl ?_
    exact ⟨rfl, rfl, rfl⟩
set_option maxHeartbeats 4000000 in
set_option maxRecDepth 20000 in
theorem c_K_install_bad {l : Launch} {L : Nat} {xs : Nat → Int32} {h : pz_H} {z : Nat} {lost : Nat} (hK : KOB h lost) {dr fl : Nat → Nat} {op mp : Nat → Bool} {fi lk : Nat → Nat} (hap : ∀ i, i < 6 → AOB (16 + 25 * i) h (dr i) (fl i) (op i) (mp i) (fi i) (lk i)) {a : Nat} (ha : a < 6) (hyes : opn op (nI a) = true) {c1 o1 y1 n1 : Nat → Int32} {l1 : Nat} (hp1 : PRG (dr a) h c1 o1 y1 n1 l1) {yy nn : Nat → Nat} (hyy : ∀ j, j < l1 → y1 j = nI (yy j) ∧ yy j ≤ 15) (hnn : ∀ j, j < l1 → n1 j = nI (nn j) ∧ nn j ≤ 15) (hbad : ff (bad c1 yy nn l1) l1 0 < l1) : pz_K l L xs M_K_install 3 0 0 [.ref 0, .int (nI a)] h z (fun v h' z' => v = some (.int (-5)) ∧ z = z' ∧ PRG (dr a) h' c1 o1 y1 n1 0 ∧ frm (dr a) (dr a + 5) h h') := by
  refine pz_K.of rfl (Nat.le_of_ble_eq_true rfl) ?_
  have hA := hap a ha
  change pz_E l L xs M_K_install 3 0 0 0 [some (.ref 0), some (.int (nI a))] [] h z _
  refine pe_aload_n d_K_install_0 rfl ?_
  refine pe_iload_n d_K_install_1 rfl ?_
  -- 2: K_isOpen
  refine pe_callV d_K_install_2 m_K_84 j_K_isOpen v_K_isOpen (c_K_isOpen hK hap _) rfl rfl (by simp [Value.category]) (by decide) hK.1 rfl rfl ?_
  intro v1 h1 z1 hq1
  obtain ⟨rfl, rfl, rfl⟩ := hq1
  change pz_E _ _ _ _ _ _ _ _ _ (_ :: _) _ _ _
  refine pe_if_ne (tgt := 10) d_K_install_5 (by decide) (fun c_5 => ?_) (fun c_5 => ?_)
  · have c_5 := pb_n0.mp c_5
    refine pe_aload_n d_K_install_10 rfl ?_
    refine pe_getf d_K_install_11 f_K_49 hK.1 rfl ?_
    refine pe_iload_n d_K_install_14 rfl ?_
    refine pe_aaldN d_K_install_15 rfl hK.2 (by omega) (by omega) rfl ?_
    refine pe_getf d_K_install_16 f_K_161 hA rfl ?_
    -- 19: Program_isSound
    refine pe_callV d_K_install_19 m_K_174 j_Program_isSound v_Program_isSound (c_Program_isSound hp1 hyy hnn) rfl rfl (by simp [Value.category]) (by decide) hp1.1 rfl rfl ?_
    intro v1 h1 z1 hq1
    obtain ⟨rfl, rfl, rfl⟩ := hq1
    rw [Nat.sub_zero]
    change pz_E _ _ _ _ _ _ _ _ _ (_ :: _) _ _ _
    refine pe_if_ne (tgt := 40) d_K_install_22 (by decide) (fun c_22 => ?_) (fun c_22 => ?_)
    · have c_22 := pb_n0.mp c_22
      exact absurd hbad (of_decide_eq_true c_22)
    · have c_22 := pb_0.mp c_22
      refine pe_aload_n d_K_install_25 rfl ?_
      refine pe_getf d_K_install_26 f_K_49 hK.1 rfl ?_
      refine pe_iload_n d_K_install_29 rfl ?_
      refine pe_aaldN d_K_install_30 rfl hK.2 (by omega) (by omega) rfl ?_
      refine pe_getf d_K_install_31 f_K_161 hA rfl ?_
      -- 34: Program_clear
      refine pe_callV d_K_install_34 m_K_177 j_Program_clear v_Program_clear (c_Program_clear hp1) rfl rfl (by simp [Value.category]) (by decide) hp1.1 rfl rfl ?_
      intro v1 h1 z1 hq1
      obtain ⟨rfl, rfl, hp1, hf1⟩ := hq1
      change pz_E _ _ _ _ _ _ _ _ _ _ _ _ _
      refine pe_bipush (v := -5) d_K_install_37 (by decide) ?_
      refine pe_iret d_K_install_39 rfl ?_
      exact ⟨rfl, rfl, hp1, hf1⟩
  · have c_5 := pb_0.mp c_5
    exact absurd (c_5.symm.trans hyes) (by decide)
set_option maxHeartbeats 4000000 in
set_option maxRecDepth 20000 in
theorem c_K_install_0 {l : Launch} {L : Nat} {xs : Nat → Int32} {h : pz_H} {z : Nat} {lost : Nat} (hK : KOB h lost) {dr fl : Nat → Nat} {op mp : Nat → Bool} {fi lk : Nat → Nat} (hap : ∀ i, i < 6 → AOB (16 + 25 * i) h (dr i) (fl i) (op i) (mp i) (fi i) (lk i)) {os : Nat → Int32} {ol : Nat} (ho : ORD h os ol) {a : Nat} (ha : a < 6) (hyes : opn op (nI a) = true) (hdf : (dr a = 16 + 25 * a + 15 ∧ fl a = 16 + 25 * a + 20) ∨ (dr a = 16 + 25 * a + 20 ∧ fl a = 16 + 25 * a + 15)) {c1 o1 y1 n1 : Nat → Int32} {l1 : Nat} (hp1 : PRG (dr a) h c1 o1 y1 n1 l1) {c2 o2 y2 n2 : Nat → Int32} {l2 : Nat} (hp2 : PRG (fl a) h c2 o2 y2 n2 l2) {yy nn : Nat → Nat} (hyy : ∀ j, j < l1 → y1 j = nI (yy j) ∧ yy j ≤ 15) (hnn : ∀ j, j < l1 → n1 j = nI (nn j) ∧ nn j ≤ 15) (hgood : ¬ ff (bad c1 yy nn l1) l1 0 < l1) (h0 : l1 = 0) : pz_K l L xs M_K_install 3 0 0 [.ref 0, .int (nI a)] h z (fun v h' z' => v = some (.int (nI 0)) ∧ z = z' ∧ ORD h' (dro os ol (nI a)) (drl os ol (nI a)) ∧ AOB (16 + 25 * a) h' (fl a) (dr a) (op a) (mp a) (fi a) (lk a) ∧ PRG (dr a) h' c1 o1 y1 n1 l1 ∧ PRG (fl a) h' c2 o2 y2 n2 0 ∧ fr2 11 13 (16 + 25 * a) (16 + 25 * a + 25) h h') := by
  refine pz_K.of rfl (Nat.le_of_ble_eq_true rfl) ?_
  have hA := hap a ha
  change pz_E l L xs M_K_install 3 0 0 0 [some (.ref 0), some (.int (nI a))] [] h z _
  refine pe_aload_n d_K_install_0 rfl ?_
  refine pe_iload_n d_K_install_1 rfl ?_
  -- 2: K_isOpen
  refine pe_callV d_K_install_2 m_K_84 j_K_isOpen v_K_isOpen (c_K_isOpen hK hap _) rfl rfl (by simp [Value.category]) (by decide) hK.1 rfl rfl ?_
  intro v1 h1 z1 hq1
  obtain ⟨rfl, rfl, rfl⟩ := hq1
  change pz_E _ _ _ _ _ _ _ _ _ (_ :: _) _ _ _
  refine pe_if_ne (tgt := 10) d_K_install_5 (by decide) (fun c_5 => ?_) (fun c_5 => ?_)
  · have c_5 := pb_n0.mp c_5
    refine pe_aload_n d_K_install_10 rfl ?_
    refine pe_getf d_K_install_11 f_K_49 hK.1 rfl ?_
    refine pe_iload_n d_K_install_14 rfl ?_
    refine pe_aaldN d_K_install_15 rfl hK.2 (by omega) (by omega) rfl ?_
    refine pe_getf d_K_install_16 f_K_161 hA rfl ?_
    -- 19: Program_isSound
    refine pe_callV d_K_install_19 m_K_174 j_Program_isSound v_Program_isSound (c_Program_isSound hp1 hyy hnn) rfl rfl (by simp [Value.category]) (by decide) hp1.1 rfl rfl ?_
    intro v1 h1 z1 hq1
    obtain ⟨rfl, rfl, rfl⟩ := hq1
    rw [Nat.sub_zero]
    change pz_E _ _ _ _ _ _ _ _ _ (_ :: _) _ _ _
    refine pe_if_ne (tgt := 40) d_K_install_22 (by decide) (fun c_22 => ?_) (fun c_22 => ?_)
    · have c_22 := pb_n0.mp c_22
      refine pe_aload_n d_K_install_40 rfl ?_
      refine pe_getf d_K_install_41 f_K_32 hK.1 rfl ?_
      refine pe_iload_n d_K_install_44 rfl ?_
      -- 45: FilterOrder_drop
      refine pe_callV d_K_install_45 m_K_92 j_FilterOrder_drop v_FilterOrder_drop (c_FilterOrder_drop ho _) rfl rfl (by simp [Value.category]) (by decide) ho.1 rfl rfl ?_
      intro v3 h3 z3 hq3
      obtain ⟨rfl, rfl, ho, hf3⟩ := hq3
      have hK := hK.on (hf3.on (by omega)) (hf3.on (by omega))
      have hA := hA.on (hf3.on (by omega))
      have hp1 := hp1.on (hf3.on (by omega))
      have hp2 := hp2.on (hf3.on (by omega))
      have hfr := (fr2.rf (lo := 11) (hi := 13) (lo2 := 16 + 25 * a) (hi2 := 16 + 25 * a + 25) (h := h)).l hf3
      change pz_E _ _ _ _ _ _ _ _ _ _ _ _ _
      refine pe_aload_n d_K_install_48 rfl ?_
      refine pe_getf d_K_install_49 f_K_49 hK.1 rfl ?_
      refine pe_iload_n d_K_install_52 rfl ?_
      refine pe_aaldN d_K_install_53 rfl hK.2 (by omega) (by omega) rfl ?_
      refine pe_getf d_K_install_54 f_K_161 hA rfl ?_
      refine pe_getf d_K_install_57 f_K_171 hp1.1 rfl ?_
      refine pe_if_le (tgt := 71) d_K_install_60 (by decide) (fun c_60 => ?_) (fun c_60 => ?_)
      · refine pe_aload_n d_K_install_71 rfl ?_
        refine pe_getf d_K_install_72 f_K_49 hK.1 rfl ?_
        refine pe_iload_n d_K_install_75 rfl ?_
        refine pe_aaldN d_K_install_76 rfl hK.2 (by omega) (by omega) rfl ?_
        -- 77: Application_draftBecomesFilter
        refine pe_callV d_K_install_77 m_K_181 j_Application_draftBecomesFilter v_Application_draftBecomesFilter (c_Application_draftBecomesFilter hA hdf hp1 hp2) rfl rfl (by simp [Value.category]) (by decide) hA rfl rfl ?_
        intro v5 h5 z5 hq5
        obtain ⟨rfl, rfl, hA, hp1, hp2, hf5⟩ := hq5
        have ho := ho.on (hf5.on (by omega))
        have hfr := hfr.r hf5
        change pz_E _ _ _ _ _ _ _ _ _ _ _ _ _
        refine pe_iconst (v := nI 0) d_K_install_80 (by decide) ?_
        refine pe_iret d_K_install_81 rfl ?_
        exact ⟨rfl, rfl, ho, hA, hp1, hp2, hfr⟩
      · exact absurd (by rw [h0]; decide) c_60
    · have c_22 := pb_0.mp c_22
      exact absurd (of_decide_eq_false c_22) (fun e => e hgood)
  · have c_5 := pb_0.mp c_5
    exact absurd (c_5.symm.trans hyes) (by decide)
set_option maxHeartbeats 4000000 in
set_option maxRecDepth 20000 in
theorem c_K_install_n {l : Launch} {L : Nat} {xs : Nat → Int32} {h : pz_H} {z : Nat} {lost : Nat} (hK : KOB h lost) {dr fl : Nat → Nat} {op mp : Nat → Bool} {fi lk : Nat → Nat} (hap : ∀ i, i < 6 → AOB (16 + 25 * i) h (dr i) (fl i) (op i) (mp i) (fi i) (lk i)) {os : Nat → Int32} {ol : Nat} (ho : ORD h os ol) {a : Nat} (ha : a < 6) (hyes : opn op (nI a) = true) (hdf : (dr a = 16 + 25 * a + 15 ∧ fl a = 16 + 25 * a + 20) ∨ (dr a = 16 + 25 * a + 20 ∧ fl a = 16 + 25 * a + 15)) {c1 o1 y1 n1 : Nat → Int32} {l1 : Nat} (hp1 : PRG (dr a) h c1 o1 y1 n1 l1) {c2 o2 y2 n2 : Nat → Int32} {l2 : Nat} (hp2 : PRG (fl a) h c2 o2 y2 n2 l2) {yy nn : Nat → Nat} (hyy : ∀ j, j < l1 → y1 j = nI (yy j) ∧ yy j ≤ 15) (hnn : ∀ j, j < l1 → n1 j = nI (nn j) ∧ nn j ≤ 15) (hgood : ¬ ff (bad c1 yy nn l1) l1 0 < l1) (h0 : 0 < l1) (hdl : drl os ol (nI a) < 6) : pz_K l L xs M_K_install 3 0 0 [.ref 0, .int (nI a)] h z (fun v h' z' => v = some (.int (nI 0)) ∧ z = z' ∧ ORD h' (upd (dro os ol (nI a)) (drl os ol (nI a)) (nI a)) (drl os ol (nI a) + 1) ∧ AOB (16 + 25 * a) h' (fl a) (dr a) (op a) (mp a) (fi a) (lk a) ∧ PRG (dr a) h' c1 o1 y1 n1 l1 ∧ PRG (fl a) h' c2 o2 y2 n2 0 ∧ fr2 11 13 (16 + 25 * a) (16 + 25 * a + 25) h h') := by
  refine pz_K.of rfl (Nat.le_of_ble_eq_true rfl) ?_
  have hA := hap a ha
  change pz_E l L xs M_K_install 3 0 0 0 [some (.ref 0), some (.int (nI a))] [] h z _
  refine pe_aload_n d_K_install_0 rfl ?_
  refine pe_iload_n d_K_install_1 rfl ?_
  -- 2: K_isOpen
  refine pe_callV d_K_install_2 m_K_84 j_K_isOpen v_K_isOpen (c_K_isOpen hK hap _) rfl rfl (by simp [Value.category]) (by decide) hK.1 rfl rfl ?_
  intro v1 h1 z1 hq1
  obtain ⟨rfl, rfl, rfl⟩ := hq1
  change pz_E _ _ _ _ _ _ _ _ _ (_ :: _) _ _ _
  refine pe_if_ne (tgt := 10) d_K_install_5 (by decide) (fun c_5 => ?_) (fun c_5 => ?_)
  · have c_5 := pb_n0.mp c_5
    refine pe_aload_n d_K_install_10 rfl ?_
    refine pe_getf d_K_install_11 f_K_49 hK.1 rfl ?_
    refine pe_iload_n d_K_install_14 rfl ?_
    refine pe_aaldN d_K_install_15 rfl hK.2 (by omega) (by omega) rfl ?_
    refine pe_getf d_K_install_16 f_K_161 hA rfl ?_
    -- 19: Program_isSound
    refine pe_callV d_K_install_19 m_K_174 j_Program_isSound v_Program_isSound (c_Program_isSound hp1 hyy hnn) rfl rfl (by simp [Value.category]) (by decide) hp1.1 rfl rfl ?_
    intro v1 h1 z1 hq1
    obtain ⟨rfl, rfl, rfl⟩ := hq1
    rw [Nat.sub_zero]
    change pz_E _ _ _ _ _ _ _ _ _ (_ :: _) _ _ _
    refine pe_if_ne (tgt := 40) d_K_install_22 (by decide) (fun c_22 => ?_) (fun c_22 => ?_)
    · have c_22 := pb_n0.mp c_22
      refine pe_aload_n d_K_install_40 rfl ?_
      refine pe_getf d_K_install_41 f_K_32 hK.1 rfl ?_
      refine pe_iload_n d_K_install_44 rfl ?_
      -- 45: FilterOrder_drop
      refine pe_callV d_K_install_45 m_K_92 j_FilterOrder_drop v_FilterOrder_drop (c_FilterOrder_drop ho _) rfl rfl (by simp [Value.category]) (by decide) ho.1 rfl rfl ?_
      intro v3 h3 z3 hq3
      obtain ⟨rfl, rfl, ho, hf3⟩ := hq3
      have hK := hK.on (hf3.on (by omega)) (hf3.on (by omega))
      have hA := hA.on (hf3.on (by omega))
      have hp1 := hp1.on (hf3.on (by omega))
      have hp2 := hp2.on (hf3.on (by omega))
      have hfr := (fr2.rf (lo := 11) (hi := 13) (lo2 := 16 + 25 * a) (hi2 := 16 + 25 * a + 25) (h := h)).l hf3
      change pz_E _ _ _ _ _ _ _ _ _ _ _ _ _
      refine pe_aload_n d_K_install_48 rfl ?_
      refine pe_getf d_K_install_49 f_K_49 hK.1 rfl ?_
      refine pe_iload_n d_K_install_52 rfl ?_
      refine pe_aaldN d_K_install_53 rfl hK.2 (by omega) (by omega) rfl ?_
      refine pe_getf d_K_install_54 f_K_161 hA rfl ?_
      refine pe_getf d_K_install_57 f_K_171 hp1.1 rfl ?_
      refine pe_if_le (tgt := 71) d_K_install_60 (by decide) (fun c_60 => ?_) (fun c_60 => ?_)
      · exact absurd c_60 (nI_nle h0 (by have := hp1.2.2.2.2.2; omega))
      · refine pe_aload_n d_K_install_63 rfl ?_
        refine pe_getf d_K_install_64 f_K_32 hK.1 rfl ?_
        refine pe_iload_n d_K_install_67 rfl ?_
        -- 68: FilterOrder_append
        refine pe_callV d_K_install_68 m_K_180 j_FilterOrder_append v_FilterOrder_append (c_FilterOrder_append ho _ hdl) rfl rfl (by simp [Value.category]) (by decide) ho.1 rfl rfl ?_
        intro v4 h4 z4 hq4
        obtain ⟨rfl, rfl, ho, hf4⟩ := hq4
        have hK := hK.on (hf4.on (by omega)) (hf4.on (by omega))
        have hA := hA.on (hf4.on (by omega))
        have hp1 := hp1.on (hf4.on (by omega))
        have hp2 := hp2.on (hf4.on (by omega))
        have hfr := hfr.l hf4
        change pz_E _ _ _ _ _ _ _ _ _ _ _ _ _
        refine pe_aload_n d_K_install_71 rfl ?_
        refine pe_getf d_K_install_72 f_K_49 hK.1 rfl ?_
        refine pe_iload_n d_K_install_75 rfl ?_
        refine pe_aaldN d_K_install_76 rfl hK.2 (by omega) (by omega) rfl ?_
        -- 77: Application_draftBecomesFilter
        refine pe_callV d_K_install_77 m_K_181 j_Application_draftBecomesFilter v_Application_draftBecomesFilter (c_Application_draftBecomesFilter hA hdf hp1 hp2) rfl rfl (by simp [Value.category]) (by decide) hA rfl rfl ?_
        intro v5 h5 z5 hq5
        obtain ⟨rfl, rfl, hA, hp1, hp2, hf5⟩ := hq5
        have ho := ho.on (hf5.on (by omega))
        have hfr := hfr.r hf5
        change pz_E _ _ _ _ _ _ _ _ _ _ _ _ _
        refine pe_iconst (v := nI 0) d_K_install_80 (by decide) ?_
        refine pe_iret d_K_install_81 rfl ?_
        exact ⟨rfl, rfl, ho, hA, hp1, hp2, hfr⟩
    · have c_22 := pb_0.mp c_22
      exact absurd (of_decide_eq_false c_22) (fun e => e hgood)
  · have c_5 := pb_0.mp c_5
    exact absurd (c_5.symm.trans hyes) (by decide)
