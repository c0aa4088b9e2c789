/-! the kernel: contracts of BindingKernel, fourth part -/
set_option maxHeartbeats 4000000 in
set_option maxRecDepth 20000 in
theorem c_K_relink_bad {l : Launch} {L : Nat} {xs : Nat → Int32} {h : pz_H} {z : Nat} {lost : Nat} (hK : KOB h lost) {dr fl : Nat → Nat} {op mp : Nat → Bool} {fi lk : Nat → Nat} (hap : ∀ i, i < 6 → AOB (16 + 25 * i) h (dr i) (fl i) (op i) (mp i) (fi i) (lk i)) {nb : Nat} {dw dn : Nat → Int32} (hd : DSK h nb dw dn) {a b q : Nat} (ha : a < 6) (hb : b < nb) (hq8 : q < 8) (hfk : fi a + lk a ≤ 8) (u : Int32) (hu : ¬ u = -1) (hno : inn u nb = false) : pz_K l L xs M_K_relink 2 0 0 [.ref 0, .int (nI a), .int (nI b), .int (nI q), .int u] h z (fun v h' z' => v = some (.int (-1)) ∧ h = h' ∧ z = z') := by
  refine pz_K.of rfl (Nat.le_of_ble_eq_true rfl) ?_
  have hA := hap a ha
  have hb2 := hd.2.2.2.2
  change pz_E l L xs M_K_relink 2 0 0 0 [some (.ref 0), some (.int (nI a)), some (.int (nI b)), some (.int (nI q)), some (.int u), none, none, none] [] h z _
  refine pe_iload d_K_relink_0 rfl ?_
  refine pe_iconst (v := -1) d_K_relink_2 (by decide) ?_
  refine pe_icmp_eq (tgt := 20) d_K_relink_3 (by decide) (fun c_3 => ?_) (fun c_3 => ?_)
  · exact absurd c_3 hu
  · refine pe_aload_n d_K_relink_6 rfl ?_
    refine pe_getf d_K_relink_7 f_K_25 hK.1 rfl ?_
    refine pe_iload d_K_relink_10 rfl ?_
    -- 12: Disk_hasBlock
    refine pe_callV d_K_relink_12 m_K_215 j_Disk_hasBlock v_Disk_hasBlock (c_Disk_hasBlock hd _) rfl rfl (by simp [Value.category]) (by decide) hd.1 rfl rfl ?_
    intro v1 h1 z1 hq1
    obtain ⟨rfl, rfl, rfl⟩ := hq1
    change pz_E _ _ _ _ _ _ _ _ _ (_ :: _) _ _ _
    refine pe_if_ne (tgt := 20) d_K_relink_15 (by decide) (fun c_15 => ?_) (fun c_15 => ?_)
    · have c_15 := pb_n0.mp c_15
      exact absurd (c_15.symm.trans hno) (by decide)
    · have c_15 := pb_0.mp c_15
      refine pe_iconst (v := -1) d_K_relink_18 (by decide) ?_
      refine pe_iret d_K_relink_19 rfl ?_
      exact ⟨rfl, rfl, rfl⟩
set_option maxHeartbeats 4000000 in
set_option maxRecDepth 20000 in
theorem c_K_relink_same {l : Launch} {L : Nat} {xs : Nat → Int32} {h : pz_H} {z : Nat} {lost : Nat} (hK : KOB h lost) {dr fl : Nat → Nat} {op mp : Nat → Bool} {fi lk : Nat → Nat} (hap : ∀ i, i < 6 → AOB (16 + 25 * i) h (dr i) (fl i) (op i) (mp i) (fi i) (lk i)) {nb : Nat} {dw dn : Nat → Int32} (hd : DSK h nb dw dn) {a b q : Nat} (ha : a < 6) (hb : b < nb) (hq8 : q < 8) (hfk : fi a + lk a ≤ 8) (u : Int32) (hok : u = -1 ∨ inn u nb = true) (hs : dw (b * 8 + q) = u) : pz_K l L xs M_K_relink 2 0 0 [.ref 0, .int (nI a), .int (nI b), .int (nI q), .int u] h z (fun v h' z' => v = some (.int (nI 0)) ∧ h = h' ∧ z = z') := by
  refine pz_K.of rfl (Nat.le_of_ble_eq_true rfl) ?_
  have hA := hap a ha
  have hb2 := hd.2.2.2.2
  change pz_E l L xs M_K_relink 2 0 0 0 [some (.ref 0), some (.int (nI a)), some (.int (nI b)), some (.int (nI q)), some (.int u), none, none, none] [] h z _
  refine pe_iload d_K_relink_0 rfl ?_
  refine pe_iconst (v := -1) d_K_relink_2 (by decide) ?_
  refine pe_icmp_eq (tgt := 20) d_K_relink_3 (by decide) (fun c_3 => ?_) (fun c_3 => ?_)
  · refine pe_aload_n d_K_relink_20 rfl ?_
    refine pe_getf d_K_relink_21 f_K_25 hK.1 rfl ?_
    refine pe_iload_n d_K_relink_24 rfl ?_
    refine pe_iload_n d_K_relink_25 rfl ?_
    -- 26: Disk_wordOf
    refine pe_callV d_K_relink_26 m_K_262 j_Disk_wordOf v_Disk_wordOf (c_Disk_wordOf hd hb hq8) rfl rfl (by simp [Value.category]) (by decide) hd.1 rfl rfl ?_
    intro v1 h1 z1 hq1
    obtain ⟨rfl, rfl, rfl⟩ := hq1
    change pz_E _ _ _ _ _ _ _ _ _ (_ :: _) _ _ _
    refine pe_istore d_K_relink_29 (by decide) rfl ?_
    dsimp only [List.set]
    refine pe_iload d_K_relink_31 rfl ?_
    refine pe_iload d_K_relink_33 rfl ?_
    refine pe_icmp_ne (tgt := 40) d_K_relink_35 (by decide) (fun c_35 => ?_) (fun c_35 => ?_)
    · exact absurd hs c_35
    · refine pe_iconst (v := nI 0) d_K_relink_38 (by decide) ?_
      refine pe_iret d_K_relink_39 rfl ?_
      exact ⟨rfl, rfl, rfl⟩
  · refine pe_aload_n d_K_relink_6 rfl ?_
    refine pe_getf d_K_relink_7 f_K_25 hK.1 rfl ?_
    refine pe_iload d_K_relink_10 rfl ?_
    -- 12: Disk_hasBlock
    refine pe_callV d_K_relink_12 m_K_215 j_Disk_hasBlock v_Disk_hasBlock (c_Disk_hasBlock hd _) rfl rfl (by simp [Value.category]) (by decide) hd.1 rfl rfl ?_
    intro v1 h1 z1 hq1
    obtain ⟨rfl, rfl, rfl⟩ := hq1
    change pz_E _ _ _ _ _ _ _ _ _ (_ :: _) _ _ _
    refine pe_if_ne (tgt := 20) d_K_relink_15 (by decide) (fun c_15 => ?_) (fun c_15 => ?_)
    · have c_15 := pb_n0.mp c_15
      refine pe_aload_n d_K_relink_20 rfl ?_
      refine pe_getf d_K_relink_21 f_K_25 hK.1 rfl ?_
      refine pe_iload_n d_K_relink_24 rfl ?_
      refine pe_iload_n d_K_relink_25 rfl ?_
      -- 26: Disk_wordOf
      refine pe_callV d_K_relink_26 m_K_262 j_Disk_wordOf v_Disk_wordOf (c_Disk_wordOf hd hb hq8) rfl rfl (by simp [Value.category]) (by decide) hd.1 rfl rfl ?_
      intro v1 h1 z1 hq1
      obtain ⟨rfl, rfl, rfl⟩ := hq1
      change pz_E _ _ _ _ _ _ _ _ _ (_ :: _) _ _ _
      refine pe_istore d_K_relink_29 (by decide) rfl ?_
      dsimp only [List.set]
      refine pe_iload d_K_relink_31 rfl ?_
      refine pe_iload d_K_relink_33 rfl ?_
      refine pe_icmp_ne (tgt := 40) d_K_relink_35 (by decide) (fun c_35 => ?_) (fun c_35 => ?_)
      · exact absurd hs c_35
      · refine pe_iconst (v := nI 0) d_K_relink_38 (by decide) ?_
        refine pe_iret d_K_relink_39 rfl ?_
        exact ⟨rfl, rfl, rfl⟩
    · have c_15 := pb_0.mp c_15
      exact hok.elim (fun e => absurd e c_3) (fun e => absurd (c_15.symm.trans e) (by decide))
set_option maxHeartbeats 4000000 in
set_option maxRecDepth 20000 in
theorem c_K_relink_busy {l : Launch} {L : Nat} {xs : Nat → Int32} {h : pz_H} {z : Nat} {lost : Nat} (hK : KOB h lost) {dr fl : Nat → Nat} {op mp : Nat → Bool} {fi lk : Nat → Nat} (hap : ∀ i, i < 6 → AOB (16 + 25 * i) h (dr i) (fl i) (op i) (mp i) (fi i) (lk i)) {nb : Nat} {dw dn : Nat → Int32} (hd : DSK h nb dw dn) {a b q : Nat} (ha : a < 6) (hb : b < nb) (hq8 : q < 8) (hfk : fi a + lk a ≤ 8) (u : Int32) (hok : u = -1 ∨ inn u nb = true) {g : Nat} (hg : dw (b * 8 + q) = nI g) (hg1 : g < nb) (hs : ¬ nI g = u) (hbusy : ff (fun j => !decide (dw (g * 8 + j) = -1)) (fi a + lk a - fi a) (fi a) < fi a + lk a) : pz_K l L xs M_K_relink 2 0 0 [.ref 0, .int (nI a), .int (nI b), .int (nI q), .int u] h z (fun v h' z' => v = some (.int (-3)) ∧ h = h' ∧ z = z') := by
  refine pz_K.of rfl (Nat.le_of_ble_eq_true rfl) ?_
  have hA := hap a ha
  have hb2 := hd.2.2.2.2
  change pz_E l L xs M_K_relink 2 0 0 0 [some (.ref 0), some (.int (nI a)), some (.int (nI b)), some (.int (nI q)), some (.int u), none, none, none] [] h z _
  refine pe_iload d_K_relink_0 rfl ?_
  refine pe_iconst (v := -1) d_K_relink_2 (by decide) ?_
  refine pe_icmp_eq (tgt := 20) d_K_relink_3 (by decide) (fun c_3 => ?_) (fun c_3 => ?_)
  · refine pe_aload_n d_K_relink_20 rfl ?_
    refine pe_getf d_K_relink_21 f_K_25 hK.1 rfl ?_
    refine pe_iload_n d_K_relink_24 rfl ?_
    refine pe_iload_n d_K_relink_25 rfl ?_
    -- 26: Disk_wordOf
    refine pe_callV d_K_relink_26 m_K_262 j_Disk_wordOf v_Disk_wordOf (c_Disk_wordOf hd hb hq8) rfl rfl (by simp [Value.category]) (by decide) hd.1 rfl rfl ?_
    intro v1 h1 z1 hq1
    obtain ⟨rfl, rfl, rfl⟩ := hq1
    rw [hg]
    change pz_E _ _ _ _ _ _ _ _ _ (_ :: _) _ _ _
    refine pe_istore d_K_relink_29 (by decide) rfl ?_
    dsimp only [List.set]
    refine pe_iload d_K_relink_31 rfl ?_
    refine pe_iload d_K_relink_33 rfl ?_
    refine pe_icmp_ne (tgt := 40) d_K_relink_35 (by decide) (fun c_35 => ?_) (fun c_35 => ?_)
    · refine pe_aload_n d_K_relink_40 rfl ?_
      refine pe_getf d_K_relink_41 f_K_49 hK.1 rfl ?_
      refine pe_iload_n d_K_relink_44 rfl ?_
      refine pe_aaldN d_K_relink_45 rfl hK.2 (by omega) (by omega) rfl ?_
      refine pe_getf d_K_relink_46 f_K_74 hA rfl ?_
      refine pe_istore d_K_relink_49 (by decide) rfl ?_
      dsimp only [List.set]
      refine pe_aload_n d_K_relink_51 rfl ?_
      refine pe_getf d_K_relink_52 f_K_49 hK.1 rfl ?_
      refine pe_iload_n d_K_relink_55 rfl ?_
      refine pe_aaldN d_K_relink_56 rfl hK.2 (by omega) (by omega) rfl ?_
      refine pe_getf d_K_relink_57 f_K_77 hA rfl ?_
      refine pe_istore d_K_relink_60 (by decide) rfl ?_
      dsimp only [List.set]
      refine pe_iload d_K_relink_62 rfl ?_
      refine pe_iconst (v := -1) d_K_relink_64 (by decide) ?_
      refine pe_icmp_eq (tgt := 87) d_K_relink_65 (by decide) (fun c_65 => ?_) (fun c_65 => ?_)
      · exact absurd c_65 (nI_nem1 (by omega))
      · refine pe_aload_n d_K_relink_68 rfl ?_
        refine pe_getf d_K_relink_69 f_K_25 hK.1 rfl ?_
        refine pe_iload d_K_relink_72 rfl ?_
        refine pe_iload d_K_relink_74 rfl ?_
        refine pe_iload d_K_relink_76 rfl ?_
        -- 78: Disk_namesBlocks
        refine pe_callV d_K_relink_78 m_K_311 j_Disk_namesBlocks v_Disk_namesBlocks (c_Disk_namesBlocks hd hg1 hfk) rfl rfl (by simp [Value.category]) (by decide) hd.1 rfl rfl ?_
        intro v1 h1 z1 hq1
        obtain ⟨rfl, rfl, rfl⟩ := hq1
        change pz_E _ _ _ _ _ _ _ _ _ (_ :: _) _ _ _
        refine pe_if_eq (tgt := 87) d_K_relink_81 (by decide) (fun c_81 => ?_) (fun c_81 => ?_)
        · have c_81 := pb_0.mp c_81
          exact absurd hbusy (of_decide_eq_false c_81)
        · have c_81 := pb_n0.mp c_81
          refine pe_bipush (v := -3) d_K_relink_84 (by decide) ?_
          refine pe_iret d_K_relink_86 rfl ?_
          exact ⟨rfl, rfl, rfl⟩
    · exact absurd c_35 hs
  · refine pe_aload_n d_K_relink_6 rfl ?_
    refine pe_getf d_K_relink_7 f_K_25 hK.1 rfl ?_
    refine pe_iload d_K_relink_10 rfl ?_
    -- 12: Disk_hasBlock
    refine pe_callV d_K_relink_12 m_K_215 j_Disk_hasBlock v_Disk_hasBlock (c_Disk_hasBlock hd _) rfl rfl (by simp [Value.category]) (by decide) hd.1 rfl rfl ?_
    intro v1 h1 z1 hq1
    obtain ⟨rfl, rfl, rfl⟩ := hq1
    change pz_E _ _ _ _ _ _ _ _ _ (_ :: _) _ _ _
    refine pe_if_ne (tgt := 20) d_K_relink_15 (by decide) (fun c_15 => ?_) (fun c_15 => ?_)
    · have c_15 := pb_n0.mp c_15
      refine pe_aload_n d_K_relink_20 rfl ?_
      refine pe_getf d_K_relink_21 f_K_25 hK.1 rfl ?_
      refine pe_iload_n d_K_relink_24 rfl ?_
      refine pe_iload_n d_K_relink_25 rfl ?_
      -- 26: Disk_wordOf
      refine pe_callV d_K_relink_26 m_K_262 j_Disk_wordOf v_Disk_wordOf (c_Disk_wordOf hd hb hq8) rfl rfl (by simp [Value.category]) (by decide) hd.1 rfl rfl ?_
      intro v1 h1 z1 hq1
      obtain ⟨rfl, rfl, rfl⟩ := hq1
      rw [hg]
      change pz_E _ _ _ _ _ _ _ _ _ (_ :: _) _ _ _
      refine pe_istore d_K_relink_29 (by decide) rfl ?_
      dsimp only [List.set]
      refine pe_iload d_K_relink_31 rfl ?_
      refine pe_iload d_K_relink_33 rfl ?_
      refine pe_icmp_ne (tgt := 40) d_K_relink_35 (by decide) (fun c_35 => ?_) (fun c_35 => ?_)
      · refine pe_aload_n d_K_relink_40 rfl ?_
        refine pe_getf d_K_relink_41 f_K_49 hK.1 rfl ?_
        refine pe_iload_n d_K_relink_44 rfl ?_
        refine pe_aaldN d_K_relink_45 rfl hK.2 (by omega) (by omega) rfl ?_
        refine pe_getf d_K_relink_46 f_K_74 hA rfl ?_
        refine pe_istore d_K_relink_49 (by decide) rfl ?_
        dsimp only [List.set]
        refine pe_aload_n d_K_relink_51 rfl ?_
        refine pe_getf d_K_relink_52 f_K_49 hK.1 rfl ?_
        refine pe_iload_n d_K_relink_55 rfl ?_
        refine pe_aaldN d_K_relink_56 rfl hK.2 (by omega) (by omega) rfl ?_
        refine pe_getf d_K_relink_57 f_K_77 hA rfl ?_
        refine pe_istore d_K_relink_60 (by decide) rfl ?_
        dsimp only [List.set]
        refine pe_iload d_K_relink_62 rfl ?_
        refine pe_iconst (v := -1) d_K_relink_64 (by decide) ?_
        refine pe_icmp_eq (tgt := 87) d_K_relink_65 (by decide) (fun c_65 => ?_) (fun c_65 => ?_)
        · exact absurd c_65 (nI_nem1 (by omega))
        · refine pe_aload_n d_K_relink_68 rfl ?_
          refine pe_getf d_K_relink_69 f_K_25 hK.1 rfl ?_
          refine pe_iload d_K_relink_72 rfl ?_
          refine pe_iload d_K_relink_74 rfl ?_
          refine pe_iload d_K_relink_76 rfl ?_
          -- 78: Disk_namesBlocks
          refine pe_callV d_K_relink_78 m_K_311 j_Disk_namesBlocks v_Disk_namesBlocks (c_Disk_namesBlocks hd hg1 hfk) rfl rfl (by simp [Value.category]) (by decide) hd.1 rfl rfl ?_
          intro v1 h1 z1 hq1
          obtain ⟨rfl, rfl, rfl⟩ := hq1
          change pz_E _ _ _ _ _ _ _ _ _ (_ :: _) _ _ _
          refine pe_if_eq (tgt := 87) d_K_relink_81 (by decide) (fun c_81 => ?_) (fun c_81 => ?_)
          · have c_81 := pb_0.mp c_81
            exact absurd hbusy (of_decide_eq_false c_81)
          · have c_81 := pb_n0.mp c_81
            refine pe_bipush (v := -3) d_K_relink_84 (by decide) ?_
            refine pe_iret d_K_relink_86 rfl ?_
            exact ⟨rfl, rfl, rfl⟩
      · exact absurd c_35 hs
    · have c_15 := pb_0.mp c_15
      exact hok.elim (fun e => absurd e c_3) (fun e => absurd (c_15.symm.trans e) (by decide))
set_option maxHeartbeats 4000000 in
set_option maxRecDepth 20000 in
theorem c_K_relink_taken_n {l : Launch} {L : Nat} {xs : Nat → Int32} {h : pz_H} {z : Nat} {lost : Nat} (hK : KOB h lost) {dr fl : Nat → Nat} {op mp : Nat → Bool} {fi lk : Nat → Nat} (hap : ∀ i, i < 6 → AOB (16 + 25 * i) h (dr i) (fl i) (op i) (mp i) (fi i) (lk i)) {nb : Nat} {dw dn : Nat → Int32} (hd : DSK h nb dw dn) {a b q : Nat} (ha : a < 6) (hb : b < nb) (hq8 : q < 8) (hfk : fi a + lk a ≤ 8) {v : Nat} (hv1 : v < nb) (hg : dw (b * 8 + q) = -1) (hs : ¬ -1 = (nI v)) (ht : ¬ dn v = -1) : pz_K l L xs M_K_relink 2 0 0 [.ref 0, .int (nI a), .int (nI b), .int (nI q), .int (nI v)] h z (fun v h' z' => v = some (.int (-4)) ∧ h = h' ∧ z = z') := by
  refine pz_K.of rfl (Nat.le_of_ble_eq_true rfl) ?_
  have hA := hap a ha
  have hb2 := hd.2.2.2.2
  change pz_E l L xs M_K_relink 2 0 0 0 [some (.ref 0), some (.int (nI a)), some (.int (nI b)), some (.int (nI q)), some (.int (nI v)), none, none, none] [] h z _
  refine pe_iload d_K_relink_0 rfl ?_
  refine pe_iconst (v := -1) d_K_relink_2 (by decide) ?_
  refine pe_icmp_eq (tgt := 20) d_K_relink_3 (by decide) (fun c_3 => ?_) (fun c_3 => ?_)
  · exact absurd c_3 (nI_nem1 (by omega))
  · refine pe_aload_n d_K_relink_6 rfl ?_
    refine pe_getf d_K_relink_7 f_K_25 hK.1 rfl ?_
    refine pe_iload d_K_relink_10 rfl ?_
    -- 12: Disk_hasBlock
    refine pe_callV d_K_relink_12 m_K_215 j_Disk_hasBlock v_Disk_hasBlock (c_Disk_hasBlock hd _) rfl rfl (by simp [Value.category]) (by decide) hd.1 rfl rfl ?_
    intro v1 h1 z1 hq1
    obtain ⟨rfl, rfl, rfl⟩ := hq1
    change pz_E _ _ _ _ _ _ _ _ _ (_ :: _) _ _ _
    refine pe_if_ne (tgt := 20) d_K_relink_15 (by decide) (fun c_15 => ?_) (fun c_15 => ?_)
    · have c_15 := pb_n0.mp c_15
      refine pe_aload_n d_K_relink_20 rfl ?_
      refine pe_getf d_K_relink_21 f_K_25 hK.1 rfl ?_
      refine pe_iload_n d_K_relink_24 rfl ?_
      refine pe_iload_n d_K_relink_25 rfl ?_
      -- 26: Disk_wordOf
      refine pe_callV d_K_relink_26 m_K_262 j_Disk_wordOf v_Disk_wordOf (c_Disk_wordOf hd hb hq8) rfl rfl (by simp [Value.category]) (by decide) hd.1 rfl rfl ?_
      intro v1 h1 z1 hq1
      obtain ⟨rfl, rfl, rfl⟩ := hq1
      rw [hg]
      change pz_E _ _ _ _ _ _ _ _ _ (_ :: _) _ _ _
      refine pe_istore d_K_relink_29 (by decide) rfl ?_
      dsimp only [List.set]
      refine pe_iload d_K_relink_31 rfl ?_
      refine pe_iload d_K_relink_33 rfl ?_
      refine pe_icmp_ne (tgt := 40) d_K_relink_35 (by decide) (fun c_35 => ?_) (fun c_35 => ?_)
      · refine pe_aload_n d_K_relink_40 rfl ?_
        refine pe_getf d_K_relink_41 f_K_49 hK.1 rfl ?_
        refine pe_iload_n d_K_relink_44 rfl ?_
        refine pe_aaldN d_K_relink_45 rfl hK.2 (by omega) (by omega) rfl ?_
        refine pe_getf d_K_relink_46 f_K_74 hA rfl ?_
        refine pe_istore d_K_relink_49 (by decide) rfl ?_
        dsimp only [List.set]
        refine pe_aload_n d_K_relink_51 rfl ?_
        refine pe_getf d_K_relink_52 f_K_49 hK.1 rfl ?_
        refine pe_iload_n d_K_relink_55 rfl ?_
        refine pe_aaldN d_K_relink_56 rfl hK.2 (by omega) (by omega) rfl ?_
        refine pe_getf d_K_relink_57 f_K_77 hA rfl ?_
        refine pe_istore d_K_relink_60 (by decide) rfl ?_
        dsimp only [List.set]
        refine pe_iload d_K_relink_62 rfl ?_
        refine pe_iconst (v := -1) d_K_relink_64 (by decide) ?_
        refine pe_icmp_eq (tgt := 87) d_K_relink_65 (by decide) (fun c_65 => ?_) (fun c_65 => ?_)
        · refine pe_iload d_K_relink_87 rfl ?_
          refine pe_iconst (v := -1) d_K_relink_89 (by decide) ?_
          refine pe_icmp_eq (tgt := 108) d_K_relink_90 (by decide) (fun c_90 => ?_) (fun c_90 => ?_)
          · exact absurd c_90 (nI_nem1 (by omega))
          · refine pe_aload_n d_K_relink_93 rfl ?_
            refine pe_getf d_K_relink_94 f_K_25 hK.1 rfl ?_
            refine pe_iload d_K_relink_97 rfl ?_
            -- 99: Disk_isFree
            refine pe_callV d_K_relink_99 m_K_314 j_Disk_isFree v_Disk_isFree (c_Disk_isFree hd hv1) rfl rfl (by simp [Value.category]) (by decide) hd.1 rfl rfl ?_
            intro v1 h1 z1 hq1
            obtain ⟨rfl, rfl, rfl⟩ := hq1
            change pz_E _ _ _ _ _ _ _ _ _ (_ :: _) _ _ _
            refine pe_if_ne (tgt := 108) d_K_relink_102 (by decide) (fun c_102 => ?_) (fun c_102 => ?_)
            · have c_102 := pb_n0.mp c_102
              exact absurd (of_decide_eq_true c_102) ht
            · have c_102 := pb_0.mp c_102
              refine pe_bipush (v := -4) d_K_relink_105 (by decide) ?_
              refine pe_iret d_K_relink_107 rfl ?_
              exact ⟨rfl, rfl, rfl⟩
        · exact absurd rfl c_65
      · exact absurd c_35 hs
    · have c_15 := pb_0.mp c_15
      exact absurd (c_15.symm.trans (inn_y (by omega) hv1)) (by decide)
set_option maxHeartbeats 4000000 in
set_option maxRecDepth 20000 in
theorem c_K_relink_ns {l : Launch} {L : Nat} {xs : Nat → Int32} {h : pz_H} {z : Nat} {lost : Nat} (hK : KOB h lost) {dr fl : Nat → Nat} {op mp : Nat → Bool} {fi lk : Nat → Nat} (hap : ∀ i, i < 6 → AOB (16 + 25 * i) h (dr i) (fl i) (op i) (mp i) (fi i) (lk i)) {nb : Nat} {dw dn : Nat → Int32} (hd : DSK h nb dw dn) {a b q : Nat} (ha : a < 6) (hb : b < nb) (hq8 : q < 8) (hfk : fi a + lk a ≤ 8) {v : Nat} (hv1 : v < nb) (hg : dw (b * 8 + q) = -1) (hs : ¬ -1 = (nI v)) (ht : dn v = -1) : pz_K l L xs M_K_relink 2 0 0 [.ref 0, .int (nI a), .int (nI b), .int (nI q), .int (nI v)] h z (fun v' h' z' => v' = some (.int (nI 0)) ∧ z = z' ∧ DSK h' nb (upd (fil dw (lkw v (fi a) (lk a)) (v * 8) 8) (b * 8 + q) (nI v)) (upd dn v (nI a)) ∧ frm 8 11 h h') := by
  refine pz_K.of rfl (Nat.le_of_ble_eq_true rfl) ?_
  have hA := hap a ha
  have hb2 := hd.2.2.2.2
  have hf : frm 8 11 h h := frm.rf
  change pz_E l L xs M_K_relink 2 0 0 0 [some (.ref 0), some (.int (nI a)), some (.int (nI b)), some (.int (nI q)), some (.int (nI v)), none, none, none] [] h z _
  refine pe_iload d_K_relink_0 rfl ?_
  refine pe_iconst (v := -1) d_K_relink_2 (by decide) ?_
  refine pe_icmp_eq (tgt := 20) d_K_relink_3 (by decide) (fun c_3 => ?_) (fun c_3 => ?_)
  · exact absurd c_3 (nI_nem1 (by omega))
  · refine pe_aload_n d_K_relink_6 rfl ?_
    refine pe_getf d_K_relink_7 f_K_25 hK.1 rfl ?_
    refine pe_iload d_K_relink_10 rfl ?_
    -- 12: Disk_hasBlock
    refine pe_callV d_K_relink_12 m_K_215 j_Disk_hasBlock v_Disk_hasBlock (c_Disk_hasBlock hd _) rfl rfl (by simp [Value.category]) (by decide) hd.1 rfl rfl ?_
    intro v1 h1 z1 hq1
    obtain ⟨rfl, rfl, rfl⟩ := hq1
    change pz_E _ _ _ _ _ _ _ _ _ (_ :: _) _ _ _
    refine pe_if_ne (tgt := 20) d_K_relink_15 (by decide) (fun c_15 => ?_) (fun c_15 => ?_)
    · have c_15 := pb_n0.mp c_15
      refine pe_aload_n d_K_relink_20 rfl ?_
      refine pe_getf d_K_relink_21 f_K_25 hK.1 rfl ?_
      refine pe_iload_n d_K_relink_24 rfl ?_
      refine pe_iload_n d_K_relink_25 rfl ?_
      -- 26: Disk_wordOf
      refine pe_callV d_K_relink_26 m_K_262 j_Disk_wordOf v_Disk_wordOf (c_Disk_wordOf hd hb hq8) rfl rfl (by simp [Value.category]) (by decide) hd.1 rfl rfl ?_
      intro v1 h1 z1 hq1
      obtain ⟨rfl, rfl, rfl⟩ := hq1
      rw [hg]
      change pz_E _ _ _ _ _ _ _ _ _ (_ :: _) _ _ _
      refine pe_istore d_K_relink_29 (by decide) rfl ?_
      dsimp only [List.set]
      refine pe_iload d_K_relink_31 rfl ?_
      refine pe_iload d_K_relink_33 rfl ?_
      refine pe_icmp_ne (tgt := 40) d_K_relink_35 (by decide) (fun c_35 => ?_) (fun c_35 => ?_)
      · refine pe_aload_n d_K_relink_40 rfl ?_
        refine pe_getf d_K_relink_41 f_K_49 hK.1 rfl ?_
        refine pe_iload_n d_K_relink_44 rfl ?_
        refine pe_aaldN d_K_relink_45 rfl hK.2 (by omega) (by omega) rfl ?_
        refine pe_getf d_K_relink_46 f_K_74 hA rfl ?_
        refine pe_istore d_K_relink_49 (by decide) rfl ?_
        dsimp only [List.set]
        refine pe_aload_n d_K_relink_51 rfl ?_
        refine pe_getf d_K_relink_52 f_K_49 hK.1 rfl ?_
        refine pe_iload_n d_K_relink_55 rfl ?_
        refine pe_aaldN d_K_relink_56 rfl hK.2 (by omega) (by omega) rfl ?_
        refine pe_getf d_K_relink_57 f_K_77 hA rfl ?_
        refine pe_istore d_K_relink_60 (by decide) rfl ?_
        dsimp only [List.set]
        refine pe_iload d_K_relink_62 rfl ?_
        refine pe_iconst (v := -1) d_K_relink_64 (by decide) ?_
        refine pe_icmp_eq (tgt := 87) d_K_relink_65 (by decide) (fun c_65 => ?_) (fun c_65 => ?_)
        · refine pe_iload d_K_relink_87 rfl ?_
          refine pe_iconst (v := -1) d_K_relink_89 (by decide) ?_
          refine pe_icmp_eq (tgt := 108) d_K_relink_90 (by decide) (fun c_90 => ?_) (fun c_90 => ?_)
          · exact absurd c_90 (nI_nem1 (by omega))
          · refine pe_aload_n d_K_relink_93 rfl ?_
            refine pe_getf d_K_relink_94 f_K_25 hK.1 rfl ?_
            refine pe_iload d_K_relink_97 rfl ?_
            -- 99: Disk_isFree
            refine pe_callV d_K_relink_99 m_K_314 j_Disk_isFree v_Disk_isFree (c_Disk_isFree hd hv1) rfl rfl (by simp [Value.category]) (by decide) hd.1 rfl rfl ?_
            intro v1 h1 z1 hq1
            obtain ⟨rfl, rfl, rfl⟩ := hq1
            change pz_E _ _ _ _ _ _ _ _ _ (_ :: _) _ _ _
            refine pe_if_ne (tgt := 108) d_K_relink_102 (by decide) (fun c_102 => ?_) (fun c_102 => ?_)
            · have c_102 := pb_n0.mp c_102
              refine pe_iload d_K_relink_108 rfl ?_
              refine pe_iconst (v := -1) d_K_relink_110 (by decide) ?_
              refine pe_icmp_eq (tgt := 123) d_K_relink_111 (by decide) (fun c_111 => ?_) (fun c_111 => ?_)
              · refine pe_iload d_K_relink_123 rfl ?_
                refine pe_iconst (v := -1) d_K_relink_125 (by decide) ?_
                refine pe_icmp_eq (tgt := 143) d_K_relink_126 (by decide) (fun c_126 => ?_) (fun c_126 => ?_)
                · exact absurd c_126 (nI_nem1 (by omega))
                · refine pe_aload_n d_K_relink_129 rfl ?_
                  refine pe_getf d_K_relink_130 f_K_25 hK.1 rfl ?_
                  refine pe_iload d_K_relink_133 rfl ?_
                  refine pe_iload_n d_K_relink_135 rfl ?_
                  refine pe_iload d_K_relink_136 rfl ?_
                  refine pe_iload d_K_relink_138 rfl ?_
                  -- 140: Disk_bind
                  refine pe_callV d_K_relink_140 m_K_80 j_Disk_bind v_Disk_bind (c_Disk_bind hd hv1 hfk _) rfl rfl (by simp [Value.category]) (by decide) hd.1 rfl rfl ?_
                  intro v2 h2 z2 hq2
                  obtain ⟨rfl, rfl, hd, hf2⟩ := hq2
                  have hK := hK.on (hf2.on (by omega)) (hf2.on (by omega))
                  have hf := hf.tr hf2
                  change pz_E _ _ _ _ _ _ _ _ _ _ _ _ _
                  refine pe_aload_n d_K_relink_143 rfl ?_
                  refine pe_getf d_K_relink_144 f_K_25 hK.1 rfl ?_
                  refine pe_iload_n d_K_relink_147 rfl ?_
                  refine pe_iload_n d_K_relink_148 rfl ?_
                  refine pe_iload d_K_relink_149 rfl ?_
                  -- 151: Disk_setWord
                  refine pe_callV d_K_relink_151 m_K_229 j_Disk_setWord v_Disk_setWord (c_Disk_setWord hd hb hq8 _) rfl rfl (by simp [Value.category]) (by decide) hd.1 rfl rfl ?_
                  intro v3 h3 z3 hq3
                  obtain ⟨rfl, rfl, hd, hf3⟩ := hq3
                  have hK := hK.on (hf3.on (by omega)) (hf3.on (by omega))
                  have hf := hf.tr hf3
                  change pz_E _ _ _ _ _ _ _ _ _ _ _ _ _
                  refine pe_iconst (v := nI 0) d_K_relink_154 (by decide) ?_
                  refine pe_iret d_K_relink_155 rfl ?_
                  exact ⟨rfl, rfl, hd, hf⟩
              · exact absurd rfl c_111
            · have c_102 := pb_0.mp c_102
              exact absurd ht (of_decide_eq_false c_102)
        · exact absurd rfl c_65
      · exact absurd c_35 hs
    · have c_15 := pb_0.mp c_15
      exact absurd (c_15.symm.trans (inn_y (by omega) hv1)) (by decide)
set_option maxHeartbeats 4000000 in
set_option maxRecDepth 20000 in
theorem c_K_relink_sn {l : Launch} {L : Nat} {xs : Nat → Int32} {h : pz_H} {z : Nat} {lost : Nat} (hK : KOB h lost) {dr fl : Nat → Nat} {op mp : Nat → Bool} {fi lk : Nat → Nat} (hap : ∀ i, i < 6 → AOB (16 + 25 * i) h (dr i) (fl i) (op i) (mp i) (fi i) (lk i)) {nb : Nat} {dw dn : Nat → Int32} (hd : DSK h nb dw dn) {a b q : Nat} (ha : a < 6) (hb : b < nb) (hq8 : q < 8) (hfk : fi a + lk a ≤ 8) {g : Nat} (hg : dw (b * 8 + q) = nI g) (hg1 : g < nb) (hfree : ¬ ff (fun j => !decide (dw (g * 8 + j) = -1)) (fi a + lk a - fi a) (fi a) < fi a + lk a) (hs : ¬ nI g = (-1)) : pz_K l L xs M_K_relink 2 0 0 [.ref 0, .int (nI a), .int (nI b), .int (nI q), .int (-1)] h z (fun v' h' z' => v' = some (.int (nI 0)) ∧ z = z' ∧ DSK h' nb (upd dw (b * 8 + q) (-1)) (upd dn g (-1)) ∧ frm 8 11 h h') := by
  refine pz_K.of rfl (Nat.le_of_ble_eq_true rfl) ?_
  have hA := hap a ha
  have hb2 := hd.2.2.2.2
  have hf : frm 8 11 h h := frm.rf
  change pz_E l L xs M_K_relink 2 0 0 0 [some (.ref 0), some (.int (nI a)), some (.int (nI b)), some (.int (nI q)), some (.int (-1)), none, none, none] [] h z _
  refine pe_iload d_K_relink_0 rfl ?_
  refine pe_iconst (v := -1) d_K_relink_2 (by decide) ?_
  refine pe_icmp_eq (tgt := 20) d_K_relink_3 (by decide) (fun c_3 => ?_) (fun c_3 => ?_)
  · refine pe_aload_n d_K_relink_20 rfl ?_
    refine pe_getf d_K_relink_21 f_K_25 hK.1 rfl ?_
    refine pe_iload_n d_K_relink_24 rfl ?_
    refine pe_iload_n d_K_relink_25 rfl ?_
    -- 26: Disk_wordOf
    refine pe_callV d_K_relink_26 m_K_262 j_Disk_wordOf v_Disk_wordOf (c_Disk_wordOf hd hb hq8) rfl rfl (by simp [Value.category]) (by decide) hd.1 rfl rfl ?_
    intro v1 h1 z1 hq1
    obtain ⟨rfl, rfl, rfl⟩ := hq1
    rw [hg]
    change pz_E _ _ _ _ _ _ _ _ _ (_ :: _) _ _ _
    refine pe_istore d_K_relink_29 (by decide) rfl ?_
    dsimp only [List.set]
    refine pe_iload d_K_relink_31 rfl ?_
    refine pe_iload d_K_relink_33 rfl ?_
    refine pe_icmp_ne (tgt := 40) d_K_relink_35 (by decide) (fun c_35 => ?_) (fun c_35 => ?_)
    · refine pe_aload_n d_K_relink_40 rfl ?_
      refine pe_getf d_K_relink_41 f_K_49 hK.1 rfl ?_
      refine pe_iload_n d_K_relink_44 rfl ?_
      refine pe_aaldN d_K_relink_45 rfl hK.2 (by omega) (by omega) rfl ?_
      refine pe_getf d_K_relink_46 f_K_74 hA rfl ?_
      refine pe_istore d_K_relink_49 (by decide) rfl ?_
      dsimp only [List.set]
      refine pe_aload_n d_K_relink_51 rfl ?_
      refine pe_getf d_K_relink_52 f_K_49 hK.1 rfl ?_
      refine pe_iload_n d_K_relink_55 rfl ?_
      refine pe_aaldN d_K_relink_56 rfl hK.2 (by omega) (by omega) rfl ?_
      refine pe_getf d_K_relink_57 f_K_77 hA rfl ?_
      refine pe_istore d_K_relink_60 (by decide) rfl ?_
      dsimp only [List.set]
      refine pe_iload d_K_relink_62 rfl ?_
      refine pe_iconst (v := -1) d_K_relink_64 (by decide) ?_
      refine pe_icmp_eq (tgt := 87) d_K_relink_65 (by decide) (fun c_65 => ?_) (fun c_65 => ?_)
      · exact absurd c_65 (nI_nem1 (by omega))
      · refine pe_aload_n d_K_relink_68 rfl ?_
        refine pe_getf d_K_relink_69 f_K_25 hK.1 rfl ?_
        refine pe_iload d_K_relink_72 rfl ?_
        refine pe_iload d_K_relink_74 rfl ?_
        refine pe_iload d_K_relink_76 rfl ?_
        -- 78: Disk_namesBlocks
        refine pe_callV d_K_relink_78 m_K_311 j_Disk_namesBlocks v_Disk_namesBlocks (c_Disk_namesBlocks hd hg1 hfk) rfl rfl (by simp [Value.category]) (by decide) hd.1 rfl rfl ?_
        intro v1 h1 z1 hq1
        obtain ⟨rfl, rfl, rfl⟩ := hq1
        change pz_E _ _ _ _ _ _ _ _ _ (_ :: _) _ _ _
        refine pe_if_eq (tgt := 87) d_K_relink_81 (by decide) (fun c_81 => ?_) (fun c_81 => ?_)
        · have c_81 := pb_0.mp c_81
          refine pe_iload d_K_relink_87 rfl ?_
          refine pe_iconst (v := -1) d_K_relink_89 (by decide) ?_
          refine pe_icmp_eq (tgt := 108) d_K_relink_90 (by decide) (fun c_90 => ?_) (fun c_90 => ?_)
          · refine pe_iload d_K_relink_108 rfl ?_
            refine pe_iconst (v := -1) d_K_relink_110 (by decide) ?_
            refine pe_icmp_eq (tgt := 123) d_K_relink_111 (by decide) (fun c_111 => ?_) (fun c_111 => ?_)
            · exact absurd c_111 (nI_nem1 (by omega))
            · refine pe_aload_n d_K_relink_114 rfl ?_
              refine pe_getf d_K_relink_115 f_K_25 hK.1 rfl ?_
              refine pe_iload d_K_relink_118 rfl ?_
              -- 120: Disk_free
              refine pe_callV d_K_relink_120 m_K_317 j_Disk_free v_Disk_free (c_Disk_free hd hg1) rfl rfl (by simp [Value.category]) (by decide) hd.1 rfl rfl ?_
              intro v1 h1 z1 hq1
              obtain ⟨rfl, rfl, hd, hf1⟩ := hq1
              have hK := hK.on (hf1.on (by omega)) (hf1.on (by omega))
              have hf := hf.tr hf1
              change pz_E _ _ _ _ _ _ _ _ _ _ _ _ _
              refine pe_iload d_K_relink_123 rfl ?_
              refine pe_iconst (v := -1) d_K_relink_125 (by decide) ?_
              refine pe_icmp_eq (tgt := 143) d_K_relink_126 (by decide) (fun c_126 => ?_) (fun c_126 => ?_)
              · refine pe_aload_n d_K_relink_143 rfl ?_
                refine pe_getf d_K_relink_144 f_K_25 hK.1 rfl ?_
                refine pe_iload_n d_K_relink_147 rfl ?_
                refine pe_iload_n d_K_relink_148 rfl ?_
                refine pe_iload d_K_relink_149 rfl ?_
                -- 151: Disk_setWord
                refine pe_callV d_K_relink_151 m_K_229 j_Disk_setWord v_Disk_setWord (c_Disk_setWord hd hb hq8 _) rfl rfl (by simp [Value.category]) (by decide) hd.1 rfl rfl ?_
                intro v3 h3 z3 hq3
                obtain ⟨rfl, rfl, hd, hf3⟩ := hq3
                have hK := hK.on (hf3.on (by omega)) (hf3.on (by omega))
                have hf := hf.tr hf3
                change pz_E _ _ _ _ _ _ _ _ _ _ _ _ _
                refine pe_iconst (v := nI 0) d_K_relink_154 (by decide) ?_
                refine pe_iret d_K_relink_155 rfl ?_
                exact ⟨rfl, rfl, hd, hf⟩
              · exact absurd rfl c_126
          · exact absurd rfl c_90
        · have c_81 := pb_n0.mp c_81
          exact absurd (of_decide_eq_true c_81) hfree
    · exact absurd c_35 hs
  · exact absurd rfl c_3
set_option maxHeartbeats 4000000 in
set_option maxRecDepth 20000 in
theorem c_K_relink_taken_s {l : Launch} {L : Nat} {xs : Nat → Int32} {h : pz_H} {z : Nat} {lost : Nat} (hK : KOB h lost) {dr fl : Nat → Nat} {op mp : Nat → Bool} {fi lk : Nat → Nat} (hap : ∀ i, i < 6 → AOB (16 + 25 * i) h (dr i) (fl i) (op i) (mp i) (fi i) (lk i)) {nb : Nat} {dw dn : Nat → Int32} (hd : DSK h nb dw dn) {a b q : Nat} (ha : a < 6) (hb : b < nb) (hq8 : q < 8) (hfk : fi a + lk a ≤ 8) {v : Nat} (hv1 : v < nb) {g : Nat} (hg : dw (b * 8 + q) = nI g) (hg1 : g < nb) (hfree : ¬ ff (fun j => !decide (dw (g * 8 + j) = -1)) (fi a + lk a - fi a) (fi a) < fi a + lk a) (hs : ¬ g = v) (ht : ¬ dn v = -1) : pz_K l L xs M_K_relink 2 0 0 [.ref 0, .int (nI a), .int (nI b), .int (nI q), .int (nI v)] h z (fun v h' z' => v = some (.int (-4)) ∧ h = h' ∧ z = z') := by
  refine pz_K.of rfl (Nat.le_of_ble_eq_true rfl) ?_
  have hA := hap a ha
  have hb2 := hd.2.2.2.2
  change pz_E l L xs M_K_relink 2 0 0 0 [some (.ref 0), some (.int (nI a)), some (.int (nI b)), some (.int (nI q)), some (.int (nI v)), none, none, none] [] h z _
  refine pe_iload d_K_relink_0 rfl ?_
  refine pe_iconst (v := -1) d_K_relink_2 (by decide) ?_
  refine pe_icmp_eq (tgt := 20) d_K_relink_3 (by decide) (fun c_3 => ?_) (fun c_3 => ?_)
  · exact absurd c_3 (nI_nem1 (by omega))
  · refine pe_aload_n d_K_relink_6 rfl ?_
    refine pe_getf d_K_relink_7 f_K_25 hK.1 rfl ?_
    refine pe_iload d_K_relink_10 rfl ?_
    -- 12: Disk_hasBlock
    refine pe_callV d_K_relink_12 m_K_215 j_Disk_hasBlock v_Disk_hasBlock (c_Disk_hasBlock hd _) rfl rfl (by simp [Value.category]) (by decide) hd.1 rfl rfl ?_
    intro v1 h1 z1 hq1
    obtain ⟨rfl, rfl, rfl⟩ := hq1
    change pz_E _ _ _ _ _ _ _ _ _ (_ :: _) _ _ _
    refine pe_if_ne (tgt := 20) d_K_relink_15 (by decide) (fun c_15 => ?_) (fun c_15 => ?_)
    · have c_15 := pb_n0.mp c_15
      refine pe_aload_n d_K_relink_20 rfl ?_
      refine pe_getf d_K_relink_21 f_K_25 hK.1 rfl ?_
      refine pe_iload_n d_K_relink_24 rfl ?_
      refine pe_iload_n d_K_relink_25 rfl ?_
      -- 26: Disk_wordOf
      refine pe_callV d_K_relink_26 m_K_262 j_Disk_wordOf v_Disk_wordOf (c_Disk_wordOf hd hb hq8) rfl rfl (by simp [Value.category]) (by decide) hd.1 rfl rfl ?_
      intro v1 h1 z1 hq1
      obtain ⟨rfl, rfl, rfl⟩ := hq1
      rw [hg]
      change pz_E _ _ _ _ _ _ _ _ _ (_ :: _) _ _ _
      refine pe_istore d_K_relink_29 (by decide) rfl ?_
      dsimp only [List.set]
      refine pe_iload d_K_relink_31 rfl ?_
      refine pe_iload d_K_relink_33 rfl ?_
      refine pe_icmpN_ne (tgt := 40) d_K_relink_35 (by decide) (by omega) (by omega) (fun c_35 => ?_) (fun c_35 => ?_)
      · refine pe_aload_n d_K_relink_40 rfl ?_
        refine pe_getf d_K_relink_41 f_K_49 hK.1 rfl ?_
        refine pe_iload_n d_K_relink_44 rfl ?_
        refine pe_aaldN d_K_relink_45 rfl hK.2 (by omega) (by omega) rfl ?_
        refine pe_getf d_K_relink_46 f_K_74 hA rfl ?_
        refine pe_istore d_K_relink_49 (by decide) rfl ?_
        dsimp only [List.set]
        refine pe_aload_n d_K_relink_51 rfl ?_
        refine pe_getf d_K_relink_52 f_K_49 hK.1 rfl ?_
        refine pe_iload_n d_K_relink_55 rfl ?_
        refine pe_aaldN d_K_relink_56 rfl hK.2 (by omega) (by omega) rfl ?_
        refine pe_getf d_K_relink_57 f_K_77 hA rfl ?_
        refine pe_istore d_K_relink_60 (by decide) rfl ?_
        dsimp only [List.set]
        refine pe_iload d_K_relink_62 rfl ?_
        refine pe_iconst (v := -1) d_K_relink_64 (by decide) ?_
        refine pe_icmp_eq (tgt := 87) d_K_relink_65 (by decide) (fun c_65 => ?_) (fun c_65 => ?_)
        · exact absurd c_65 (nI_nem1 (by omega))
        · refine pe_aload_n d_K_relink_68 rfl ?_
          refine pe_getf d_K_relink_69 f_K_25 hK.1 rfl ?_
          refine pe_iload d_K_relink_72 rfl ?_
          refine pe_iload d_K_relink_74 rfl ?_
          refine pe_iload d_K_relink_76 rfl ?_
          -- 78: Disk_namesBlocks
          refine pe_callV d_K_relink_78 m_K_311 j_Disk_namesBlocks v_Disk_namesBlocks (c_Disk_namesBlocks hd hg1 hfk) rfl rfl (by simp [Value.category]) (by decide) hd.1 rfl rfl ?_
          intro v1 h1 z1 hq1
          obtain ⟨rfl, rfl, rfl⟩ := hq1
          change pz_E _ _ _ _ _ _ _ _ _ (_ :: _) _ _ _
          refine pe_if_eq (tgt := 87) d_K_relink_81 (by decide) (fun c_81 => ?_) (fun c_81 => ?_)
          · have c_81 := pb_0.mp c_81
            refine pe_iload d_K_relink_87 rfl ?_
            refine pe_iconst (v := -1) d_K_relink_89 (by decide) ?_
            refine pe_icmp_eq (tgt := 108) d_K_relink_90 (by decide) (fun c_90 => ?_) (fun c_90 => ?_)
            · exact absurd c_90 (nI_nem1 (by omega))
            · refine pe_aload_n d_K_relink_93 rfl ?_
              refine pe_getf d_K_relink_94 f_K_25 hK.1 rfl ?_
              refine pe_iload d_K_relink_97 rfl ?_
              -- 99: Disk_isFree
              refine pe_callV d_K_relink_99 m_K_314 j_Disk_isFree v_Disk_isFree (c_Disk_isFree hd hv1) rfl rfl (by simp [Value.category]) (by decide) hd.1 rfl rfl ?_
              intro v1 h1 z1 hq1
              obtain ⟨rfl, rfl, rfl⟩ := hq1
              change pz_E _ _ _ _ _ _ _ _ _ (_ :: _) _ _ _
              refine pe_if_ne (tgt := 108) d_K_relink_102 (by decide) (fun c_102 => ?_) (fun c_102 => ?_)
              · have c_102 := pb_n0.mp c_102
                exact absurd (of_decide_eq_true c_102) ht
              · have c_102 := pb_0.mp c_102
                refine pe_bipush (v := -4) d_K_relink_105 (by decide) ?_
                refine pe_iret d_K_relink_107 rfl ?_
                exact ⟨rfl, rfl, rfl⟩
          · have c_81 := pb_n0.mp c_81
            exact absurd (of_decide_eq_true c_81) hfree
      · exact absurd c_35 hs
    · have c_15 := pb_0.mp c_15
      exact absurd (c_15.symm.trans (inn_y (by omega) hv1)) (by decide)
set_option maxHeartbeats 4000000 in
set_option maxRecDepth 20000 in
theorem c_K_relink_ss {l : Launch} {L : Nat} {xs : Nat → Int32} {h : pz_H} {z : Nat} {lost : Nat} (hK : KOB h lost) {dr fl : Nat → Nat} {op mp : Nat → Bool} {fi lk : Nat → Nat} (hap : ∀ i, i < 6 → AOB (16 + 25 * i) h (dr i) (fl i) (op i) (mp i) (fi i) (lk i)) {nb : Nat} {dw dn : Nat → Int32} (hd : DSK h nb dw dn) {a b q : Nat} (ha : a < 6) (hb : b < nb) (hq8 : q < 8) (hfk : fi a + lk a ≤ 8) {v : Nat} (hv1 : v < nb) {g : Nat} (hg : dw (b * 8 + q) = nI g) (hg1 : g < nb) (hfree : ¬ ff (fun j => !decide (dw (g * 8 + j) = -1)) (fi a + lk a - fi a) (fi a) < fi a + lk a) (hs : ¬ g = v) (ht : dn v = -1) : pz_K l L xs M_K_relink 2 0 0 [.ref 0, .int (nI a), .int (nI b), .int (nI q), .int (nI v)] h z (fun v' h' z' => v' = some (.int (nI 0)) ∧ z = z' ∧ DSK h' nb (upd (fil dw (lkw v (fi a) (lk a)) (v * 8) 8) (b * 8 + q) (nI v)) (upd (upd dn g (-1)) v (nI a)) ∧ frm 8 11 h h') := by
  refine pz_K.of rfl (Nat.le_of_ble_eq_true rfl) ?_
  have hA := hap a ha
  have hb2 := hd.2.2.2.2
  have hf : frm 8 11 h h := frm.rf
  change pz_E l L xs M_K_relink 2 0 0 0 [some (.ref 0), some (.int (nI a)), some (.int (nI b)), some (.int (nI q)), some (.int (nI v)), none, none, none] [] h z _
  refine pe_iload d_K_relink_0 rfl ?_
  refine pe_iconst (v := -1) d_K_relink_2 (by decide) ?_
  refine pe_icmp_eq (tgt := 20) d_K_relink_3 (by decide) (fun c_3 => ?_) (fun c_3 => ?_)
  · exact absurd c_3 (nI_nem1 (by omega))
  · refine pe_aload_n d_K_relink_6 rfl ?_
    refine pe_getf d_K_relink_7 f_K_25 hK.1 rfl ?_
    refine pe_iload d_K_relink_10 rfl ?_
    -- 12: Disk_hasBlock
    refine pe_callV d_K_relink_12 m_K_215 j_Disk_hasBlock v_Disk_hasBlock (c_Disk_hasBlock hd _) rfl rfl (by simp [Value.category]) (by decide) hd.1 rfl rfl ?_
    intro v1 h1 z1 hq1
    obtain ⟨rfl, rfl, rfl⟩ := hq1
    change pz_E _ _ _ _ _ _ _ _ _ (_ :: _) _ _ _
    refine pe_if_ne (tgt := 20) d_K_relink_15 (by decide) (fun c_15 => ?_) (fun c_15 => ?_)
    · have c_15 := pb_n0.mp c_15
      refine pe_aload_n d_K_relink_20 rfl ?_
      refine pe_getf d_K_relink_21 f_K_25 hK.1 rfl ?_
      refine pe_iload_n d_K_relink_24 rfl ?_
      refine pe_iload_n d_K_relink_25 rfl ?_
      -- 26: Disk_wordOf
      refine pe_callV d_K_relink_26 m_K_262 j_Disk_wordOf v_Disk_wordOf (c_Disk_wordOf hd hb hq8) rfl rfl (by simp [Value.category]) (by decide) hd.1 rfl rfl ?_
      intro v1 h1 z1 hq1
      obtain ⟨rfl, rfl, rfl⟩ := hq1
      rw [hg]
      change pz_E _ _ _ _ _ _ _ _ _ (_ :: _) _ _ _
      refine pe_istore d_K_relink_29 (by decide) rfl ?_
      dsimp only [List.set]
      refine pe_iload d_K_relink_31 rfl ?_
      refine pe_iload d_K_relink_33 rfl ?_
      refine pe_icmpN_ne (tgt := 40) d_K_relink_35 (by decide) (by omega) (by omega) (fun c_35 => ?_) (fun c_35 => ?_)
      · refine pe_aload_n d_K_relink_40 rfl ?_
        refine pe_getf d_K_relink_41 f_K_49 hK.1 rfl ?_
        refine pe_iload_n d_K_relink_44 rfl ?_
        refine pe_aaldN d_K_relink_45 rfl hK.2 (by omega) (by omega) rfl ?_
        refine pe_getf d_K_relink_46 f_K_74 hA rfl ?_
        refine pe_istore d_K_relink_49 (by decide) rfl ?_
        dsimp only [List.set]
        refine pe_aload_n d_K_relink_51 rfl ?_
        refine pe_getf d_K_relink_52 f_K_49 hK.1 rfl ?_
        refine pe_iload_n d_K_relink_55 rfl ?_
        refine pe_aaldN d_K_relink_56 rfl hK.2 (by omega) (by omega) rfl ?_
        refine pe_getf d_K_relink_57 f_K_77 hA rfl ?_
        refine pe_istore d_K_relink_60 (by decide) rfl ?_
        dsimp only [List.set]
        refine pe_iload d_K_relink_62 rfl ?_
        refine pe_iconst (v := -1) d_K_relink_64 (by decide) ?_
        refine pe_icmp_eq (tgt := 87) d_K_relink_65 (by decide) (fun c_65 => ?_) (fun c_65 => ?_)
        · exact absurd c_65 (nI_nem1 (by omega))
        · refine pe_aload_n d_K_relink_68 rfl ?_
          refine pe_getf d_K_relink_69 f_K_25 hK.1 rfl ?_
          refine pe_iload d_K_relink_72 rfl ?_
          refine pe_iload d_K_relink_74 rfl ?_
          refine pe_iload d_K_relink_76 rfl ?_
          -- 78: Disk_namesBlocks
          refine pe_callV d_K_relink_78 m_K_311 j_Disk_namesBlocks v_Disk_namesBlocks (c_Disk_namesBlocks hd hg1 hfk) rfl rfl (by simp [Value.category]) (by decide) hd.1 rfl rfl ?_
          intro v1 h1 z1 hq1
          obtain ⟨rfl, rfl, rfl⟩ := hq1
          change pz_E _ _ _ _ _ _ _ _ _ (_ :: _) _ _ _
          refine pe_if_eq (tgt := 87) d_K_relink_81 (by decide) (fun c_81 => ?_) (fun c_81 => ?_)
          · have c_81 := pb_0.mp c_81
            refine pe_iload d_K_relink_87 rfl ?_
            refine pe_iconst (v := -1) d_K_relink_89 (by decide) ?_
            refine pe_icmp_eq (tgt := 108) d_K_relink_90 (by decide) (fun c_90 => ?_) (fun c_90 => ?_)
            · exact absurd c_90 (nI_nem1 (by omega))
            · refine pe_aload_n d_K_relink_93 rfl ?_
              refine pe_getf d_K_relink_94 f_K_25 hK.1 rfl ?_
              refine pe_iload d_K_relink_97 rfl ?_
              -- 99: Disk_isFree
              refine pe_callV d_K_relink_99 m_K_314 j_Disk_isFree v_Disk_isFree (c_Disk_isFree hd hv1) rfl rfl (by simp [Value.category]) (by decide) hd.1 rfl rfl ?_
              intro v1 h1 z1 hq1
              obtain ⟨rfl, rfl, rfl⟩ := hq1
              change pz_E _ _ _ _ _ _ _ _ _ (_ :: _) _ _ _
              refine pe_if_ne (tgt := 108) d_K_relink_102 (by decide) (fun c_102 => ?_) (fun c_102 => ?_)
              · have c_102 := pb_n0.mp c_102
                refine pe_iload d_K_relink_108 rfl ?_
                refine pe_iconst (v := -1) d_K_relink_110 (by decide) ?_
                refine pe_icmp_eq (tgt := 123) d_K_relink_111 (by decide) (fun c_111 => ?_) (fun c_111 => ?_)
                · exact absurd c_111 (nI_nem1 (by omega))
                · refine pe_aload_n d_K_relink_114 rfl ?_
                  refine pe_getf d_K_relink_115 f_K_25 hK.1 rfl ?_
                  refine pe_iload d_K_relink_118 rfl ?_
                  -- 120: Disk_free
                  refine pe_callV d_K_relink_120 m_K_317 j_Disk_free v_Disk_free (c_Disk_free hd hg1) rfl rfl (by simp [Value.category]) (by decide) hd.1 rfl rfl ?_
                  intro v1 h1 z1 hq1
                  obtain ⟨rfl, rfl, hd, hf1⟩ := hq1
                  have hK := hK.on (hf1.on (by omega)) (hf1.on (by omega))
                  have hf := hf.tr hf1
                  change pz_E _ _ _ _ _ _ _ _ _ _ _ _ _
                  refine pe_iload d_K_relink_123 rfl ?_
                  refine pe_iconst (v := -1) d_K_relink_125 (by decide) ?_
                  refine pe_icmp_eq (tgt := 143) d_K_relink_126 (by decide) (fun c_126 => ?_) (fun c_126 => ?_)
                  · exact absurd c_126 (nI_nem1 (by omega))
                  · refine pe_aload_n d_K_relink_129 rfl ?_
                    refine pe_getf d_K_relink_130 f_K_25 hK.1 rfl ?_
                    refine pe_iload d_K_relink_133 rfl ?_
                    refine pe_iload_n d_K_relink_135 rfl ?_
                    refine pe_iload d_K_relink_136 rfl ?_
                    refine pe_iload d_K_relink_138 rfl ?_
                    -- 140: Disk_bind
                    refine pe_callV d_K_relink_140 m_K_80 j_Disk_bind v_Disk_bind (c_Disk_bind hd hv1 hfk _) rfl rfl (by simp [Value.category]) (by decide) hd.1 rfl rfl ?_
                    intro v2 h2 z2 hq2
                    obtain ⟨rfl, rfl, hd, hf2⟩ := hq2
                    have hK := hK.on (hf2.on (by omega)) (hf2.on (by omega))
                    have hf := hf.tr hf2
                    change pz_E _ _ _ _ _ _ _ _ _ _ _ _ _
                    refine pe_aload_n d_K_relink_143 rfl ?_
                    refine pe_getf d_K_relink_144 f_K_25 hK.1 rfl ?_
                    refine pe_iload_n d_K_relink_147 rfl ?_
                    refine pe_iload_n d_K_relink_148 rfl ?_
                    refine pe_iload d_K_relink_149 rfl ?_
                    -- 151: Disk_setWord
                    refine pe_callV d_K_relink_151 m_K_229 j_Disk_setWord v_Disk_setWord (c_Disk_setWord hd hb hq8 _) rfl rfl (by simp [Value.category]) (by decide) hd.1 rfl rfl ?_
                    intro v3 h3 z3 hq3
                    obtain ⟨rfl, rfl, hd, hf3⟩ := hq3
                    have hK := hK.on (hf3.on (by omega)) (hf3.on (by omega))
                    have hf := hf.tr hf3
                    change pz_E _ _ _ _ _ _ _ _ _ _ _ _ _
                    refine pe_iconst (v := nI 0) d_K_relink_154 (by decide) ?_
                    refine pe_iret d_K_relink_155 rfl ?_
                    exact ⟨rfl, rfl, hd, hf⟩
              · have c_102 := pb_0.mp c_102
                exact absurd ht (of_decide_eq_false c_102)
          · have c_81 := pb_n0.mp c_81
            exact absurd (of_decide_eq_true c_81) hfree
      · exact absurd c_35 hs
    · have c_15 := pb_0.mp c_15
      exact absurd (c_15.symm.trans (inn_y (by omega) hv1)) (by decide)
def wrg (op mp : Nat → Bool) (nb : Nat) (dn : Nat → Int32) (x y w : Int32) : Bool := (opn op x && (inn y nb && rng w (nI 0) (nI 7))) && (!mp x.toNatClampNeg && decide (dn y.toNatClampNeg = x))
set_option maxHeartbeats 4000000 in
set_option maxRecDepth 20000 in
theorem c_K_write_no {l : Launch} {L : Nat} {xs : Nat → Int32} {h : pz_H} {z : Nat} {lost : Nat} (hK : KOB h lost) {dr fl : Nat → Nat} {op mp : Nat → Bool} {fi lk : Nat → Nat} (hap : ∀ i, i < 6 → AOB (16 + 25 * i) h (dr i) (fl i) (op i) (mp i) (fi i) (lk i)) {nb : Nat} {dw dn : Nat → Int32} (hd : DSK h nb dw dn) (x y w u : Int32) (hno : wrg op mp nb dn x y w = false) : pz_K l L xs M_K_write 3 0 0 [.ref 0, .int x, .int y, .int w, .int u] h z (fun v h' z' => v = some (.int (-1)) ∧ h = h' ∧ z = z') := by
  refine pz_K.of rfl (Nat.le_of_ble_eq_true rfl) ?_
  change pz_E l L xs M_K_write 3 0 0 0 [some (.ref 0), some (.int x), some (.int y), some (.int w), some (.int u)] [] h z _
  refine pe_aload_n d_K_write_0 rfl ?_
  refine pe_iload_n d_K_write_1 rfl ?_
  -- 2: K_isOpen
  refine pe_callV d_K_write_2 m_K_84 j_K_isOpen v_K_isOpen (c_K_isOpen hK hap _) rfl rfl (by simp [Value.category]) (by decide) hK.1 rfl rfl ?_
  intro v1 h1 z1 hq1
  obtain ⟨rfl, rfl, rfl⟩ := hq1
  change pz_E _ _ _ _ _ _ _ _ _ (_ :: _) _ _ _
  refine pe_if_eq (tgt := 29) d_K_write_5 (by decide) (fun c_5 => ?_) (fun c_5 => ?_)
  · have c_5 := pb_0.mp c_5
    refine pe_iconst (v := -1) d_K_write_29 (by decide) ?_
    refine pe_iret d_K_write_30 rfl ?_
    exact ⟨rfl, rfl, rfl⟩
  · have c_5 := pb_n0.mp c_5
    refine pe_aload_n d_K_write_8 rfl ?_
    refine pe_getf d_K_write_9 f_K_25 hK.1 rfl ?_
    refine pe_iload_n d_K_write_12 rfl ?_
    -- 13: Disk_hasBlock
    refine pe_callV d_K_write_13 m_K_215 j_Disk_hasBlock v_Disk_hasBlock (c_Disk_hasBlock hd _) rfl rfl (by simp [Value.category]) (by decide) hd.1 rfl rfl ?_
    intro v1 h1 z1 hq1
    obtain ⟨rfl, rfl, rfl⟩ := hq1
    change pz_E _ _ _ _ _ _ _ _ _ (_ :: _) _ _ _
    refine pe_if_eq (tgt := 29) d_K_write_16 (by decide) (fun c_16 => ?_) (fun c_16 => ?_)
    · have c_16 := pb_0.mp c_16
      refine pe_iconst (v := -1) d_K_write_29 (by decide) ?_
      refine pe_iret d_K_write_30 rfl ?_
      exact ⟨rfl, rfl, rfl⟩
    · have c_16 := pb_n0.mp c_16
      refine pe_iload_n d_K_write_19 rfl ?_
      refine pe_iconst (v := nI 0) d_K_write_20 (by decide) ?_
      refine pe_bipush (v := nI 7) d_K_write_21 (by decide) ?_
      -- 23: K_isIn
      refine pe_callS d_K_write_23 m_K_108 s_K_isIn (c_K_isIn _ _ _) rfl rfl (by simp [Value.category]) (by decide) ?_
      intro v1 h1 z1 hq1
      obtain ⟨rfl, rfl, rfl⟩ := hq1
      change pz_E _ _ _ _ _ _ _ _ _ (_ :: _) _ _ _
      refine pe_if_ne (tgt := 31) d_K_write_26 (by decide) (fun c_26 => ?_) (fun c_26 => ?_)
      · have c_26 := pb_n0.mp c_26
        obtain ⟨a, ha, -, rfl⟩ := opn_N c_5
        have hA := hap a ha
        refine pe_aload_n d_K_write_31 rfl ?_
        refine pe_getf d_K_write_32 f_K_49 hK.1 rfl ?_
        refine pe_iload_n d_K_write_35 rfl ?_
        refine pe_aaldN d_K_write_36 rfl hK.2 (by omega) (by omega) rfl ?_
        refine pe_getf d_K_write_37 f_K_218 hA rfl ?_
        refine pe_if_ne (tgt := 55) d_K_write_40 (by decide) (fun c_40 => ?_) (fun c_40 => ?_)
        · have c_40 := pb_n0.mp c_40
          refine pe_iconst (v := -1) d_K_write_55 (by decide) ?_
          refine pe_iret d_K_write_56 rfl ?_
          exact ⟨rfl, rfl, rfl⟩
        · have c_40 := pb_0.mp c_40
          have hb2 := hd.2.2.2.2
          obtain ⟨q, hq, rfl⟩ := inn_N (by omega) c_16
          refine pe_aload_n d_K_write_43 rfl ?_
          refine pe_getf d_K_write_44 f_K_25 hK.1 rfl ?_
          refine pe_iload_n d_K_write_47 rfl ?_
          -- 48: Disk_ownerOf
          refine pe_callV d_K_write_48 m_K_221 j_Disk_ownerOf v_Disk_ownerOf (c_Disk_ownerOf hd (by omega)) rfl rfl (by simp [Value.category]) (by decide) hd.1 rfl rfl ?_
          intro v1 h1 z1 hq1
          obtain ⟨rfl, rfl, rfl⟩ := hq1
          change pz_E _ _ _ _ _ _ _ _ _ (_ :: _) _ _ _
          refine pe_iload_n d_K_write_51 rfl ?_
          refine pe_icmp_eq (tgt := 57) d_K_write_52 (by decide) (fun c_52 => ?_) (fun c_52 => ?_)
          · exfalso; rw [wrg, c_5, show inn (nI q) nb = true from c_16, c_26, nI_clamp (show a < 2147483648 by omega), nI_clamp (show q < 2147483648 by omega), c_40, decide_eq_true c_52] at hno; exact absurd hno (by decide)
          · refine pe_iconst (v := -1) d_K_write_55 (by decide) ?_
            refine pe_iret d_K_write_56 rfl ?_
            exact ⟨rfl, rfl, rfl⟩
      · have c_26 := pb_0.mp c_26
        refine pe_iconst (v := -1) d_K_write_29 (by decide) ?_
        refine pe_iret d_K_write_30 rfl ?_
        exact ⟨rfl, rfl, rfl⟩
set_option maxHeartbeats 4000000 in
set_option maxRecDepth 20000 in
theorem c_K_write_plain {l : Launch} {L : Nat} {xs : Nat → Int32} {h : pz_H} {z : Nat} {lost : Nat} (hK : KOB h lost) {dr fl : Nat → Nat} {op mp : Nat → Bool} {fi lk : Nat → Nat} (hap : ∀ i, i < 6 → AOB (16 + 25 * i) h (dr i) (fl i) (op i) (mp i) (fi i) (lk i)) {nb : Nat} {dw dn : Nat → Int32} (hd : DSK h nb dw dn) {a b q : Nat} (ha : a < 6) (hb : b < nb) (hq8 : q < 8) (hfk : fi a + lk a ≤ 8) (u : Int32) (hyes : opn op (nI a) = true) (hmp : mp a = false) (how : dn b = nI a) (hlink : ¬ (fi a ≤ q ∧ q < fi a + lk a)) : pz_K l L xs M_K_write 3 0 0 [.ref 0, .int (nI a), .int (nI b), .int (nI q), .int u] h z (fun v h' z' => v = some (.int (nI 0)) ∧ z = z' ∧ DSK h' nb (upd dw (b * 8 + q) u) dn ∧ frm 8 11 h h') := by
  refine pz_K.of rfl (Nat.le_of_ble_eq_true rfl) ?_
  have hA := hap a ha
  have hb2 := hd.2.2.2.2
  change pz_E l L xs M_K_write 3 0 0 0 [some (.ref 0), some (.int (nI a)), some (.int (nI b)), some (.int (nI q)), some (.int u)] [] h z _
  refine pe_aload_n d_K_write_0 rfl ?_
  refine pe_iload_n d_K_write_1 rfl ?_
  -- 2: K_isOpen
  refine pe_callV d_K_write_2 m_K_84 j_K_isOpen v_K_isOpen (c_K_isOpen hK hap _) rfl rfl (by simp [Value.category]) (by decide) hK.1 rfl rfl ?_
  intro v1 h1 z1 hq1
  obtain ⟨rfl, rfl, rfl⟩ := hq1
  change pz_E _ _ _ _ _ _ _ _ _ (_ :: _) _ _ _
  refine pe_if_eq (tgt := 29) d_K_write_5 (by decide) (fun c_5 => ?_) (fun c_5 => ?_)
  · have c_5 := pb_0.mp c_5
    exact absurd (c_5.symm.trans hyes) (by decide)
  · have c_5 := pb_n0.mp c_5
    refine pe_aload_n d_K_write_8 rfl ?_
    refine pe_getf d_K_write_9 f_K_25 hK.1 rfl ?_
    refine pe_iload_n d_K_write_12 rfl ?_
    -- 13: Disk_hasBlock
    refine pe_callV d_K_write_13 m_K_215 j_Disk_hasBlock v_Disk_hasBlock (c_Disk_hasBlock hd _) rfl rfl (by simp [Value.category]) (by decide) hd.1 rfl rfl ?_
    intro v1 h1 z1 hq1
    obtain ⟨rfl, rfl, rfl⟩ := hq1
    change pz_E _ _ _ _ _ _ _ _ _ (_ :: _) _ _ _
    refine pe_if_eq (tgt := 29) d_K_write_16 (by decide) (fun c_16 => ?_) (fun c_16 => ?_)
    · have c_16 := pb_0.mp c_16
      exact absurd (c_16.symm.trans (inn_y (by omega) hb)) (by decide)
    · have c_16 := pb_n0.mp c_16
      refine pe_iload_n d_K_write_19 rfl ?_
      refine pe_iconst (v := nI 0) d_K_write_20 (by decide) ?_
      refine pe_bipush (v := nI 7) d_K_write_21 (by decide) ?_
      -- 23: K_isIn
      refine pe_callS d_K_write_23 m_K_108 s_K_isIn (c_K_isIn _ _ _) rfl rfl (by simp [Value.category]) (by decide) ?_
      intro v1 h1 z1 hq1
      obtain ⟨rfl, rfl, rfl⟩ := hq1
      change pz_E _ _ _ _ _ _ _ _ _ (_ :: _) _ _ _
      refine pe_if_ne (tgt := 31) d_K_write_26 (by decide) (fun c_26 => ?_) (fun c_26 => ?_)
      · have c_26 := pb_n0.mp c_26
        refine pe_aload_n d_K_write_31 rfl ?_
        refine pe_getf d_K_write_32 f_K_49 hK.1 rfl ?_
        refine pe_iload_n d_K_write_35 rfl ?_
        refine pe_aaldN d_K_write_36 rfl hK.2 (by omega) (by omega) rfl ?_
        refine pe_getf d_K_write_37 f_K_218 hA rfl ?_
        refine pe_if_ne (tgt := 55) d_K_write_40 (by decide) (fun c_40 => ?_) (fun c_40 => ?_)
        · have c_40 := pb_n0.mp c_40
          exact absurd (c_40.symm.trans hmp) (by decide)
        · have c_40 := pb_0.mp c_40
          refine pe_aload_n d_K_write_43 rfl ?_
          refine pe_getf d_K_write_44 f_K_25 hK.1 rfl ?_
          refine pe_iload_n d_K_write_47 rfl ?_
          -- 48: Disk_ownerOf
          refine pe_callV d_K_write_48 m_K_221 j_Disk_ownerOf v_Disk_ownerOf (c_Disk_ownerOf hd hb) rfl rfl (by simp [Value.category]) (by decide) hd.1 rfl rfl ?_
          intro v1 h1 z1 hq1
          obtain ⟨rfl, rfl, rfl⟩ := hq1
          change pz_E _ _ _ _ _ _ _ _ _ (_ :: _) _ _ _
          refine pe_iload_n d_K_write_51 rfl ?_
          refine pe_icmp_eq (tgt := 57) d_K_write_52 (by decide) (fun c_52 => ?_) (fun c_52 => ?_)
          · refine pe_aload_n d_K_write_57 rfl ?_
            refine pe_getf d_K_write_58 f_K_49 hK.1 rfl ?_
            refine pe_iload_n d_K_write_61 rfl ?_
            refine pe_aaldN d_K_write_62 rfl hK.2 (by omega) (by omega) rfl ?_
            refine pe_iload_n d_K_write_63 rfl ?_
            -- 64: Application_isLink
            refine pe_callV d_K_write_64 m_K_222 j_Application_isLink v_Application_isLink (c_Application_isLink hA hfk hq8) rfl rfl (by simp [Value.category]) (by decide) hA rfl rfl ?_
            intro v1 h1 z1 hq1
            obtain ⟨rfl, rfl, rfl⟩ := hq1
            change pz_E _ _ _ _ _ _ _ _ _ (_ :: _) _ _ _
            refine pe_if_eq (tgt := 80) d_K_write_67 (by decide) (fun c_67 => ?_) (fun c_67 => ?_)
            · have c_67 := pb_0.mp c_67
              refine pe_aload_n d_K_write_80 rfl ?_
              refine pe_getf d_K_write_81 f_K_25 hK.1 rfl ?_
              refine pe_iload_n d_K_write_84 rfl ?_
              refine pe_iload_n d_K_write_85 rfl ?_
              refine pe_iload d_K_write_86 rfl ?_
              -- 88: Disk_setWord
              refine pe_callV d_K_write_88 m_K_229 j_Disk_setWord v_Disk_setWord (c_Disk_setWord hd hb hq8 _) rfl rfl (by simp [Value.category]) (by decide) hd.1 rfl rfl ?_
              intro v1 h1 z1 hq1
              obtain ⟨rfl, rfl, hd, hf1⟩ := hq1
              change pz_E _ _ _ _ _ _ _ _ _ _ _ _ _
              refine pe_iconst (v := nI 0) d_K_write_91 (by decide) ?_
              refine pe_iret d_K_write_92 rfl ?_
              exact ⟨rfl, rfl, hd, hf1⟩
            · have c_67 := pb_n0.mp c_67
              exact absurd (of_decide_eq_true c_67) hlink
          · exact absurd how c_52
      · have c_26 := pb_0.mp c_26
        exact absurd (c_26.symm.trans (rng_y (by decide) (Nat.zero_le _) (by omega))) (by decide)
set_option maxHeartbeats 4000000 in
set_option maxRecDepth 20000 in
theorem c_K_write_link {l : Launch} {L : Nat} {xs : Nat → Int32} {h : pz_H} {z : Nat} {lost : Nat} (hK : KOB h lost) {dr fl : Nat → Nat} {op mp : Nat → Bool} {fi lk : Nat → Nat} (hap : ∀ i, i < 6 → AOB (16 + 25 * i) h (dr i) (fl i) (op i) (mp i) (fi i) (lk i)) {nb : Nat} {dw dn : Nat → Int32} (hd : DSK h nb dw dn) {a b q : Nat} (ha : a < 6) (hb : b < nb) (hq8 : q < 8) (hfk : fi a + lk a ≤ 8) (u : Int32) (hyes : opn op (nI a) = true) (hmp : mp a = false) (how : dn b = nI a) (hlink : fi a ≤ q ∧ q < fi a + lk a) {Q0 : Int32 → pz_H → Nat → Prop} {Q' : pz_Q} (hrel : pz_K l L xs M_K_relink 2 0 0 [.ref 0, .int (nI a), .int (nI b), .int (nI q), .int u] h z Q') (hQ0 : ∀ v h' z', Q' v h' z' → ∃ y, v = some (.int y) ∧ Q' (some (.int y)) h' z') : pz_K l L xs M_K_write 3 0 0 [.ref 0, .int (nI a), .int (nI b), .int (nI q), .int u] h z (Q') := by
  refine pz_K.of rfl (Nat.le_of_ble_eq_true rfl) ?_
  have hA := hap a ha
  have hb2 := hd.2.2.2.2
  change pz_E l L xs M_K_write 3 0 0 0 [some (.ref 0), some (.int (nI a)), some (.int (nI b)), some (.int (nI q)), some (.int u)] [] h z _
  refine pe_aload_n d_K_write_0 rfl ?_
  refine pe_iload_n d_K_write_1 rfl ?_
  -- 2: K_isOpen
  refine pe_callV d_K_write_2 m_K_84 j_K_isOpen v_K_isOpen (c_K_isOpen hK hap _) rfl rfl (by simp [Value.category]) (by decide) hK.1 rfl rfl ?_
  intro v1 h1 z1 hq1
  obtain ⟨rfl, rfl, rfl⟩ := hq1
  change pz_E _ _ _ _ _ _ _ _ _ (_ :: _) _ _ _
  refine pe_if_eq (tgt := 29) d_K_write_5 (by decide) (fun c_5 => ?_) (fun c_5 => ?_)
  · have c_5 := pb_0.mp c_5
    exact absurd (c_5.symm.trans hyes) (by decide)
  · have c_5 := pb_n0.mp c_5
    refine pe_aload_n d_K_write_8 rfl ?_
    refine pe_getf d_K_write_9 f_K_25 hK.1 rfl ?_
    refine pe_iload_n d_K_write_12 rfl ?_
    -- 13: Disk_hasBlock
    refine pe_callV d_K_write_13 m_K_215 j_Disk_hasBlock v_Disk_hasBlock (c_Disk_hasBlock hd _) rfl rfl (by simp [Value.category]) (by decide) hd.1 rfl rfl ?_
    intro v1 h1 z1 hq1
    obtain ⟨rfl, rfl, rfl⟩ := hq1
    change pz_E _ _ _ _ _ _ _ _ _ (_ :: _) _ _ _
    refine pe_if_eq (tgt := 29) d_K_write_16 (by decide) (fun c_16 => ?_) (fun c_16 => ?_)
    · have c_16 := pb_0.mp c_16
      exact absurd (c_16.symm.trans (inn_y (by omega) hb)) (by decide)
    · have c_16 := pb_n0.mp c_16
      refine pe_iload_n d_K_write_19 rfl ?_
      refine pe_iconst (v := nI 0) d_K_write_20 (by decide) ?_
      refine pe_bipush (v := nI 7) d_K_write_21 (by decide) ?_
      -- 23: K_isIn
      refine pe_callS d_K_write_23 m_K_108 s_K_isIn (c_K_isIn _ _ _) rfl rfl (by simp [Value.category]) (by decide) ?_
      intro v1 h1 z1 hq1
      obtain ⟨rfl, rfl, rfl⟩ := hq1
      change pz_E _ _ _ _ _ _ _ _ _ (_ :: _) _ _ _
      refine pe_if_ne (tgt := 31) d_K_write_26 (by decide) (fun c_26 => ?_) (fun c_26 => ?_)
      · have c_26 := pb_n0.mp c_26
        refine pe_aload_n d_K_write_31 rfl ?_
        refine pe_getf d_K_write_32 f_K_49 hK.1 rfl ?_
        refine pe_iload_n d_K_write_35 rfl ?_
        refine pe_aaldN d_K_write_36 rfl hK.2 (by omega) (by omega) rfl ?_
        refine pe_getf d_K_write_37 f_K_218 hA rfl ?_
        refine pe_if_ne (tgt := 55) d_K_write_40 (by decide) (fun c_40 => ?_) (fun c_40 => ?_)
        · have c_40 := pb_n0.mp c_40
          exact absurd (c_40.symm.trans hmp) (by decide)
        · have c_40 := pb_0.mp c_40
          refine pe_aload_n d_K_write_43 rfl ?_
          refine pe_getf d_K_write_44 f_K_25 hK.1 rfl ?_
          refine pe_iload_n d_K_write_47 rfl ?_
          -- 48: Disk_ownerOf
          refine pe_callV d_K_write_48 m_K_221 j_Disk_ownerOf v_Disk_ownerOf (c_Disk_ownerOf hd hb) rfl rfl (by simp [Value.category]) (by decide) hd.1 rfl rfl ?_
          intro v1 h1 z1 hq1
          obtain ⟨rfl, rfl, rfl⟩ := hq1
          change pz_E _ _ _ _ _ _ _ _ _ (_ :: _) _ _ _
          refine pe_iload_n d_K_write_51 rfl ?_
          refine pe_icmp_eq (tgt := 57) d_K_write_52 (by decide) (fun c_52 => ?_) (fun c_52 => ?_)
          · refine pe_aload_n d_K_write_57 rfl ?_
            refine pe_getf d_K_write_58 f_K_49 hK.1 rfl ?_
            refine pe_iload_n d_K_write_61 rfl ?_
            refine pe_aaldN d_K_write_62 rfl hK.2 (by omega) (by omega) rfl ?_
            refine pe_iload_n d_K_write_63 rfl ?_
            -- 64: Application_isLink
            refine pe_callV d_K_write_64 m_K_222 j_Application_isLink v_Application_isLink (c_Application_isLink hA hfk hq8) rfl rfl (by simp [Value.category]) (by decide) hA rfl rfl ?_
            intro v1 h1 z1 hq1
            obtain ⟨rfl, rfl, rfl⟩ := hq1
            change pz_E _ _ _ _ _ _ _ _ _ (_ :: _) _ _ _
            refine pe_if_eq (tgt := 80) d_K_write_67 (by decide) (fun c_67 => ?_) (fun c_67 => ?_)
            · have c_67 := pb_0.mp c_67
              exact absurd hlink (of_decide_eq_false c_67)
            · have c_67 := pb_n0.mp c_67
              refine pe_aload_n d_K_write_70 rfl ?_
              refine pe_iload_n d_K_write_71 rfl ?_
              refine pe_iload_n d_K_write_72 rfl ?_
              refine pe_iload_n d_K_write_73 rfl ?_
              refine pe_iload d_K_write_74 rfl ?_
              -- 76: K_relink
              refine pe_callV d_K_write_76 m_K_225 j_K_relink v_K_relink (hrel.mono hQ0) rfl rfl (by simp [Value.category]) (by decide) hK.1 rfl rfl ?_
              intro v1 h1 z1 hq1
              obtain ⟨y1, rfl, hq1⟩ := hq1
              change pz_E _ _ _ _ _ _ _ _ _ (_ :: _) _ _ _
              refine pe_iret d_K_write_79 rfl ?_
              exact hq1
          · exact absurd how c_52
      · have c_26 := pb_0.mp c_26
        exact absurd (c_26.symm.trans (rng_y (by decide) (Nat.zero_le _) (by omega))) (by decide)
set_option maxHeartbeats 4000000 in
set_option maxRecDepth 20000 in
theorem c_K_put_no {l : Launch} {L : Nat} {xs : Nat → Int32} {h : pz_H} {z : Nat} {lost : Nat} (hK : KOB h lost) {dr fl : Nat → Nat} {op mp : Nat → Bool} {fi lk : Nat → Nat} (hap : ∀ i, i < 6 → AOB (16 + 25 * i) h (dr i) (fl i) (op i) (mp i) (fi i) (lk i)) (x k u : Int32) (pr : Bool) (hno : (opn op x && mp x.toNatClampNeg) = false) : pz_K l L xs M_K_put 4 0 0 [.ref 0, .int x, .int k, .int u, .int (pb pr)] h z (fun v h' z' => v = some (.int (-1)) ∧ h = h' ∧ z = z') := by
  refine pz_K.of rfl (Nat.le_of_ble_eq_true rfl) ?_
  change pz_E l L xs M_K_put 4 0 0 0 [some (.ref 0), some (.int x), some (.int k), some (.int u), some (.int (pb pr)), none, none] [] h z _
  refine pe_aload_n d_K_put_0 rfl ?_
  refine pe_iload_n d_K_put_1 rfl ?_
  -- 2: K_isOpen
  refine pe_callV d_K_put_2 m_K_84 j_K_isOpen v_K_isOpen (c_K_isOpen hK hap _) rfl rfl (by simp [Value.category]) (by decide) hK.1 rfl rfl ?_
  intro v1 h1 z1 hq1
  obtain ⟨rfl, rfl, rfl⟩ := hq1
  change pz_E _ _ _ _ _ _ _ _ _ (_ :: _) _ _ _
  refine pe_if_eq (tgt := 20) d_K_put_5 (by decide) (fun c_5 => ?_) (fun c_5 => ?_)
  · have c_5 := pb_0.mp c_5
    refine pe_iconst (v := -1) d_K_put_20 (by decide) ?_
    refine pe_iret d_K_put_21 rfl ?_
    exact ⟨rfl, rfl, rfl⟩
  · have c_5 := pb_n0.mp c_5
    obtain ⟨a, ha, -, rfl⟩ := opn_N c_5
    have hA := hap a ha
    refine pe_aload_n d_K_put_8 rfl ?_
    refine pe_getf d_K_put_9 f_K_49 hK.1 rfl ?_
    refine pe_iload_n d_K_put_12 rfl ?_
    refine pe_aaldN d_K_put_13 rfl hK.2 (by omega) (by omega) rfl ?_
    refine pe_getf d_K_put_14 f_K_218 hA rfl ?_
    refine pe_if_ne (tgt := 22) d_K_put_17 (by decide) (fun c_17 => ?_) (fun c_17 => ?_)
    · have c_17 := pb_n0.mp c_17
      exfalso; rw [c_5, nI_clamp (show a < 2147483648 by omega), c_17] at hno; exact absurd hno (by decide)
    · have c_17 := pb_0.mp c_17
      refine pe_iconst (v := -1) d_K_put_20 (by decide) ?_
      refine pe_iret d_K_put_21 rfl ?_
      exact ⟨rfl, rfl, rfl⟩
set_option maxHeartbeats 4000000 in
set_option maxRecDepth 20000 in
theorem c_K_put_nf0 {l : Launch} {L : Nat} {xs : Nat → Int32} {h : pz_H} {z : Nat} {lost : Nat} (hK : KOB h lost) {dr fl : Nat → Nat} {op mp : Nat → Bool} {fi lk : Nat → Nat} (hap : ∀ i, i < 6 → AOB (16 + 25 * i) h (dr i) (fl i) (op i) (mp i) (fi i) (lk i)) {nb : Nat} {dw dn : Nat → Int32} (hd : DSK h nb dw dn) {a : Nat} (ha : a < 6) (k u : Int32) (hyes : opn op (nI a) = true) (hmp : mp a = true) {td : Nat → Int32} {tl : Nat} (ht : TAB (16 + 25 * a + 13) h td tl) {tb : Nat → Nat} (htb : ∀ j, j * 4 < tl → td j = nI (tb j) ∧ tb j < nb) (hnf : ¬ ff (fun q => decide (dw (eka tb q) = k)) tl 0 < tl) : pz_K l L xs M_K_put 4 0 0 [.ref 0, .int (nI a), .int k, .int u, .int (pb false)] h z (fun v h' z' => v = some (.int (-1)) ∧ h = h' ∧ z = z') := by
  refine pz_K.of rfl (Nat.le_of_ble_eq_true rfl) ?_
  have hA := hap a ha
  have htl := ht.2.2
  change pz_E l L xs M_K_put 4 0 0 0 [some (.ref 0), some (.int (nI a)), some (.int k), some (.int u), some (.int (pb false)), none, none] [] h z _
  refine pe_aload_n d_K_put_0 rfl ?_
  refine pe_iload_n d_K_put_1 rfl ?_
  -- 2: K_isOpen
  refine pe_callV d_K_put_2 m_K_84 j_K_isOpen v_K_isOpen (c_K_isOpen hK hap _) rfl rfl (by simp [Value.category]) (by decide) hK.1 rfl rfl ?_
  intro v1 h1 z1 hq1
  obtain ⟨rfl, rfl, rfl⟩ := hq1
  change pz_E _ _ _ _ _ _ _ _ _ (_ :: _) _ _ _
  refine pe_if_eq (tgt := 20) d_K_put_5 (by decide) (fun c_5 => ?_) (fun c_5 => ?_)
  · have c_5 := pb_0.mp c_5
    exact absurd (c_5.symm.trans hyes) (by decide)
  · have c_5 := pb_n0.mp c_5
    refine pe_aload_n d_K_put_8 rfl ?_
    refine pe_getf d_K_put_9 f_K_49 hK.1 rfl ?_
    refine pe_iload_n d_K_put_12 rfl ?_
    refine pe_aaldN d_K_put_13 rfl hK.2 (by omega) (by omega) rfl ?_
    refine pe_getf d_K_put_14 f_K_218 hA rfl ?_
    refine pe_if_ne (tgt := 22) d_K_put_17 (by decide) (fun c_17 => ?_) (fun c_17 => ?_)
    · have c_17 := pb_n0.mp c_17
      refine pe_aload_n d_K_put_22 rfl ?_
      refine pe_getf d_K_put_23 f_K_49 hK.1 rfl ?_
      refine pe_iload_n d_K_put_26 rfl ?_
      refine pe_aaldN d_K_put_27 rfl hK.2 (by omega) (by omega) rfl ?_
      refine pe_getf d_K_put_28 f_K_230 hA rfl ?_
      refine pe_astore d_K_put_31 (by decide) rfl ?_
      dsimp only [List.set]
      refine pe_aload d_K_put_33 rfl ?_
      refine pe_aload_n d_K_put_35 rfl ?_
      refine pe_getf d_K_put_36 f_K_25 hK.1 rfl ?_
      refine pe_iload_n d_K_put_39 rfl ?_
      -- 40: EntryTable_placeOf
      refine pe_callV d_K_put_40 m_K_234 j_EntryTable_placeOf v_EntryTable_placeOf (c_EntryTable_placeOf ht hd htb _) rfl rfl (by simp [Value.category]) (by decide) ht.1 rfl rfl ?_
      intro v1 h1 z1 hq1
      obtain ⟨rfl, rfl, rfl⟩ := hq1
      rw [Nat.sub_zero]
      rw [orm_ge hnf]
      change pz_E _ _ _ _ _ _ _ _ _ (_ :: _) _ _ _
      refine pe_istore d_K_put_43 (by decide) rfl ?_
      dsimp only [List.set]
      refine pe_iload d_K_put_45 rfl ?_
      refine pe_iconst (v := -1) d_K_put_47 (by decide) ?_
      refine pe_icmp_ne (tgt := 73) d_K_put_48 (by decide) (fun c_48 => ?_) (fun c_48 => ?_)
      · exact absurd rfl c_48
      · refine pe_iload d_K_put_51 rfl ?_
        refine pe_if_eq (tgt := 71) d_K_put_53 (by decide) (fun c_53 => ?_) (fun c_53 => ?_)
        · have c_53 := pb_0.mp c_53
          refine pe_iconst (v := -1) d_K_put_71 (by decide) ?_
          refine pe_iret d_K_put_72 rfl ?_
          exact ⟨rfl, rfl, rfl⟩
        · have c_53 := pb_n0.mp c_53
          exact absurd c_53 (by decide)
    · have c_17 := pb_0.mp c_17
      exact absurd (c_17.symm.trans hmp) (by decide)
set_option maxHeartbeats 4000000 in
set_option maxRecDepth 20000 in
theorem c_K_put_full {l : Launch} {L : Nat} {xs : Nat → Int32} {h : pz_H} {z : Nat} {lost : Nat} (hK : KOB h lost) {dr fl : Nat → Nat} {op mp : Nat → Bool} {fi lk : Nat → Nat} (hap : ∀ i, i < 6 → AOB (16 + 25 * i) h (dr i) (fl i) (op i) (mp i) (fi i) (lk i)) {nb : Nat} {dw dn : Nat → Int32} (hd : DSK h nb dw dn) {a : Nat} (ha : a < 6) (k u : Int32) (hyes : opn op (nI a) = true) (hmp : mp a = true) {td : Nat → Int32} {tl : Nat} (ht : TAB (16 + 25 * a + 13) h td tl) {tb : Nat → Nat} (htb : ∀ j, j * 4 < tl → td j = nI (tb j) ∧ tb j < nb) (hnf : ¬ ff (fun q => decide (dw (eka tb q) = k)) tl 0 < tl) (h28 : tl = 28) : pz_K l L xs M_K_put 4 0 0 [.ref 0, .int (nI a), .int k, .int u, .int (pb true)] h z (fun v h' z' => v = some (.int (-2)) ∧ h = h' ∧ z = z') := by
  refine pz_K.of rfl (Nat.le_of_ble_eq_true rfl) ?_
  have hA := hap a ha
  have htl := ht.2.2
  change pz_E l L xs M_K_put 4 0 0 0 [some (.ref 0), some (.int (nI a)), some (.int k), some (.int u), some (.int (pb true)), none, none] [] h z _
  refine pe_aload_n d_K_put_0 rfl ?_
  refine pe_iload_n d_K_put_1 rfl ?_
  -- 2: K_isOpen
  refine pe_callV d_K_put_2 m_K_84 j_K_isOpen v_K_isOpen (c_K_isOpen hK hap _) rfl rfl (by simp [Value.category]) (by decide) hK.1 rfl rfl ?_
  intro v1 h1 z1 hq1
  obtain ⟨rfl, rfl, rfl⟩ := hq1
  change pz_E _ _ _ _ _ _ _ _ _ (_ :: _) _ _ _
  refine pe_if_eq (tgt := 20) d_K_put_5 (by decide) (fun c_5 => ?_) (fun c_5 => ?_)
  · have c_5 := pb_0.mp c_5
    exact absurd (c_5.symm.trans hyes) (by decide)
  · have c_5 := pb_n0.mp c_5
    refine pe_aload_n d_K_put_8 rfl ?_
    refine pe_getf d_K_put_9 f_K_49 hK.1 rfl ?_
    refine pe_iload_n d_K_put_12 rfl ?_
    refine pe_aaldN d_K_put_13 rfl hK.2 (by omega) (by omega) rfl ?_
    refine pe_getf d_K_put_14 f_K_218 hA rfl ?_
    refine pe_if_ne (tgt := 22) d_K_put_17 (by decide) (fun c_17 => ?_) (fun c_17 => ?_)
    · have c_17 := pb_n0.mp c_17
      refine pe_aload_n d_K_put_22 rfl ?_
      refine pe_getf d_K_put_23 f_K_49 hK.1 rfl ?_
      refine pe_iload_n d_K_put_26 rfl ?_
      refine pe_aaldN d_K_put_27 rfl hK.2 (by omega) (by omega) rfl ?_
      refine pe_getf d_K_put_28 f_K_230 hA rfl ?_
      refine pe_astore d_K_put_31 (by decide) rfl ?_
      dsimp only [List.set]
      refine pe_aload d_K_put_33 rfl ?_
      refine pe_aload_n d_K_put_35 rfl ?_
      refine pe_getf d_K_put_36 f_K_25 hK.1 rfl ?_
      refine pe_iload_n d_K_put_39 rfl ?_
      -- 40: EntryTable_placeOf
      refine pe_callV d_K_put_40 m_K_234 j_EntryTable_placeOf v_EntryTable_placeOf (c_EntryTable_placeOf ht hd htb _) rfl rfl (by simp [Value.category]) (by decide) ht.1 rfl rfl ?_
      intro v1 h1 z1 hq1
      obtain ⟨rfl, rfl, rfl⟩ := hq1
      rw [Nat.sub_zero]
      rw [orm_ge hnf]
      change pz_E _ _ _ _ _ _ _ _ _ (_ :: _) _ _ _
      refine pe_istore d_K_put_43 (by decide) rfl ?_
      dsimp only [List.set]
      refine pe_iload d_K_put_45 rfl ?_
      refine pe_iconst (v := -1) d_K_put_47 (by decide) ?_
      refine pe_icmp_ne (tgt := 73) d_K_put_48 (by decide) (fun c_48 => ?_) (fun c_48 => ?_)
      · exact absurd rfl c_48
      · refine pe_iload d_K_put_51 rfl ?_
        refine pe_if_eq (tgt := 71) d_K_put_53 (by decide) (fun c_53 => ?_) (fun c_53 => ?_)
        · have c_53 := pb_0.mp c_53
          exact absurd c_53 (by decide)
        · have c_53 := pb_n0.mp c_53
          refine pe_aload d_K_put_56 rfl ?_
          refine pe_aload_n d_K_put_58 rfl ?_
          refine pe_getf d_K_put_59 f_K_25 hK.1 rfl ?_
          refine pe_iload_n d_K_put_62 rfl ?_
          refine pe_iload_n d_K_put_63 rfl ?_
          refine pe_iload_n d_K_put_64 rfl ?_
          -- 65: EntryTable_append
          refine pe_callV d_K_put_65 m_K_240 j_EntryTable_append v_EntryTable_append (c_EntryTable_append_full ht hd _ _ _ h28) rfl rfl (by simp [Value.category]) (by decide) ht.1 rfl rfl ?_
          intro v1 h1 z1 hq1
          obtain ⟨rfl, rfl, rfl⟩ := hq1
          change pz_E _ _ _ _ _ _ _ _ _ (_ :: _) _ _ _
          refine pe_goto (tgt := 72) d_K_put_68 (by decide) ?_
          refine pe_iret d_K_put_72 rfl ?_
          exact ⟨rfl, rfl, rfl⟩
    · have c_17 := pb_0.mp c_17
      exact absurd (c_17.symm.trans hmp) (by decide)
set_option maxHeartbeats 4000000 in
set_option maxRecDepth 20000 in
theorem c_K_put_none {l : Launch} {L : Nat} {xs : Nat → Int32} {h : pz_H} {z : Nat} {lost : Nat} (hK : KOB h lost) {dr fl : Nat → Nat} {op mp : Nat → Bool} {fi lk : Nat → Nat} (hap : ∀ i, i < 6 → AOB (16 + 25 * i) h (dr i) (fl i) (op i) (mp i) (fi i) (lk i)) {nb : Nat} {dw dn : Nat → Int32} (hd : DSK h nb dw dn) {a : Nat} (ha : a < 6) (k u : Int32) (hyes : opn op (nI a) = true) (hmp : mp a = true) {td : Nat → Int32} {tl : Nat} (ht : TAB (16 + 25 * a + 13) h td tl) {tb : Nat → Nat} (htb : ∀ j, j * 4 < tl → td j = nI (tb j) ∧ tb j < nb) (hnf : ¬ ff (fun q => decide (dw (eka tb q) = k)) tl 0 < tl) (h28 : tl < 28) (h4 : tl % 4 = 0) (hnb : ¬ ff (fun j => decide (dn j = -1)) nb 0 < nb) : pz_K l L xs M_K_put 4 0 0 [.ref 0, .int (nI a), .int k, .int u, .int (pb true)] h z (fun v h' z' => v = some (.int (-2)) ∧ h = h' ∧ z = z') := by
  refine pz_K.of rfl (Nat.le_of_ble_eq_true rfl) ?_
  have hA := hap a ha
  have htl := ht.2.2
  change pz_E l L xs M_K_put 4 0 0 0 [some (.ref 0), some (.int (nI a)), some (.int k), some (.int u), some (.int (pb true)), none, none] [] h z _
  refine pe_aload_n d_K_put_0 rfl ?_
  refine pe_iload_n d_K_put_1 rfl ?_
  -- 2: K_isOpen
  refine pe_callV d_K_put_2 m_K_84 j_K_isOpen v_K_isOpen (c_K_isOpen hK hap _) rfl rfl (by simp [Value.category]) (by decide) hK.1 rfl rfl ?_
  intro v1 h1 z1 hq1
  obtain ⟨rfl, rfl, rfl⟩ := hq1
  change pz_E _ _ _ _ _ _ _ _ _ (_ :: _) _ _ _
  refine pe_if_eq (tgt := 20) d_K_put_5 (by decide) (fun c_5 => ?_) (fun c_5 => ?_)
  · have c_5 := pb_0.mp c_5
    exact absurd (c_5.symm.trans hyes) (by decide)
  · have c_5 := pb_n0.mp c_5
    refine pe_aload_n d_K_put_8 rfl ?_
    refine pe_getf d_K_put_9 f_K_49 hK.1 rfl ?_
    refine pe_iload_n d_K_put_12 rfl ?_
    refine pe_aaldN d_K_put_13 rfl hK.2 (by omega) (by omega) rfl ?_
    refine pe_getf d_K_put_14 f_K_218 hA rfl ?_
    refine pe_if_ne (tgt := 22) d_K_put_17 (by decide) (fun c_17 => ?_) (fun c_17 => ?_)
    · have c_17 := pb_n0.mp c_17
      refine pe_aload_n d_K_put_22 rfl ?_
      refine pe_getf d_K_put_23 f_K_49 hK.1 rfl ?_
      refine pe_iload_n d_K_put_26 rfl ?_
      refine pe_aaldN d_K_put_27 rfl hK.2 (by omega) (by omega) rfl ?_
      refine pe_getf d_K_put_28 f_K_230 hA rfl ?_
      refine pe_astore d_K_put_31 (by decide) rfl ?_
      dsimp only [List.set]
      refine pe_aload d_K_put_33 rfl ?_
      refine pe_aload_n d_K_put_35 rfl ?_
      refine pe_getf d_K_put_36 f_K_25 hK.1 rfl ?_
      refine pe_iload_n d_K_put_39 rfl ?_
      -- 40: EntryTable_placeOf
      refine pe_callV d_K_put_40 m_K_234 j_EntryTable_placeOf v_EntryTable_placeOf (c_EntryTable_placeOf ht hd htb _) rfl rfl (by simp [Value.category]) (by decide) ht.1 rfl rfl ?_
      intro v1 h1 z1 hq1
      obtain ⟨rfl, rfl, rfl⟩ := hq1
      rw [Nat.sub_zero]
      rw [orm_ge hnf]
      change pz_E _ _ _ _ _ _ _ _ _ (_ :: _) _ _ _
      refine pe_istore d_K_put_43 (by decide) rfl ?_
      dsimp only [List.set]
      refine pe_iload d_K_put_45 rfl ?_
      refine pe_iconst (v := -1) d_K_put_47 (by decide) ?_
      refine pe_icmp_ne (tgt := 73) d_K_put_48 (by decide) (fun c_48 => ?_) (fun c_48 => ?_)
      · exact absurd rfl c_48
      · refine pe_iload d_K_put_51 rfl ?_
        refine pe_if_eq (tgt := 71) d_K_put_53 (by decide) (fun c_53 => ?_) (fun c_53 => ?_)
        · have c_53 := pb_0.mp c_53
          exact absurd c_53 (by decide)
        · have c_53 := pb_n0.mp c_53
          refine pe_aload d_K_put_56 rfl ?_
          refine pe_aload_n d_K_put_58 rfl ?_
          refine pe_getf d_K_put_59 f_K_25 hK.1 rfl ?_
          refine pe_iload_n d_K_put_62 rfl ?_
          refine pe_iload_n d_K_put_63 rfl ?_
          refine pe_iload_n d_K_put_64 rfl ?_
          -- 65: EntryTable_append
          refine pe_callV d_K_put_65 m_K_240 j_EntryTable_append v_EntryTable_append (c_EntryTable_append_none ht hd _ _ _ h28 h4 hnb) rfl rfl (by simp [Value.category]) (by decide) ht.1 rfl rfl ?_
          intro v1 h1 z1 hq1
          obtain ⟨rfl, rfl, rfl⟩ := hq1
          change pz_E _ _ _ _ _ _ _ _ _ (_ :: _) _ _ _
          refine pe_goto (tgt := 72) d_K_put_68 (by decide) ?_
          refine pe_iret d_K_put_72 rfl ?_
          exact ⟨rfl, rfl, rfl⟩
    · have c_17 := pb_0.mp c_17
      exact absurd (c_17.symm.trans hmp) (by decide)
set_option maxHeartbeats 4000000 in
set_option maxRecDepth 20000 in
theorem c_K_put_in {l : Launch} {L : Nat} {xs : Nat → Int32} {h : pz_H} {z : Nat} {lost : Nat} (hK : KOB h lost) {dr fl : Nat → Nat} {op mp : Nat → Bool} {fi lk : Nat → Nat} (hap : ∀ i, i < 6 → AOB (16 + 25 * i) h (dr i) (fl i) (op i) (mp i) (fi i) (lk i)) {nb : Nat} {dw dn : Nat → Int32} (hd : DSK h nb dw dn) {a : Nat} (ha : a < 6) (k u : Int32) (hyes : opn op (nI a) = true) (hmp : mp a = true) {td : Nat → Int32} {tl : Nat} (ht : TAB (16 + 25 * a + 13) h td tl) {tb : Nat → Nat} (htb : ∀ j, j * 4 < tl → td j = nI (tb j) ∧ tb j < nb) (hnf : ¬ ff (fun q => decide (dw (eka tb q) = k)) tl 0 < tl) (h28 : tl < 28) (h4 : ¬ tl % 4 = 0) : pz_K l L xs M_K_put 4 0 0 [.ref 0, .int (nI a), .int k, .int u, .int (pb true)] h z (fun v h' z' => v = some (.int (nI 0)) ∧ z = z' ∧ DSK h' nb (upd (upd dw (tb (tl / 4) * 8 + 2 * (tl % 4)) k) (tb (tl / 4) * 8 + (2 * (tl % 4) + 1)) u) dn ∧ TAB (16 + 25 * a + 13) h' td (tl + 1) ∧ fr2 8 11 (16 + 25 * a + 13) (16 + 25 * a + 13 + 2) h h') := by
  refine pz_K.of rfl (Nat.le_of_ble_eq_true rfl) ?_
  have hA := hap a ha
  have htl := ht.2.2
  change pz_E l L xs M_K_put 4 0 0 0 [some (.ref 0), some (.int (nI a)), some (.int k), some (.int u), some (.int (pb true)), none, none] [] h z _
  refine pe_aload_n d_K_put_0 rfl ?_
  refine pe_iload_n d_K_put_1 rfl ?_
  -- 2: K_isOpen
  refine pe_callV d_K_put_2 m_K_84 j_K_isOpen v_K_isOpen (c_K_isOpen hK hap _) rfl rfl (by simp [Value.category]) (by decide) hK.1 rfl rfl ?_
  intro v1 h1 z1 hq1
  obtain ⟨rfl, rfl, rfl⟩ := hq1
  change pz_E _ _ _ _ _ _ _ _ _ (_ :: _) _ _ _
  refine pe_if_eq (tgt := 20) d_K_put_5 (by decide) (fun c_5 => ?_) (fun c_5 => ?_)
  · have c_5 := pb_0.mp c_5
    exact absurd (c_5.symm.trans hyes) (by decide)
  · have c_5 := pb_n0.mp c_5
    refine pe_aload_n d_K_put_8 rfl ?_
    refine pe_getf d_K_put_9 f_K_49 hK.1 rfl ?_
    refine pe_iload_n d_K_put_12 rfl ?_
    refine pe_aaldN d_K_put_13 rfl hK.2 (by omega) (by omega) rfl ?_
    refine pe_getf d_K_put_14 f_K_218 hA rfl ?_
    refine pe_if_ne (tgt := 22) d_K_put_17 (by decide) (fun c_17 => ?_) (fun c_17 => ?_)
    · have c_17 := pb_n0.mp c_17
      refine pe_aload_n d_K_put_22 rfl ?_
      refine pe_getf d_K_put_23 f_K_49 hK.1 rfl ?_
      refine pe_iload_n d_K_put_26 rfl ?_
      refine pe_aaldN d_K_put_27 rfl hK.2 (by omega) (by omega) rfl ?_
      refine pe_getf d_K_put_28 f_K_230 hA rfl ?_
      refine pe_astore d_K_put_31 (by decide) rfl ?_
      dsimp only [List.set]
      refine pe_aload d_K_put_33 rfl ?_
      refine pe_aload_n d_K_put_35 rfl ?_
      refine pe_getf d_K_put_36 f_K_25 hK.1 rfl ?_
      refine pe_iload_n d_K_put_39 rfl ?_
      -- 40: EntryTable_placeOf
      refine pe_callV d_K_put_40 m_K_234 j_EntryTable_placeOf v_EntryTable_placeOf (c_EntryTable_placeOf ht hd htb _) rfl rfl (by simp [Value.category]) (by decide) ht.1 rfl rfl ?_
      intro v1 h1 z1 hq1
      obtain ⟨rfl, rfl, rfl⟩ := hq1
      rw [Nat.sub_zero]
      rw [orm_ge hnf]
      change pz_E _ _ _ _ _ _ _ _ _ (_ :: _) _ _ _
      refine pe_istore d_K_put_43 (by decide) rfl ?_
      dsimp only [List.set]
      refine pe_iload d_K_put_45 rfl ?_
      refine pe_iconst (v := -1) d_K_put_47 (by decide) ?_
      refine pe_icmp_ne (tgt := 73) d_K_put_48 (by decide) (fun c_48 => ?_) (fun c_48 => ?_)
      · exact absurd rfl c_48
      · refine pe_iload d_K_put_51 rfl ?_
        refine pe_if_eq (tgt := 71) d_K_put_53 (by decide) (fun c_53 => ?_) (fun c_53 => ?_)
        · have c_53 := pb_0.mp c_53
          exact absurd c_53 (by decide)
        · have c_53 := pb_n0.mp c_53
          refine pe_aload d_K_put_56 rfl ?_
          refine pe_aload_n d_K_put_58 rfl ?_
          refine pe_getf d_K_put_59 f_K_25 hK.1 rfl ?_
          refine pe_iload_n d_K_put_62 rfl ?_
          refine pe_iload_n d_K_put_63 rfl ?_
          refine pe_iload_n d_K_put_64 rfl ?_
          -- 65: EntryTable_append
          refine pe_callV d_K_put_65 m_K_240 j_EntryTable_append v_EntryTable_append (c_EntryTable_append_in ht hd _ _ _ h28 h4 (htb (tl / 4) (by omega)).1 (htb (tl / 4) (by omega)).2 (by omega)) rfl rfl (by simp [Value.category]) (by decide) ht.1 rfl rfl ?_
          intro v1 h1 z1 hq1
          obtain ⟨rfl, rfl, hd, ht, hf1⟩ := hq1
          change pz_E _ _ _ _ _ _ _ _ _ (_ :: _) _ _ _
          refine pe_goto (tgt := 72) d_K_put_68 (by decide) ?_
          refine pe_iret d_K_put_72 rfl ?_
          exact ⟨rfl, rfl, hd, ht, hf1⟩
    · have c_17 := pb_0.mp c_17
      exact absurd (c_17.symm.trans hmp) (by decide)
set_option maxHeartbeats 4000000 in
set_option maxRecDepth 20000 in
theorem c_K_put_new {l : Launch} {L : Nat} {xs : Nat → Int32} {h : pz_H} {z : Nat} {lost : Nat} (hK : KOB h lost) {dr fl : Nat → Nat} {op mp : Nat → Bool} {fi lk : Nat → Nat} (hap : ∀ i, i < 6 → AOB (16 + 25 * i) h (dr i) (fl i) (op i) (mp i) (fi i) (lk i)) {nb : Nat} {dw dn : Nat → Int32} (hd : DSK h nb dw dn) {a : Nat} (ha : a < 6) (k u : Int32) (hyes : opn op (nI a) = true) (hmp : mp a = true) {td : Nat → Int32} {tl : Nat} (ht : TAB (16 + 25 * a + 13) h td tl) {tb : Nat → Nat} (htb : ∀ j, j * 4 < tl → td j = nI (tb j) ∧ tb j < nb) (hnf : ¬ ff (fun q => decide (dw (eka tb q) = k)) tl 0 < tl) (h28 : tl < 28) (h4 : tl % 4 = 0) {bb : Nat} (hbe : bb = ff (fun j => decide (dn j = -1)) nb 0) (hbb : bb < nb) : pz_K l L xs M_K_put 4 0 0 [.ref 0, .int (nI a), .int k, .int u, .int (pb true)] h z (fun v h' z' => v = some (.int (nI 0)) ∧ z = z' ∧ DSK h' nb (upd (upd (fil dw (lkw bb 0 0) (bb * 8) 8) (bb * 8 + 2 * (tl % 4)) k) (bb * 8 + (2 * (tl % 4) + 1)) u) (upd dn bb (nI a)) ∧ TAB (16 + 25 * a + 13) h' (upd td (tl / 4) (nI bb)) (tl + 1) ∧ fr2 8 11 (16 + 25 * a + 13) (16 + 25 * a + 13 + 2) h h') := by
  refine pz_K.of rfl (Nat.le_of_ble_eq_true rfl) ?_
  have hA := hap a ha
  have htl := ht.2.2
  change pz_E l L xs M_K_put 4 0 0 0 [some (.ref 0), some (.int (nI a)), some (.int k), some (.int u), some (.int (pb true)), none, none] [] h z _
  refine pe_aload_n d_K_put_0 rfl ?_
  refine pe_iload_n d_K_put_1 rfl ?_
  -- 2: K_isOpen
  refine pe_callV d_K_put_2 m_K_84 j_K_isOpen v_K_isOpen (c_K_isOpen hK hap _) rfl rfl (by simp [Value.category]) (by decide) hK.1 rfl rfl ?_
  intro v1 h1 z1 hq1
  obtain ⟨rfl, rfl, rfl⟩ := hq1
  change pz_E _ _ _ _ _ _ _ _ _ (_ :: _) _ _ _
  refine pe_if_eq (tgt := 20) d_K_put_5 (by decide) (fun c_5 => ?_) (fun c_5 => ?_)
  · have c_5 := pb_0.mp c_5
    exact absurd (c_5.symm.trans hyes) (by decide)
  · have c_5 := pb_n0.mp c_5
    refine pe_aload_n d_K_put_8 rfl ?_
    refine pe_getf d_K_put_9 f_K_49 hK.1 rfl ?_
    refine pe_iload_n d_K_put_12 rfl ?_
    refine pe_aaldN d_K_put_13 rfl hK.2 (by omega) (by omega) rfl ?_
    refine pe_getf d_K_put_14 f_K_218 hA rfl ?_
    refine pe_if_ne (tgt := 22) d_K_put_17 (by decide) (fun c_17 => ?_) (fun c_17 => ?_)
    · have c_17 := pb_n0.mp c_17
      refine pe_aload_n d_K_put_22 rfl ?_
      refine pe_getf d_K_put_23 f_K_49 hK.1 rfl ?_
      refine pe_iload_n d_K_put_26 rfl ?_
      refine pe_aaldN d_K_put_27 rfl hK.2 (by omega) (by omega) rfl ?_
      refine pe_getf d_K_put_28 f_K_230 hA rfl ?_
      refine pe_astore d_K_put_31 (by decide) rfl ?_
      dsimp only [List.set]
      refine pe_aload d_K_put_33 rfl ?_
      refine pe_aload_n d_K_put_35 rfl ?_
      refine pe_getf d_K_put_36 f_K_25 hK.1 rfl ?_
      refine pe_iload_n d_K_put_39 rfl ?_
      -- 40: EntryTable_placeOf
      refine pe_callV d_K_put_40 m_K_234 j_EntryTable_placeOf v_EntryTable_placeOf (c_EntryTable_placeOf ht hd htb _) rfl rfl (by simp [Value.category]) (by decide) ht.1 rfl rfl ?_
      intro v1 h1 z1 hq1
      obtain ⟨rfl, rfl, rfl⟩ := hq1
      rw [Nat.sub_zero]
      rw [orm_ge hnf]
      change pz_E _ _ _ _ _ _ _ _ _ (_ :: _) _ _ _
      refine pe_istore d_K_put_43 (by decide) rfl ?_
      dsimp only [List.set]
      refine pe_iload d_K_put_45 rfl ?_
      refine pe_iconst (v := -1) d_K_put_47 (by decide) ?_
      refine pe_icmp_ne (tgt := 73) d_K_put_48 (by decide) (fun c_48 => ?_) (fun c_48 => ?_)
      · exact absurd rfl c_48
      · refine pe_iload d_K_put_51 rfl ?_
        refine pe_if_eq (tgt := 71) d_K_put_53 (by decide) (fun c_53 => ?_) (fun c_53 => ?_)
        · have c_53 := pb_0.mp c_53
          exact absurd c_53 (by decide)
        · have c_53 := pb_n0.mp c_53
          refine pe_aload d_K_put_56 rfl ?_
          refine pe_aload_n d_K_put_58 rfl ?_
          refine pe_getf d_K_put_59 f_K_25 hK.1 rfl ?_
          refine pe_iload_n d_K_put_62 rfl ?_
          refine pe_iload_n d_K_put_63 rfl ?_
          refine pe_iload_n d_K_put_64 rfl ?_
          -- 65: EntryTable_append
          refine pe_callV d_K_put_65 m_K_240 j_EntryTable_append v_EntryTable_append (c_EntryTable_append_new ht hd _ _ _ h28 h4 hbe hbb (by omega)) rfl rfl (by simp [Value.category]) (by decide) ht.1 rfl rfl ?_
          intro v1 h1 z1 hq1
          obtain ⟨rfl, rfl, hd, ht, hf1⟩ := hq1
          change pz_E _ _ _ _ _ _ _ _ _ (_ :: _) _ _ _
          refine pe_goto (tgt := 72) d_K_put_68 (by decide) ?_
          refine pe_iret d_K_put_72 rfl ?_
          exact ⟨rfl, rfl, hd, ht, hf1⟩
    · have c_17 := pb_0.mp c_17
      exact absurd (c_17.symm.trans hmp) (by decide)
set_option maxHeartbeats 4000000 in
set_option maxRecDepth 20000 in
theorem c_K_put_set {l : Launch} {L : Nat} {xs : Nat → Int32} {h : pz_H} {z : Nat} {lost : Nat} (hK : KOB h lost) {dr fl : Nat → Nat} {op mp : Nat → Bool} {fi lk : Nat → Nat} (hap : ∀ i, i < 6 → AOB (16 + 25 * i) h (dr i) (fl i) (op i) (mp i) (fi i) (lk i)) {nb : Nat} {dw dn : Nat → Int32} (hd : DSK h nb dw dn) {a : Nat} (ha : a < 6) (k u : Int32) (hyes : opn op (nI a) = true) (hmp : mp a = true) {td : Nat → Int32} {tl : Nat} (ht : TAB (16 + 25 * a + 13) h td tl) {tb : Nat → Nat} (htb : ∀ j, j * 4 < tl → td j = nI (tb j) ∧ tb j < nb) {q : Nat} (hqe : q = ff (fun q => decide (dw (eka tb q) = k)) tl 0) (hq : q < tl) : pz_K l L xs M_K_put 4 0 0 [.ref 0, .int (nI a), .int k, .int u, .int (pb true)] h z (fun v h' z' => v = some (.int (nI 0)) ∧ z = z' ∧ DSK h' nb (upd (upd dw (eka tb q) k) (eka tb q + 1) u) dn ∧ frm 8 11 h h') := by
  refine pz_K.of rfl (Nat.le_of_ble_eq_true rfl) ?_
  have hA := hap a ha
  have htl := ht.2.2
  change pz_E l L xs M_K_put 4 0 0 0 [some (.ref 0), some (.int (nI a)), some (.int k), some (.int u), some (.int (pb true)), none, none] [] h z _
  refine pe_aload_n d_K_put_0 rfl ?_
  refine pe_iload_n d_K_put_1 rfl ?_
  -- 2: K_isOpen
  refine pe_callV d_K_put_2 m_K_84 j_K_isOpen v_K_isOpen (c_K_isOpen hK hap _) rfl rfl (by simp [Value.category]) (by decide) hK.1 rfl rfl ?_
  intro v1 h1 z1 hq1
  obtain ⟨rfl, rfl, rfl⟩ := hq1
  change pz_E _ _ _ _ _ _ _ _ _ (_ :: _) _ _ _
  refine pe_if_eq (tgt := 20) d_K_put_5 (by decide) (fun c_5 => ?_) (fun c_5 => ?_)
  · have c_5 := pb_0.mp c_5
    exact absurd (c_5.symm.trans hyes) (by decide)
  · have c_5 := pb_n0.mp c_5
    refine pe_aload_n d_K_put_8 rfl ?_
    refine pe_getf d_K_put_9 f_K_49 hK.1 rfl ?_
    refine pe_iload_n d_K_put_12 rfl ?_
    refine pe_aaldN d_K_put_13 rfl hK.2 (by omega) (by omega) rfl ?_
    refine pe_getf d_K_put_14 f_K_218 hA rfl ?_
    refine pe_if_ne (tgt := 22) d_K_put_17 (by decide) (fun c_17 => ?_) (fun c_17 => ?_)
    · have c_17 := pb_n0.mp c_17
      refine pe_aload_n d_K_put_22 rfl ?_
      refine pe_getf d_K_put_23 f_K_49 hK.1 rfl ?_
      refine pe_iload_n d_K_put_26 rfl ?_
      refine pe_aaldN d_K_put_27 rfl hK.2 (by omega) (by omega) rfl ?_
      refine pe_getf d_K_put_28 f_K_230 hA rfl ?_
      refine pe_astore d_K_put_31 (by decide) rfl ?_
      dsimp only [List.set]
      refine pe_aload d_K_put_33 rfl ?_
      refine pe_aload_n d_K_put_35 rfl ?_
      refine pe_getf d_K_put_36 f_K_25 hK.1 rfl ?_
      refine pe_iload_n d_K_put_39 rfl ?_
      -- 40: EntryTable_placeOf
      refine pe_callV d_K_put_40 m_K_234 j_EntryTable_placeOf v_EntryTable_placeOf (c_EntryTable_placeOf ht hd htb _) rfl rfl (by simp [Value.category]) (by decide) ht.1 rfl rfl ?_
      intro v1 h1 z1 hq1
      obtain ⟨rfl, rfl, rfl⟩ := hq1
      rw [Nat.sub_zero]
      rw [← hqe, orm_lt hq]
      change pz_E _ _ _ _ _ _ _ _ _ (_ :: _) _ _ _
      refine pe_istore d_K_put_43 (by decide) rfl ?_
      dsimp only [List.set]
      refine pe_iload d_K_put_45 rfl ?_
      refine pe_iconst (v := -1) d_K_put_47 (by decide) ?_
      refine pe_icmp_ne (tgt := 73) d_K_put_48 (by decide) (fun c_48 => ?_) (fun c_48 => ?_)
      · refine pe_iload d_K_put_73 rfl ?_
        refine pe_if_eq (tgt := 94) d_K_put_75 (by decide) (fun c_75 => ?_) (fun c_75 => ?_)
        · have c_75 := pb_0.mp c_75
          exact absurd c_75 (by decide)
        · have c_75 := pb_n0.mp c_75
          refine pe_aload d_K_put_78 rfl ?_
          refine pe_aload_n d_K_put_80 rfl ?_
          refine pe_getf d_K_put_81 f_K_25 hK.1 rfl ?_
          refine pe_iload d_K_put_84 rfl ?_
          refine pe_iload_n d_K_put_86 rfl ?_
          refine pe_iload_n d_K_put_87 rfl ?_
          -- 88: EntryTable_setEntry
          refine pe_callV d_K_put_88 m_K_243 j_EntryTable_setEntry v_EntryTable_setEntry (c_EntryTable_setEntry ht hd (q := q) (by omega) (htb (q / 4) (by omega)).1 (htb (q / 4) (by omega)).2 (by omega) _ _) rfl rfl (by simp [Value.category]) (by decide) ht.1 rfl rfl ?_
          intro v1 h1 z1 hq1
          obtain ⟨rfl, rfl, hd, hf1⟩ := hq1
          change pz_E _ _ _ _ _ _ _ _ _ _ _ _ _
          refine pe_goto (tgt := 105) d_K_put_91 (by decide) ?_
          refine pe_iconst (v := nI 0) d_K_put_105 (by decide) ?_
          refine pe_iret d_K_put_106 rfl ?_
          exact ⟨rfl, rfl, hd, hf1⟩
      · exact absurd c_48 (nI_nem1 (by omega))
    · have c_17 := pb_0.mp c_17
      exact absurd (c_17.symm.trans hmp) (by decide)
set_option maxHeartbeats 4000000 in
set_option maxRecDepth 20000 in
theorem c_K_put_rem_keep {l : Launch} {L : Nat} {xs : Nat → Int32} {h : pz_H} {z : Nat} {lost : Nat} (hK : KOB h lost) {dr fl : Nat → Nat} {op mp : Nat → Bool} {fi lk : Nat → Nat} (hap : ∀ i, i < 6 → AOB (16 + 25 * i) h (dr i) (fl i) (op i) (mp i) (fi i) (lk i)) {nb : Nat} {dw dn : Nat → Int32} (hd : DSK h nb dw dn) {a : Nat} (ha : a < 6) (k u : Int32) (hyes : opn op (nI a) = true) (hmp : mp a = true) {td : Nat → Int32} {tl : Nat} (ht : TAB (16 + 25 * a + 13) h td tl) {tb : Nat → Nat} (htb : ∀ j, j * 4 < tl → td j = nI (tb j) ∧ tb j < nb) {q : Nat} (hqe : q = ff (fun q => decide (dw (eka tb q) = k)) tl 0) (hq : q < tl) (h4 : ¬ (tl - 1) % 4 = 0) : pz_K l L xs M_K_put 4 0 0 [.ref 0, .int (nI a), .int k, .int u, .int (pb false)] h z (fun v h' z' => v = some (.int (nI 0)) ∧ z = z' ∧ DSK h' nb (upd (upd dw (eka tb q) (dw (eka tb (tl - 1)))) (eka tb q + 1) (dw (eka tb (tl - 1) + 1))) dn ∧ TAB (16 + 25 * a + 13) h' td (tl - 1) ∧ fr2 8 11 (16 + 25 * a + 13) (16 + 25 * a + 13 + 2) h h') := by
  refine pz_K.of rfl (Nat.le_of_ble_eq_true rfl) ?_
  have hA := hap a ha
  have htl := ht.2.2
  change pz_E l L xs M_K_put 4 0 0 0 [some (.ref 0), some (.int (nI a)), some (.int k), some (.int u), some (.int (pb false)), none, none] [] h z _
  refine pe_aload_n d_K_put_0 rfl ?_
  refine pe_iload_n d_K_put_1 rfl ?_
  -- 2: K_isOpen
  refine pe_callV d_K_put_2 m_K_84 j_K_isOpen v_K_isOpen (c_K_isOpen hK hap _) rfl rfl (by simp [Value.category]) (by decide) hK.1 rfl rfl ?_
  intro v1 h1 z1 hq1
  obtain ⟨rfl, rfl, rfl⟩ := hq1
  change pz_E _ _ _ _ _ _ _ _ _ (_ :: _) _ _ _
  refine pe_if_eq (tgt := 20) d_K_put_5 (by decide) (fun c_5 => ?_) (fun c_5 => ?_)
  · have c_5 := pb_0.mp c_5
    exact absurd (c_5.symm.trans hyes) (by decide)
  · have c_5 := pb_n0.mp c_5
    refine pe_aload_n d_K_put_8 rfl ?_
    refine pe_getf d_K_put_9 f_K_49 hK.1 rfl ?_
    refine pe_iload_n d_K_put_12 rfl ?_
    refine pe_aaldN d_K_put_13 rfl hK.2 (by omega) (by omega) rfl ?_
    refine pe_getf d_K_put_14 f_K_218 hA rfl ?_
    refine pe_if_ne (tgt := 22) d_K_put_17 (by decide) (fun c_17 => ?_) (fun c_17 => ?_)
    · have c_17 := pb_n0.mp c_17
      refine pe_aload_n d_K_put_22 rfl ?_
      refine pe_getf d_K_put_23 f_K_49 hK.1 rfl ?_
      refine pe_iload_n d_K_put_26 rfl ?_
      refine pe_aaldN d_K_put_27 rfl hK.2 (by omega) (by omega) rfl ?_
      refine pe_getf d_K_put_28 f_K_230 hA rfl ?_
      refine pe_astore d_K_put_31 (by decide) rfl ?_
      dsimp only [List.set]
      refine pe_aload d_K_put_33 rfl ?_
      refine pe_aload_n d_K_put_35 rfl ?_
      refine pe_getf d_K_put_36 f_K_25 hK.1 rfl ?_
      refine pe_iload_n d_K_put_39 rfl ?_
      -- 40: EntryTable_placeOf
      refine pe_callV d_K_put_40 m_K_234 j_EntryTable_placeOf v_EntryTable_placeOf (c_EntryTable_placeOf ht hd htb _) rfl rfl (by simp [Value.category]) (by decide) ht.1 rfl rfl ?_
      intro v1 h1 z1 hq1
      obtain ⟨rfl, rfl, rfl⟩ := hq1
      rw [Nat.sub_zero]
      rw [← hqe, orm_lt hq]
      change pz_E _ _ _ _ _ _ _ _ _ (_ :: _) _ _ _
      refine pe_istore d_K_put_43 (by decide) rfl ?_
      dsimp only [List.set]
      refine pe_iload d_K_put_45 rfl ?_
      refine pe_iconst (v := -1) d_K_put_47 (by decide) ?_
      refine pe_icmp_ne (tgt := 73) d_K_put_48 (by decide) (fun c_48 => ?_) (fun c_48 => ?_)
      · refine pe_iload d_K_put_73 rfl ?_
        refine pe_if_eq (tgt := 94) d_K_put_75 (by decide) (fun c_75 => ?_) (fun c_75 => ?_)
        · have c_75 := pb_0.mp c_75
          refine pe_aload d_K_put_94 rfl ?_
          refine pe_aload_n d_K_put_96 rfl ?_
          refine pe_getf d_K_put_97 f_K_25 hK.1 rfl ?_
          refine pe_iload d_K_put_100 rfl ?_
          -- 102: EntryTable_removeAt
          refine pe_callV d_K_put_102 m_K_247 j_EntryTable_removeAt v_EntryTable_removeAt (c_EntryTable_removeAt_keep ht hd htb hq h4 (by omega)) rfl rfl (by simp [Value.category]) (by decide) ht.1 rfl rfl ?_
          intro v1 h1 z1 hq1
          obtain ⟨rfl, rfl, hd, ht, hf1⟩ := hq1
          change pz_E _ _ _ _ _ _ _ _ _ _ _ _ _
          refine pe_iconst (v := nI 0) d_K_put_105 (by decide) ?_
          refine pe_iret d_K_put_106 rfl ?_
          exact ⟨rfl, rfl, hd, ht, hf1⟩
        · have c_75 := pb_n0.mp c_75
          exact absurd c_75 (by decide)
      · exact absurd c_48 (nI_nem1 (by omega))
    · have c_17 := pb_0.mp c_17
      exact absurd (c_17.symm.trans hmp) (by decide)
set_option maxHeartbeats 4000000 in
set_option maxRecDepth 20000 in
theorem c_K_put_rem_free {l : Launch} {L : Nat} {xs : Nat → Int32} {h : pz_H} {z : Nat} {lost : Nat} (hK : KOB h lost) {dr fl : Nat → Nat} {op mp : Nat → Bool} {fi lk : Nat → Nat} (hap : ∀ i, i < 6 → AOB (16 + 25 * i) h (dr i) (fl i) (op i) (mp i) (fi i) (lk i)) {nb : Nat} {dw dn : Nat → Int32} (hd : DSK h nb dw dn) {a : Nat} (ha : a < 6) (k u : Int32) (hyes : opn op (nI a) = true) (hmp : mp a = true) {td : Nat → Int32} {tl : Nat} (ht : TAB (16 + 25 * a + 13) h td tl) {tb : Nat → Nat} (htb : ∀ j, j * 4 < tl → td j = nI (tb j) ∧ tb j < nb) {q : Nat} (hqe : q = ff (fun q => decide (dw (eka tb q) = k)) tl 0) (hq : q < tl) (h4 : (tl - 1) % 4 = 0) : pz_K l L xs M_K_put 4 0 0 [.ref 0, .int (nI a), .int k, .int u, .int (pb false)] h z (fun v h' z' => v = some (.int (nI 0)) ∧ z = z' ∧ DSK h' nb (upd (upd dw (eka tb q) (dw (eka tb (tl - 1)))) (eka tb q + 1) (dw (eka tb (tl - 1) + 1))) (upd dn (tb ((tl - 1) / 4)) (-1)) ∧ TAB (16 + 25 * a + 13) h' td (tl - 1) ∧ fr2 8 11 (16 + 25 * a + 13) (16 + 25 * a + 13 + 2) h h') := by
  refine pz_K.of rfl (Nat.le_of_ble_eq_true rfl) ?_
  have hA := hap a ha
  have htl := ht.2.2
  change pz_E l L xs M_K_put 4 0 0 0 [some (.ref 0), some (.int (nI a)), some (.int k), some (.int u), some (.int (pb false)), none, none] [] h z _
  refine pe_aload_n d_K_put_0 rfl ?_
  refine pe_iload_n d_K_put_1 rfl ?_
  -- 2: K_isOpen
  refine pe_callV d_K_put_2 m_K_84 j_K_isOpen v_K_isOpen (c_K_isOpen hK hap _) rfl rfl (by simp [Value.category]) (by decide) hK.1 rfl rfl ?_
  intro v1 h1 z1 hq1
  obtain ⟨rfl, rfl, rfl⟩ := hq1
  change pz_E _ _ _ _ _ _ _ _ _ (_ :: _) _ _ _
  refine pe_if_eq (tgt := 20) d_K_put_5 (by decide) (fun c_5 => ?_) (fun c_5 => ?_)
  · have c_5 := pb_0.mp c_5
    exact absurd (c_5.symm.trans hyes) (by decide)
  · have c_5 := pb_n0.mp c_5
    refine pe_aload_n d_K_put_8 rfl ?_
    refine pe_getf d_K_put_9 f_K_49 hK.1 rfl ?_
    refine pe_iload_n d_K_put_12 rfl ?_
    refine pe_aaldN d_K_put_13 rfl hK.2 (by omega) (by omega) rfl ?_
    refine pe_getf d_K_put_14 f_K_218 hA rfl ?_
    refine pe_if_ne (tgt := 22) d_K_put_17 (by decide) (fun c_17 => ?_) (fun c_17 => ?_)
    · have c_17 := pb_n0.mp c_17
      refine pe_aload_n d_K_put_22 rfl ?_
      refine pe_getf d_K_put_23 f_K_49 hK.1 rfl ?_
      refine pe_iload_n d_K_put_26 rfl ?_
      refine pe_aaldN d_K_put_27 rfl hK.2 (by omega) (by omega) rfl ?_
      refine pe_getf d_K_put_28 f_K_230 hA rfl ?_
      refine pe_astore d_K_put_31 (by decide) rfl ?_
      dsimp only [List.set]
      refine pe_aload d_K_put_33 rfl ?_
      refine pe_aload_n d_K_put_35 rfl ?_
      refine pe_getf d_K_put_36 f_K_25 hK.1 rfl ?_
      refine pe_iload_n d_K_put_39 rfl ?_
      -- 40: EntryTable_placeOf
      refine pe_callV d_K_put_40 m_K_234 j_EntryTable_placeOf v_EntryTable_placeOf (c_EntryTable_placeOf ht hd htb _) rfl rfl (by simp [Value.category]) (by decide) ht.1 rfl rfl ?_
      intro v1 h1 z1 hq1
      obtain ⟨rfl, rfl, rfl⟩ := hq1
      rw [Nat.sub_zero]
      rw [← hqe, orm_lt hq]
      change pz_E _ _ _ _ _ _ _ _ _ (_ :: _) _ _ _
      refine pe_istore d_K_put_43 (by decide) rfl ?_
      dsimp only [List.set]
      refine pe_iload d_K_put_45 rfl ?_
      refine pe_iconst (v := -1) d_K_put_47 (by decide) ?_
      refine pe_icmp_ne (tgt := 73) d_K_put_48 (by decide) (fun c_48 => ?_) (fun c_48 => ?_)
      · refine pe_iload d_K_put_73 rfl ?_
        refine pe_if_eq (tgt := 94) d_K_put_75 (by decide) (fun c_75 => ?_) (fun c_75 => ?_)
        · have c_75 := pb_0.mp c_75
          refine pe_aload d_K_put_94 rfl ?_
          refine pe_aload_n d_K_put_96 rfl ?_
          refine pe_getf d_K_put_97 f_K_25 hK.1 rfl ?_
          refine pe_iload d_K_put_100 rfl ?_
          -- 102: EntryTable_removeAt
          refine pe_callV d_K_put_102 m_K_247 j_EntryTable_removeAt v_EntryTable_removeAt (c_EntryTable_removeAt_free ht hd htb hq h4 (by omega)) rfl rfl (by simp [Value.category]) (by decide) ht.1 rfl rfl ?_
          intro v1 h1 z1 hq1
          obtain ⟨rfl, rfl, hd, ht, hf1⟩ := hq1
          change pz_E _ _ _ _ _ _ _ _ _ _ _ _ _
          refine pe_iconst (v := nI 0) d_K_put_105 (by decide) ?_
          refine pe_iret d_K_put_106 rfl ?_
          exact ⟨rfl, rfl, hd, ht, hf1⟩
        · have c_75 := pb_n0.mp c_75
          exact absurd c_75 (by decide)
      · exact absurd c_48 (nI_nem1 (by omega))
    · have c_17 := pb_0.mp c_17
      exact absurd (c_17.symm.trans hmp) (by decide)
set_option maxHeartbeats 4000000 in
set_option maxRecDepth 20000 in
theorem c_K_get_no {l : Launch} {L : Nat} {xs : Nat → Int32} {h : pz_H} {z : Nat} {lost : Nat} (hK : KOB h lost) {dr fl : Nat → Nat} {op mp : Nat → Bool} {fi lk : Nat → Nat} (hap : ∀ i, i < 6 → AOB (16 + 25 * i) h (dr i) (fl i) (op i) (mp i) (fi i) (lk i)) (x k : Int32) (hno : opn op x = false) : pz_K l L xs M_K_get 4 0 0 [.ref 0, .int x, .int k] h z (fun v h' z' => v = some (.long 1000000000000) ∧ h = h' ∧ z = z') := by
  refine pz_K.of rfl (Nat.le_of_ble_eq_true rfl) ?_
  change pz_E l L xs M_K_get 4 0 0 0 [some (.ref 0), some (.int x), some (.int k), none] [] h z _
  refine pe_aload_n d_K_get_0 rfl ?_
  refine pe_iload_n d_K_get_1 rfl ?_
  -- 2: K_isOpen
  refine pe_callV d_K_get_2 m_K_84 j_K_isOpen v_K_isOpen (c_K_isOpen hK hap _) rfl rfl (by simp [Value.category]) (by decide) hK.1 rfl rfl ?_
  intro v1 h1 z1 hq1
  obtain ⟨rfl, rfl, rfl⟩ := hq1
  change pz_E _ _ _ _ _ _ _ _ _ (_ :: _) _ _ _
  refine pe_if_ne (tgt := 12) d_K_get_5 (by decide) (fun c_5 => ?_) (fun c_5 => ?_)
  · have c_5 := pb_n0.mp c_5
    exact absurd (c_5.symm.trans hno) (by decide)
  · have c_5 := pb_0.mp c_5
    refine pe_ldc2 d_K_get_8 z_K_123 ?_
    refine pe_lret d_K_get_11 rfl ?_
    exact ⟨rfl, rfl, rfl⟩
set_option maxHeartbeats 4000000 in
set_option maxRecDepth 20000 in
theorem c_K_get_nf {l : Launch} {L : Nat} {xs : Nat → Int32} {h : pz_H} {z : Nat} {lost : Nat} (hK : KOB h lost) {dr fl : Nat → Nat} {op mp : Nat → Bool} {fi lk : Nat → Nat} (hap : ∀ i, i < 6 → AOB (16 + 25 * i) h (dr i) (fl i) (op i) (mp i) (fi i) (lk i)) {nb : Nat} {dw dn : Nat → Int32} (hd : DSK h nb dw dn) {a : Nat} (ha : a < 6) (k : Int32) (hyes : opn op (nI a) = true) (hmp : mp a = true) {td : Nat → Int32} {tl : Nat} (ht : TAB (16 + 25 * a + 13) h td tl) {tb : Nat → Nat} (htb : ∀ j, j * 4 < tl → td j = nI (tb j) ∧ tb j < nb) (hnf : ¬ ff (fun q => decide (dw (eka tb q) = k)) tl 0 < tl) : pz_K l L xs M_K_get 4 0 0 [.ref 0, .int (nI a), .int k] h z (fun v h' z' => v = some (.long 1000000000000) ∧ h = h' ∧ z = z') := by
  refine pz_K.of rfl (Nat.le_of_ble_eq_true rfl) ?_
  have hA := hap a ha
  have htl := ht.2.2
  change pz_E l L xs M_K_get 4 0 0 0 [some (.ref 0), some (.int (nI a)), some (.int k), none] [] h z _
  refine pe_aload_n d_K_get_0 rfl ?_
  refine pe_iload_n d_K_get_1 rfl ?_
  -- 2: K_isOpen
  refine pe_callV d_K_get_2 m_K_84 j_K_isOpen v_K_isOpen (c_K_isOpen hK hap _) rfl rfl (by simp [Value.category]) (by decide) hK.1 rfl rfl ?_
  intro v1 h1 z1 hq1
  obtain ⟨rfl, rfl, rfl⟩ := hq1
  change pz_E _ _ _ _ _ _ _ _ _ (_ :: _) _ _ _
  refine pe_if_ne (tgt := 12) d_K_get_5 (by decide) (fun c_5 => ?_) (fun c_5 => ?_)
  · have c_5 := pb_n0.mp c_5
    refine pe_aload_n d_K_get_12 rfl ?_
    refine pe_getf d_K_get_13 f_K_49 hK.1 rfl ?_
    refine pe_iload_n d_K_get_16 rfl ?_
    refine pe_aaldN d_K_get_17 rfl hK.2 (by omega) (by omega) rfl ?_
    refine pe_getf d_K_get_18 f_K_218 hA rfl ?_
    refine pe_if_eq (tgt := 72) d_K_get_21 (by decide) (fun c_21 => ?_) (fun c_21 => ?_)
    · have c_21 := pb_0.mp c_21
      exact absurd (c_21.symm.trans hmp) (by decide)
    · have c_21 := pb_n0.mp c_21
      refine pe_aload_n d_K_get_24 rfl ?_
      refine pe_getf d_K_get_25 f_K_49 hK.1 rfl ?_
      refine pe_iload_n d_K_get_28 rfl ?_
      refine pe_aaldN d_K_get_29 rfl hK.2 (by omega) (by omega) rfl ?_
      refine pe_getf d_K_get_30 f_K_230 hA rfl ?_
      refine pe_aload_n d_K_get_33 rfl ?_
      refine pe_getf d_K_get_34 f_K_25 hK.1 rfl ?_
      refine pe_iload_n d_K_get_37 rfl ?_
      -- 38: EntryTable_placeOf
      refine pe_callV d_K_get_38 m_K_234 j_EntryTable_placeOf v_EntryTable_placeOf (c_EntryTable_placeOf ht hd htb _) rfl rfl (by simp [Value.category]) (by decide) ht.1 rfl rfl ?_
      intro v1 h1 z1 hq1
      obtain ⟨rfl, rfl, rfl⟩ := hq1
      rw [Nat.sub_zero]
      rw [orm_ge hnf]
      change pz_E _ _ _ _ _ _ _ _ _ (_ :: _) _ _ _
      refine pe_istore_n d_K_get_41 (by decide) rfl ?_
      dsimp only [List.set]
      refine pe_iload_n d_K_get_42 rfl ?_
      refine pe_iconst (v := -1) d_K_get_43 (by decide) ?_
      refine pe_icmp_ne (tgt := 53) d_K_get_44 (by decide) (fun c_44 => ?_) (fun c_44 => ?_)
      · exact absurd rfl c_44
      · refine pe_ldc2 d_K_get_47 z_K_123 ?_
        refine pe_goto (tgt := 71) d_K_get_50 (by decide) ?_
        refine pe_lret d_K_get_71 rfl ?_
        exact ⟨rfl, rfl, rfl⟩
  · have c_5 := pb_0.mp c_5
    exact absurd (c_5.symm.trans hyes) (by decide)
set_option maxHeartbeats 4000000 in
set_option maxRecDepth 20000 in
theorem c_K_get_fd {l : Launch} {L : Nat} {xs : Nat → Int32} {h : pz_H} {z : Nat} {lost : Nat} (hK : KOB h lost) {dr fl : Nat → Nat} {op mp : Nat → Bool} {fi lk : Nat → Nat} (hap : ∀ i, i < 6 → AOB (16 + 25 * i) h (dr i) (fl i) (op i) (mp i) (fi i) (lk i)) {nb : Nat} {dw dn : Nat → Int32} (hd : DSK h nb dw dn) {a : Nat} (ha : a < 6) (k : Int32) (hyes : opn op (nI a) = true) (hmp : mp a = true) {td : Nat → Int32} {tl : Nat} (ht : TAB (16 + 25 * a + 13) h td tl) {tb : Nat → Nat} (htb : ∀ j, j * 4 < tl → td j = nI (tb j) ∧ tb j < nb) {q : Nat} (hqe : q = ff (fun q => decide (dw (eka tb q) = k)) tl 0) (hq : q < tl) : pz_K l L xs M_K_get 4 0 0 [.ref 0, .int (nI a), .int k] h z (fun v h' z' => v = some (.long (dw (eka tb q + 1)).toInt64) ∧ h = h' ∧ z = z') := by
  refine pz_K.of rfl (Nat.le_of_ble_eq_true rfl) ?_
  have hA := hap a ha
  have htl := ht.2.2
  change pz_E l L xs M_K_get 4 0 0 0 [some (.ref 0), some (.int (nI a)), some (.int k), none] [] h z _
  refine pe_aload_n d_K_get_0 rfl ?_
  refine pe_iload_n d_K_get_1 rfl ?_
  -- 2: K_isOpen
  refine pe_callV d_K_get_2 m_K_84 j_K_isOpen v_K_isOpen (c_K_isOpen hK hap _) rfl rfl (by simp [Value.category]) (by decide) hK.1 rfl rfl ?_
  intro v1 h1 z1 hq1
  obtain ⟨rfl, rfl, rfl⟩ := hq1
  change pz_E _ _ _ _ _ _ _ _ _ (_ :: _) _ _ _
  refine pe_if_ne (tgt := 12) d_K_get_5 (by decide) (fun c_5 => ?_) (fun c_5 => ?_)
  · have c_5 := pb_n0.mp c_5
    refine pe_aload_n d_K_get_12 rfl ?_
    refine pe_getf d_K_get_13 f_K_49 hK.1 rfl ?_
    refine pe_iload_n d_K_get_16 rfl ?_
    refine pe_aaldN d_K_get_17 rfl hK.2 (by omega) (by omega) rfl ?_
    refine pe_getf d_K_get_18 f_K_218 hA rfl ?_
    refine pe_if_eq (tgt := 72) d_K_get_21 (by decide) (fun c_21 => ?_) (fun c_21 => ?_)
    · have c_21 := pb_0.mp c_21
      exact absurd (c_21.symm.trans hmp) (by decide)
    · have c_21 := pb_n0.mp c_21
      refine pe_aload_n d_K_get_24 rfl ?_
      refine pe_getf d_K_get_25 f_K_49 hK.1 rfl ?_
      refine pe_iload_n d_K_get_28 rfl ?_
      refine pe_aaldN d_K_get_29 rfl hK.2 (by omega) (by omega) rfl ?_
      refine pe_getf d_K_get_30 f_K_230 hA rfl ?_
      refine pe_aload_n d_K_get_33 rfl ?_
      refine pe_getf d_K_get_34 f_K_25 hK.1 rfl ?_
      refine pe_iload_n d_K_get_37 rfl ?_
      -- 38: EntryTable_placeOf
      refine pe_callV d_K_get_38 m_K_234 j_EntryTable_placeOf v_EntryTable_placeOf (c_EntryTable_placeOf ht hd htb _) rfl rfl (by simp [Value.category]) (by decide) ht.1 rfl rfl ?_
      intro v1 h1 z1 hq1
      obtain ⟨rfl, rfl, rfl⟩ := hq1
      rw [Nat.sub_zero]
      rw [← hqe, orm_lt hq]
      change pz_E _ _ _ _ _ _ _ _ _ (_ :: _) _ _ _
      refine pe_istore_n d_K_get_41 (by decide) rfl ?_
      dsimp only [List.set]
      refine pe_iload_n d_K_get_42 rfl ?_
      refine pe_iconst (v := -1) d_K_get_43 (by decide) ?_
      refine pe_icmp_ne (tgt := 53) d_K_get_44 (by decide) (fun c_44 => ?_) (fun c_44 => ?_)
      · refine pe_aload_n d_K_get_53 rfl ?_
        refine pe_getf d_K_get_54 f_K_49 hK.1 rfl ?_
        refine pe_iload_n d_K_get_57 rfl ?_
        refine pe_aaldN d_K_get_58 rfl hK.2 (by omega) (by omega) rfl ?_
        refine pe_getf d_K_get_59 f_K_230 hA rfl ?_
        refine pe_aload_n d_K_get_62 rfl ?_
        refine pe_getf d_K_get_63 f_K_25 hK.1 rfl ?_
        refine pe_iload_n d_K_get_66 rfl ?_
        -- 67: EntryTable_valueAt
        refine pe_callV d_K_get_67 m_K_251 j_EntryTable_valueAt v_EntryTable_valueAt (c_EntryTable_valueAt ht hd (q := q) (by omega) (htb (q / 4) (by omega)).1 (htb (q / 4) (by omega)).2) rfl rfl (by simp [Value.category]) (by decide) ht.1 rfl rfl ?_
        intro v1 h1 z1 hq1
        obtain ⟨rfl, rfl, rfl⟩ := hq1
        change pz_E _ _ _ _ _ _ _ _ _ (_ :: _) _ _ _
        refine pe_i2l d_K_get_70 ?_
        refine pe_lret d_K_get_71 rfl ?_
        exact ⟨rfl, rfl, rfl⟩
      · exact absurd c_44 (nI_nem1 (by omega))
  · have c_5 := pb_0.mp c_5
    exact absurd (c_5.symm.trans hyes) (by decide)
set_option maxHeartbeats 4000000 in
set_option maxRecDepth 20000 in
theorem c_K_get_out {l : Launch} {L : Nat} {xs : Nat → Int32} {h : pz_H} {z : Nat} {lost : Nat} (hK : KOB h lost) {dr fl : Nat → Nat} {op mp : Nat → Bool} {fi lk : Nat → Nat} (hap : ∀ i, i < 6 → AOB (16 + 25 * i) h (dr i) (fl i) (op i) (mp i) (fi i) (lk i)) {nb : Nat} {dw dn : Nat → Int32} (hd : DSK h nb dw dn) {a : Nat} (ha : a < 6) (k : Int32) (hyes : opn op (nI a) = true) (hmp : mp a = false) (hno : inn (fdv k (nI 8)) nb = false) : pz_K l L xs M_K_get 4 0 0 [.ref 0, .int (nI a), .int k] h z (fun v h' z' => v = some (.long 1000000000000) ∧ h = h' ∧ z = z') := by
  refine pz_K.of rfl (Nat.le_of_ble_eq_true rfl) ?_
  have hA := hap a ha
  change pz_E l L xs M_K_get 4 0 0 0 [some (.ref 0), some (.int (nI a)), some (.int k), none] [] h z _
  refine pe_aload_n d_K_get_0 rfl ?_
  refine pe_iload_n d_K_get_1 rfl ?_
  -- 2: K_isOpen
  refine pe_callV d_K_get_2 m_K_84 j_K_isOpen v_K_isOpen (c_K_isOpen hK hap _) rfl rfl (by simp [Value.category]) (by decide) hK.1 rfl rfl ?_
  intro v1 h1 z1 hq1
  obtain ⟨rfl, rfl, rfl⟩ := hq1
  change pz_E _ _ _ _ _ _ _ _ _ (_ :: _) _ _ _
  refine pe_if_ne (tgt := 12) d_K_get_5 (by decide) (fun c_5 => ?_) (fun c_5 => ?_)
  · have c_5 := pb_n0.mp c_5
    refine pe_aload_n d_K_get_12 rfl ?_
    refine pe_getf d_K_get_13 f_K_49 hK.1 rfl ?_
    refine pe_iload_n d_K_get_16 rfl ?_
    refine pe_aaldN d_K_get_17 rfl hK.2 (by omega) (by omega) rfl ?_
    refine pe_getf d_K_get_18 f_K_218 hA rfl ?_
    refine pe_if_eq (tgt := 72) d_K_get_21 (by decide) (fun c_21 => ?_) (fun c_21 => ?_)
    · have c_21 := pb_0.mp c_21
      refine pe_iload_n d_K_get_72 rfl ?_
      refine pe_bipush (v := nI 8) d_K_get_73 (by decide) ?_
      -- 75: Math_floorDiv
      refine pe_callS d_K_get_75 m_K_254 s_Math_floorDiv (c_Math_floorDiv _ _ (by decide)) rfl rfl (by simp [Value.category]) (by decide) ?_
      intro v1 h1 z1 hq1
      obtain ⟨rfl, rfl, rfl⟩ := hq1
      change pz_E _ _ _ _ _ _ _ _ _ (_ :: _) _ _ _
      refine pe_istore_n d_K_get_78 (by decide) rfl ?_
      dsimp only [List.set]
      refine pe_aload_n d_K_get_79 rfl ?_
      refine pe_getf d_K_get_80 f_K_25 hK.1 rfl ?_
      refine pe_iload_n d_K_get_83 rfl ?_
      -- 84: Disk_hasBlock
      refine pe_callV d_K_get_84 m_K_215 j_Disk_hasBlock v_Disk_hasBlock (c_Disk_hasBlock hd _) rfl rfl (by simp [Value.category]) (by decide) hd.1 rfl rfl ?_
      intro v1 h1 z1 hq1
      obtain ⟨rfl, rfl, rfl⟩ := hq1
      change pz_E _ _ _ _ _ _ _ _ _ (_ :: _) _ _ _
      refine pe_if_eq (tgt := 102) d_K_get_87 (by decide) (fun c_87 => ?_) (fun c_87 => ?_)
      · have c_87 := pb_0.mp c_87
        refine pe_ldc2 d_K_get_102 z_K_123 ?_
        refine pe_lret d_K_get_105 rfl ?_
        exact ⟨rfl, rfl, rfl⟩
      · have c_87 := pb_n0.mp c_87
        exact absurd (c_87.symm.trans hno) (by decide)
    · have c_21 := pb_n0.mp c_21
      exact absurd (c_21.symm.trans hmp) (by decide)
  · have c_5 := pb_0.mp c_5
    exact absurd (c_5.symm.trans hyes) (by decide)
theorem fdv_N {k : Nat} (hk : k < 2147483648) : fdv (nI k) (nI 8) = nI (k / 8) := by
  unfold fdv
  rw [nI_div hk (by decide)]
  refine if_neg (fun q => ?_)
  apply q.1
  obtain ⟨j, hj⟩ : ∃ j : Nat, nI k ^^^ nI 8 = nI j ∧ j < 2147483648 := by
    refine ⟨k ^^^ 8, ?_, ?_⟩
    · apply Int32.toBitVec_inj.mp
      show (BitVec.ofNat 32 k) ^^^ (BitVec.ofNat 32 8) = BitVec.ofNat 32 (k ^^^ 8)
      rw [BitVec.ofNat_xor]
    · exact Nat.xor_lt_two_pow (n := 31) hk (by decide)
  rw [hj.1]
  exact nI_pos' hj.2
theorem fmd_N {k : Nat} (hk : k < 2147483648) : fmd (nI k) (nI 8) = nI (k % 8) := by
  unfold fmd
  rw [nI_rem hk (by decide)]
  refine if_neg (fun q => ?_)
  apply q.1
  obtain ⟨j, hj⟩ : ∃ j : Nat, nI k ^^^ nI 8 = nI j ∧ j < 2147483648 := by
    refine ⟨k ^^^ 8, ?_, ?_⟩
    · apply Int32.toBitVec_inj.mp
      show (BitVec.ofNat 32 k) ^^^ (BitVec.ofNat 32 8) = BitVec.ofNat 32 (k ^^^ 8)
      rw [BitVec.ofNat_xor]
    · exact Nat.xor_lt_two_pow (n := 31) hk (by decide)
  rw [hj.1]
  exact nI_pos' hj.2
set_option maxHeartbeats 4000000 in
set_option maxRecDepth 20000 in
theorem c_K_get_other {l : Launch} {L : Nat} {xs : Nat → Int32} {h : pz_H} {z : Nat} {lost : Nat} (hK : KOB h lost) {dr fl : Nat → Nat} {op mp : Nat → Bool} {fi lk : Nat → Nat} (hap : ∀ i, i < 6 → AOB (16 + 25 * i) h (dr i) (fl i) (op i) (mp i) (fi i) (lk i)) {nb : Nat} {dw dn : Nat → Int32} (hd : DSK h nb dw dn) {a : Nat} (ha : a < 6) {k : Nat} (hk : k < nb * 8) (hyes : opn op (nI a) = true) (hmp : mp a = false) (how : ¬ dn (k / 8) = nI a) : pz_K l L xs M_K_get 4 0 0 [.ref 0, .int (nI a), .int (nI k)] h z (fun v h' z' => v = some (.long 1000000000000) ∧ h = h' ∧ z = z') := by
  refine pz_K.of rfl (Nat.le_of_ble_eq_true rfl) ?_
  have hA := hap a ha
  have hb2 := hd.2.2.2.2
  change pz_E l L xs M_K_get 4 0 0 0 [some (.ref 0), some (.int (nI a)), some (.int (nI k)), none] [] h z _
  refine pe_aload_n d_K_get_0 rfl ?_
  refine pe_iload_n d_K_get_1 rfl ?_
  -- 2: K_isOpen
  refine pe_callV d_K_get_2 m_K_84 j_K_isOpen v_K_isOpen (c_K_isOpen hK hap _) rfl rfl (by simp [Value.category]) (by decide) hK.1 rfl rfl ?_
  intro v1 h1 z1 hq1
  obtain ⟨rfl, rfl, rfl⟩ := hq1
  change pz_E _ _ _ _ _ _ _ _ _ (_ :: _) _ _ _
  refine pe_if_ne (tgt := 12) d_K_get_5 (by decide) (fun c_5 => ?_) (fun c_5 => ?_)
  · have c_5 := pb_n0.mp c_5
    refine pe_aload_n d_K_get_12 rfl ?_
    refine pe_getf d_K_get_13 f_K_49 hK.1 rfl ?_
    refine pe_iload_n d_K_get_16 rfl ?_
    refine pe_aaldN d_K_get_17 rfl hK.2 (by omega) (by omega) rfl ?_
    refine pe_getf d_K_get_18 f_K_218 hA rfl ?_
    refine pe_if_eq (tgt := 72) d_K_get_21 (by decide) (fun c_21 => ?_) (fun c_21 => ?_)
    · have c_21 := pb_0.mp c_21
      refine pe_iload_n d_K_get_72 rfl ?_
      refine pe_bipush (v := nI 8) d_K_get_73 (by decide) ?_
      -- 75: Math_floorDiv
      refine pe_callS d_K_get_75 m_K_254 s_Math_floorDiv (c_Math_floorDiv _ _ (by decide)) rfl rfl (by simp [Value.category]) (by decide) ?_
      intro v1 h1 z1 hq1
      obtain ⟨rfl, rfl, rfl⟩ := hq1
      rw [fdv_N (by omega)]
      change pz_E _ _ _ _ _ _ _ _ _ (_ :: _) _ _ _
      refine pe_istore_n d_K_get_78 (by decide) rfl ?_
      dsimp only [List.set]
      refine pe_aload_n d_K_get_79 rfl ?_
      refine pe_getf d_K_get_80 f_K_25 hK.1 rfl ?_
      refine pe_iload_n d_K_get_83 rfl ?_
      -- 84: Disk_hasBlock
      refine pe_callV d_K_get_84 m_K_215 j_Disk_hasBlock v_Disk_hasBlock (c_Disk_hasBlock hd _) rfl rfl (by simp [Value.category]) (by decide) hd.1 rfl rfl ?_
      intro v1 h1 z1 hq1
      obtain ⟨rfl, rfl, rfl⟩ := hq1
      change pz_E _ _ _ _ _ _ _ _ _ (_ :: _) _ _ _
      refine pe_if_eq (tgt := 102) d_K_get_87 (by decide) (fun c_87 => ?_) (fun c_87 => ?_)
      · have c_87 := pb_0.mp c_87
        exact absurd (c_87.symm.trans (inn_y (by omega) (by omega))) (by decide)
      · have c_87 := pb_n0.mp c_87
        refine pe_aload_n d_K_get_90 rfl ?_
        refine pe_getf d_K_get_91 f_K_25 hK.1 rfl ?_
        refine pe_iload_n d_K_get_94 rfl ?_
        -- 95: Disk_ownerOf
        refine pe_callV d_K_get_95 m_K_221 j_Disk_ownerOf v_Disk_ownerOf (c_Disk_ownerOf hd (by omega)) rfl rfl (by simp [Value.category]) (by decide) hd.1 rfl rfl ?_
        intro v1 h1 z1 hq1
        obtain ⟨rfl, rfl, rfl⟩ := hq1
        change pz_E _ _ _ _ _ _ _ _ _ (_ :: _) _ _ _
        refine pe_iload_n d_K_get_98 rfl ?_
        refine pe_icmp_eq (tgt := 106) d_K_get_99 (by decide) (fun c_99 => ?_) (fun c_99 => ?_)
        · exact absurd c_99 how
        · refine pe_ldc2 d_K_get_102 z_K_123 ?_
          refine pe_lret d_K_get_105 rfl ?_
          exact ⟨rfl, rfl, rfl⟩
    · have c_21 := pb_n0.mp c_21
      exact absurd (c_21.symm.trans hmp) (by decide)
  · have c_5 := pb_0.mp c_5
    exact absurd (c_5.symm.trans hyes) (by decide)
set_option maxHeartbeats 4000000 in
set_option maxRecDepth 20000 in
theorem c_K_get_raw {l : Launch} {L : Nat} {xs : Nat → Int32} {h : pz_H} {z : Nat} {lost : Nat} (hK : KOB h lost) {dr fl : Nat → Nat} {op mp : Nat → Bool} {fi lk : Nat → Nat} (hap : ∀ i, i < 6 → AOB (16 + 25 * i) h (dr i) (fl i) (op i) (mp i) (fi i) (lk i)) {nb : Nat} {dw dn : Nat → Int32} (hd : DSK h nb dw dn) {a : Nat} (ha : a < 6) {k : Nat} (hk : k < nb * 8) (hyes : opn op (nI a) = true) (hmp : mp a = false) (how : dn (k / 8) = nI a) : pz_K l L xs M_K_get 4 0 0 [.ref 0, .int (nI a), .int (nI k)] h z (fun v h' z' => v = some (.long (dw (k / 8 * 8 + k % 8)).toInt64) ∧ h = h' ∧ z = z') := by
  refine pz_K.of rfl (Nat.le_of_ble_eq_true rfl) ?_
  have hA := hap a ha
  have hb2 := hd.2.2.2.2
  change pz_E l L xs M_K_get 4 0 0 0 [some (.ref 0), some (.int (nI a)), some (.int (nI k)), none] [] h z _
  refine pe_aload_n d_K_get_0 rfl ?_
  refine pe_iload_n d_K_get_1 rfl ?_
  -- 2: K_isOpen
  refine pe_callV d_K_get_2 m_K_84 j_K_isOpen v_K_isOpen (c_K_isOpen hK hap _) rfl rfl (by simp [Value.category]) (by decide) hK.1 rfl rfl ?_
  intro v1 h1 z1 hq1
  obtain ⟨rfl, rfl, rfl⟩ := hq1
  change pz_E _ _ _ _ _ _ _ _ _ (_ :: _) _ _ _
  refine pe_if_ne (tgt := 12) d_K_get_5 (by decide) (fun c_5 => ?_) (fun c_5 => ?_)
  · have c_5 := pb_n0.mp c_5
    refine pe_aload_n d_K_get_12 rfl ?_
    refine pe_getf d_K_get_13 f_K_49 hK.1 rfl ?_
    refine pe_iload_n d_K_get_16 rfl ?_
    refine pe_aaldN d_K_get_17 rfl hK.2 (by omega) (by omega) rfl ?_
    refine pe_getf d_K_get_18 f_K_218 hA rfl ?_
    refine pe_if_eq (tgt := 72) d_K_get_21 (by decide) (fun c_21 => ?_) (fun c_21 => ?_)
    · have c_21 := pb_0.mp c_21
      refine pe_iload_n d_K_get_72 rfl ?_
      refine pe_bipush (v := nI 8) d_K_get_73 (by decide) ?_
      -- 75: Math_floorDiv
      refine pe_callS d_K_get_75 m_K_254 s_Math_floorDiv (c_Math_floorDiv _ _ (by decide)) rfl rfl (by simp [Value.category]) (by decide) ?_
      intro v1 h1 z1 hq1
      obtain ⟨rfl, rfl, rfl⟩ := hq1
      rw [fdv_N (by omega)]
      change pz_E _ _ _ _ _ _ _ _ _ (_ :: _) _ _ _
      refine pe_istore_n d_K_get_78 (by decide) rfl ?_
      dsimp only [List.set]
      refine pe_aload_n d_K_get_79 rfl ?_
      refine pe_getf d_K_get_80 f_K_25 hK.1 rfl ?_
      refine pe_iload_n d_K_get_83 rfl ?_
      -- 84: Disk_hasBlock
      refine pe_callV d_K_get_84 m_K_215 j_Disk_hasBlock v_Disk_hasBlock (c_Disk_hasBlock hd _) rfl rfl (by simp [Value.category]) (by decide) hd.1 rfl rfl ?_
      intro v1 h1 z1 hq1
      obtain ⟨rfl, rfl, rfl⟩ := hq1
      change pz_E _ _ _ _ _ _ _ _ _ (_ :: _) _ _ _
      refine pe_if_eq (tgt := 102) d_K_get_87 (by decide) (fun c_87 => ?_) (fun c_87 => ?_)
      · have c_87 := pb_0.mp c_87
        exact absurd (c_87.symm.trans (inn_y (by omega) (by omega))) (by decide)
      · have c_87 := pb_n0.mp c_87
        refine pe_aload_n d_K_get_90 rfl ?_
        refine pe_getf d_K_get_91 f_K_25 hK.1 rfl ?_
        refine pe_iload_n d_K_get_94 rfl ?_
        -- 95: Disk_ownerOf
        refine pe_callV d_K_get_95 m_K_221 j_Disk_ownerOf v_Disk_ownerOf (c_Disk_ownerOf hd (by omega)) rfl rfl (by simp [Value.category]) (by decide) hd.1 rfl rfl ?_
        intro v1 h1 z1 hq1
        obtain ⟨rfl, rfl, rfl⟩ := hq1
        change pz_E _ _ _ _ _ _ _ _ _ (_ :: _) _ _ _
        refine pe_iload_n d_K_get_98 rfl ?_
        refine pe_icmp_eq (tgt := 106) d_K_get_99 (by decide) (fun c_99 => ?_) (fun c_99 => ?_)
        · refine pe_aload_n d_K_get_106 rfl ?_
          refine pe_getf d_K_get_107 f_K_25 hK.1 rfl ?_
          refine pe_iload_n d_K_get_110 rfl ?_
          refine pe_iload_n d_K_get_111 rfl ?_
          refine pe_bipush (v := nI 8) d_K_get_112 (by decide) ?_
          -- 114: Math_floorMod
          refine pe_callS d_K_get_114 m_K_259 s_Math_floorMod (c_Math_floorMod _ _ (by decide)) rfl rfl (by simp [Value.category]) (by decide) ?_
          intro v1 h1 z1 hq1
          obtain ⟨rfl, rfl, rfl⟩ := hq1
          rw [fmd_N (by omega)]
          change pz_E _ _ _ _ _ _ _ _ _ (_ :: _) _ _ _
          -- 117: Disk_wordOf
          refine pe_callV d_K_get_117 m_K_262 j_Disk_wordOf v_Disk_wordOf (c_Disk_wordOf hd (by omega) (by omega)) rfl rfl (by simp [Value.category]) (by decide) hd.1 rfl rfl ?_
          intro v1 h1 z1 hq1
          obtain ⟨rfl, rfl, rfl⟩ := hq1
          change pz_E _ _ _ _ _ _ _ _ _ (_ :: _) _ _ _
          refine pe_i2l d_K_get_120 ?_
          refine pe_lret d_K_get_121 rfl ?_
          exact ⟨rfl, rfl, rfl⟩
        · exact absurd how c_99
    · have c_21 := pb_n0.mp c_21
      exact absurd (c_21.symm.trans hmp) (by decide)
  · have c_5 := pb_0.mp c_5
    exact absurd (c_5.symm.trans hyes) (by decide)
