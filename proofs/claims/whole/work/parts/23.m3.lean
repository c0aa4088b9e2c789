/-! the reference: contracts of BindingKernelModel, third part -/
def filN (f g : Nat → Nat) (lo k : Nat) : Nat → Nat := fun j => if lo ≤ j ∧ j < lo + k then g j else f j
theorem filN_0 (f g : Nat → Nat) (lo : Nat) : filN f g lo 0 = f := by
  funext j
  unfold filN
  rw [if_neg (by omega)]
theorem filN_s (f g : Nat → Nat) (lo k : Nat) : va_up (filN f g lo k) (lo + k) (g (lo + k)) = filN f g lo (k + 1) := by
  funext j
  unfold va_up filN
  by_cases h : j = lo + k
  · subst h
    rw [if_pos rfl, if_pos (by omega)]
  · rw [if_neg h]
    by_cases h2 : lo ≤ j ∧ j < lo + k
    · rw [if_pos h2, if_pos (by omega)]
    · rw [if_neg h2, if_neg (by omega)]
theorem filN_o {f g : Nat → Nat} {lo k j : Nat} (h : ¬ (lo ≤ j ∧ j < lo + k)) : filN f g lo k j = f j := if_neg h
theorem fil_o {f g : Nat → Int32} {lo k j : Nat} (h : ¬ (lo ≤ j ∧ j < lo + k)) : fil f g lo k j = f j := if_neg h
theorem fil_i {f g : Nat → Int32} {lo k j : Nat} (h : lo ≤ j ∧ j < lo + k) : fil f g lo k j = g j := if_pos h
theorem filN_i {f g : Nat → Nat} {lo k j : Nat} (h : lo ≤ j ∧ j < lo + k) : filN f g lo k j = g j := if_pos h
set_option maxHeartbeats 4000000 in
set_option maxRecDepth 20000 in
theorem c_Mo_next_no {l : Launch} {L : Nat} {xs : Nat → Int32} {h : pz_H} {z : Nat} {np nb now tkg lst flt byt : Nat} {sa sx : Int32} (hMo : MOB h np nb now tkg lst flt byt sa sx) (hnp : np ≤ 32) (hnb : nb ≤ 32) {Mop : Nat → Bool} (hOp : AB h 167 6 Mop) {Mfs : Nat → Nat} (hFs : AN h 182 6 Mfs) {Mfl : Nat → Nat} (hFl : AN h 183 24 Mfl) {Mfb : Nat → Int32} (hFb : AI h 184 384 Mfb) (x : Int32) (hno : opn Mop x = false) : pz_K l L xs M_Mo_next 2 0 0 [.ref 166, .int x] h z (fun v h' z' => v = some (.int (-1)) ∧ h = h' ∧ z = z') := by
  refine pz_K.of rfl (Nat.le_of_ble_eq_true rfl) ?_
  change pz_E l L xs M_Mo_next 2 0 0 0 [some (.ref 166), some (.int x), none] [] h z _
  refine pe_aload_n d_Mo_next_0 rfl ?_
  refine pe_iload_n d_Mo_next_1 rfl ?_
  -- 2: Mo_shut
  refine pe_callV d_Mo_next_2 m_Mo_126 j_Mo_shut v_Mo_shut (c_Mo_shut hMo hnp hnb hOp _) rfl rfl (by simp [Value.category]) (by decide) hMo rfl rfl ?_
  intro v1 h1 z1 hq1
  obtain ⟨rfl, rfl, rfl⟩ := hq1
  change pz_E _ _ _ _ _ _ _ _ _ (_ :: _) _ _ _
  refine pe_if_ne (tgt := 17) d_Mo_next_5 (by decide) (fun c_5 => ?_) (fun c_5 => ?_)
  · have c_5 := pb_n0.mp c_5
    refine pe_iconst (v := -1) d_Mo_next_17 (by decide) ?_
    refine pe_iret d_Mo_next_18 rfl ?_
    exact ⟨rfl, rfl, rfl⟩
  · have c_5 := pb_0.mp c_5
    exact absurd (nb_f c_5) (by rw [hno]; decide)
set_option maxHeartbeats 4000000 in
set_option maxRecDepth 20000 in
theorem c_Mo_next_none {l : Launch} {L : Nat} {xs : Nat → Int32} {h : pz_H} {z : Nat} {np nb now tkg lst flt byt : Nat} {sa sx : Int32} (hMo : MOB h np nb now tkg lst flt byt sa sx) (hnp : np ≤ 32) (hnb : nb ≤ 32) {Mop : Nat → Bool} (hOp : AB h 167 6 Mop) {Mfs : Nat → Nat} (hFs : AN h 182 6 Mfs) {Mfl : Nat → Nat} (hFl : AN h 183 24 Mfl) {Mfb : Nat → Int32} (hFb : AI h 184 384 Mfb) {a : Nat} (ha : a < 6) (hop : Mop a = true) (h0 : Mfs a = 0) : pz_K l L xs M_Mo_next 2 0 0 [.ref 166, .int (nI a)] h z (fun v h' z' => v = some (.int (-1)) ∧ h = h' ∧ z = z') := by
  refine pz_K.of rfl (Nat.le_of_ble_eq_true rfl) ?_
  change pz_E l L xs M_Mo_next 2 0 0 0 [some (.ref 166), some (.int (nI a)), none] [] h z _
  refine pe_aload_n d_Mo_next_0 rfl ?_
  refine pe_iload_n d_Mo_next_1 rfl ?_
  -- 2: Mo_shut
  refine pe_callV d_Mo_next_2 m_Mo_126 j_Mo_shut v_Mo_shut (c_Mo_shut hMo hnp hnb hOp _) rfl rfl (by simp [Value.category]) (by decide) hMo rfl rfl ?_
  intro v1 h1 z1 hq1
  obtain ⟨rfl, rfl, rfl⟩ := hq1
  change pz_E _ _ _ _ _ _ _ _ _ (_ :: _) _ _ _
  refine pe_if_ne (tgt := 17) d_Mo_next_5 (by decide) (fun c_5 => ?_) (fun c_5 => ?_)
  · have c_5 := pb_n0.mp c_5
    exact absurd c_5 (by rw [opn_a ha, hop]; decide)
  · have c_5 := pb_0.mp c_5
    refine pe_aload_n d_Mo_next_8 rfl ?_
    refine pe_getf d_Mo_next_9 f_Mo_72 hMo rfl ?_
    refine pe_iload_n d_Mo_next_12 rfl ?_
    refine pe_ialdN d_Mo_next_13 hFs (by omega) (by omega) ?_
    refine pe_if_ne (tgt := 19) d_Mo_next_14 (by decide) (fun c_14 => ?_) (fun c_14 => ?_)
    · exact absurd (by rw [h0]; rfl) c_14
    · refine pe_iconst (v := -1) d_Mo_next_17 (by decide) ?_
      refine pe_iret d_Mo_next_18 rfl ?_
      exact ⟨rfl, rfl, rfl⟩
set_option maxHeartbeats 4000000 in
set_option maxRecDepth 20000 in
theorem c_Mo_next_ok {l : Launch} {L : Nat} {xs : Nat → Int32} {h : pz_H} {z : Nat} {np nb now tkg lst flt byt : Nat} {sa sx : Int32} (hMo : MOB h np nb now tkg lst flt byt sa sx) (hnp : np ≤ 32) (hnb : nb ≤ 32) {Mop : Nat → Bool} (hOp : AB h 167 6 Mop) {Mfs : Nat → Nat} (hFs : AN h 182 6 Mfs) {Mfl : Nat → Nat} (hFl : AN h 183 24 Mfl) {Mfb : Nat → Int32} (hFb : AI h 184 384 Mfb) {a : Nat} (ha : a < 6) (hop : Mop a = true) (h0 : 0 < Mfs a) (hf4 : Mfs a ≤ 4) : pz_K l L xs M_Mo_next 2 0 0 [.ref 166, .int (nI a)] h z (fun v h' z' => v = some (.int (nI (Mfs a - 1))) ∧ z = z' ∧ AN h' 182 6 (va_up Mfs a (Mfs a - 1)) ∧ AN h' 183 24 (filN Mfl (fun j => Mfl (j + 1)) (a * 4) 3) ∧ AI h' 184 384 (fil Mfb (fun j => Mfb (j + 16)) (a * 64) 48) ∧ frx [182, 183, 184] h h') := by
  refine pz_K.of rfl (Nat.le_of_ble_eq_true rfl) ?_
  have hf : frx [182, 183, 184] h h := frx.rf
  have loop2 : ∀ (n : Nat) (i : Nat) (k : pz_H), i ≤ 48 → 49 ≤ i + n → MOB k np nb now tkg lst flt byt sa sx → AN k 182 6 Mfs → AN k 183 24 (filN Mfl (fun j => Mfl (j + 1)) (a * 4) 3) → AI k 184 384 (fil Mfb (fun j => Mfb (j + 16)) (a * 64) i) → frx [182, 183, 184] h k → pz_E l L xs M_Mo_next 2 0 0 57 [some (.ref 166), some (.int (nI a)), some (.int (nI (a * 64 + i)))] [] k z (fun v h' z' => v = some (.int (nI (Mfs a - 1))) ∧ z = z' ∧ AN h' 182 6 (va_up Mfs a (Mfs a - 1)) ∧ AN h' 183 24 (filN Mfl (fun j => Mfl (j + 1)) (a * 4) 3) ∧ AI h' 184 384 (fil Mfb (fun j => Mfb (j + 16)) (a * 64) 48) ∧ frx [182, 183, 184] h h') := by
    intro n
    induction n with
    | zero => intros; omega
    | succ n ih2 =>
      intro i k hi hin hMo hFs hFl hFb hf
      refine pe_iload_n d_Mo_next_57 rfl ?_
      refine pe_iload_n d_Mo_next_58 rfl ?_
      refine pe_bipush (v := nI 64) d_Mo_next_59 (by decide) ?_
      refine pe_imulN d_Mo_next_61 ?_
      refine pe_bipush (v := nI 48) d_Mo_next_62 (by decide) ?_
      refine pe_iaddN d_Mo_next_64 ?_
      refine pe_icmpN_ge (tgt := 89) d_Mo_next_65 (by decide) (by omega) (by omega) (fun c_65 => ?_) (fun c_65 => ?_)
      · refine pe_aload_n d_Mo_next_89 rfl ?_
        refine pe_getf d_Mo_next_90 f_Mo_72 hMo rfl ?_
        refine pe_iload_n d_Mo_next_93 rfl ?_
        refine pe_dup2 d_Mo_next_94 rfl rfl ?_
        refine pe_ialdN d_Mo_next_95 hFs (by omega) (by omega) ?_
        refine pe_iconst (v := nI 1) d_Mo_next_96 (by decide) ?_
        refine pe_isubN d_Mo_next_97 (by omega) ?_
        refine pe_iastN d_Mo_next_98 hFs (by omega) (by omega) ?_
        rw [upn]
        refine pe_pu (fun h2 e2 o2 => ?_)
        have hMo := (o2 (166) (by omega)).trans hMo
        have hFs := e2
        have hFl := (o2 (183) (by omega)).trans hFl
        have hFb := (o2 (184) (by omega)).trans hFb
        have hf := hf.st o2 (by decide)
        refine pe_aload_n d_Mo_next_99 rfl ?_
        refine pe_getf d_Mo_next_100 f_Mo_72 hMo rfl ?_
        refine pe_iload_n d_Mo_next_103 rfl ?_
        refine pe_ialdN d_Mo_next_104 hFs (by omega) (by omega) ?_
        refine pe_iret d_Mo_next_105 rfl ?_
        have e : i = 48 := by omega
        subst e
        exact ⟨by simp [va_up], rfl, hFs, hFl, hFb, hf⟩
      · refine pe_aload_n d_Mo_next_68 rfl ?_
        refine pe_getf d_Mo_next_69 f_Mo_78 hMo rfl ?_
        refine pe_iload_n d_Mo_next_72 rfl ?_
        refine pe_aload_n d_Mo_next_73 rfl ?_
        refine pe_getf d_Mo_next_74 f_Mo_78 hMo rfl ?_
        refine pe_iload_n d_Mo_next_77 rfl ?_
        refine pe_bipush (v := nI 16) d_Mo_next_78 (by decide) ?_
        refine pe_iaddN d_Mo_next_80 ?_
        refine pe_ialdN d_Mo_next_81 hFb (by omega) (by omega) ?_
        refine pe_iastN d_Mo_next_82 hFb (by omega) (by omega) ?_
        refine pe_pu (fun h2 e2 o2 => ?_)
        have hMo := (o2 (166) (by omega)).trans hMo
        have hFs := (o2 (182) (by omega)).trans hFs
        have hFl := (o2 (183) (by omega)).trans hFl
        have hFb := e2
        have hf := hf.st o2 (by decide)
        refine pe_iincN d_Mo_next_83 rfl (by decide) rfl ?_
        dsimp only [List.set]
        refine pe_goto (tgt := 57) d_Mo_next_86 (by decide) ?_
        rw [fil_o (by omega), show Mfb (a * 64 + i + 16) = (fun j => Mfb (j + 16)) (a * 64 + i) from rfl, fil_s] at hFb
        exact ih2 (i + 1) _ (by omega) (by omega) hMo hFs hFl hFb hf
  have loop : ∀ (n : Nat) (i : Nat) (k : pz_H), i ≤ 3 → 4 ≤ i + n → MOB k np nb now tkg lst flt byt sa sx → AN k 182 6 Mfs → AN k 183 24 (filN Mfl (fun j => Mfl (j + 1)) (a * 4) i) → AI k 184 384 Mfb → frx [182, 183, 184] h k → pz_E l L xs M_Mo_next 2 0 0 23 [some (.ref 166), some (.int (nI a)), some (.int (nI (a * 4 + i)))] [] k z (fun v h' z' => v = some (.int (nI (Mfs a - 1))) ∧ z = z' ∧ AN h' 182 6 (va_up Mfs a (Mfs a - 1)) ∧ AN h' 183 24 (filN Mfl (fun j => Mfl (j + 1)) (a * 4) 3) ∧ AI h' 184 384 (fil Mfb (fun j => Mfb (j + 16)) (a * 64) 48) ∧ frx [182, 183, 184] h h') := by
    intro n
    induction n with
    | zero => intros; omega
    | succ n ih =>
      intro i k hi hin hMo hFs hFl hFb hf
      refine pe_iload_n d_Mo_next_23 rfl ?_
      refine pe_iload_n d_Mo_next_24 rfl ?_
      refine pe_iconst (v := nI 4) d_Mo_next_25 (by decide) ?_
      refine pe_imulN d_Mo_next_26 ?_
      refine pe_iconst (v := nI 3) d_Mo_next_27 (by decide) ?_
      refine pe_iaddN d_Mo_next_28 ?_
      refine pe_icmpN_ge (tgt := 52) d_Mo_next_29 (by decide) (by omega) (by omega) (fun c_29 => ?_) (fun c_29 => ?_)
      · refine pe_iload_n d_Mo_next_52 rfl ?_
        refine pe_bipush (v := nI 64) d_Mo_next_53 (by decide) ?_
        refine pe_imulN d_Mo_next_55 ?_
        refine pe_istore_n d_Mo_next_56 (by decide) rfl ?_
        dsimp only [List.set]
        have e : i = 3 := by omega
        subst e
        have hFb : AI k 184 384 (fil Mfb (fun j => Mfb (j + 16)) (a * 64) 0) := by rw [fil_0]; exact hFb
        exact loop2 49 0 _ (by omega) (by omega) hMo hFs hFl hFb hf
      · refine pe_aload_n d_Mo_next_32 rfl ?_
        refine pe_getf d_Mo_next_33 f_Mo_75 hMo rfl ?_
        refine pe_iload_n d_Mo_next_36 rfl ?_
        refine pe_aload_n d_Mo_next_37 rfl ?_
        refine pe_getf d_Mo_next_38 f_Mo_75 hMo rfl ?_
        refine pe_iload_n d_Mo_next_41 rfl ?_
        refine pe_iconst (v := nI 1) d_Mo_next_42 (by decide) ?_
        refine pe_iaddN d_Mo_next_43 ?_
        refine pe_ialdN d_Mo_next_44 hFl (by omega) (by omega) ?_
        refine pe_iastN d_Mo_next_45 hFl (by omega) (by omega) ?_
        rw [upn]
        refine pe_pu (fun h2 e2 o2 => ?_)
        have hMo := (o2 (166) (by omega)).trans hMo
        have hFs := (o2 (182) (by omega)).trans hFs
        have hFl := e2
        have hFb := (o2 (184) (by omega)).trans hFb
        have hf := hf.st o2 (by decide)
        refine pe_iincN d_Mo_next_46 rfl (by decide) rfl ?_
        dsimp only [List.set]
        refine pe_goto (tgt := 23) d_Mo_next_49 (by decide) ?_
        rw [filN_o (by omega), show Mfl (a * 4 + i + 1) = (fun j => Mfl (j + 1)) (a * 4 + i) from rfl, filN_s] at hFl
        exact ih (i + 1) _ (by omega) (by omega) hMo hFs hFl hFb hf
  change pz_E l L xs M_Mo_next 2 0 0 0 [some (.ref 166), some (.int (nI a)), none] [] h z _
  refine pe_aload_n d_Mo_next_0 rfl ?_
  refine pe_iload_n d_Mo_next_1 rfl ?_
  -- 2: Mo_shut
  refine pe_callV d_Mo_next_2 m_Mo_126 j_Mo_shut v_Mo_shut (c_Mo_shut hMo hnp hnb hOp _) rfl rfl (by simp [Value.category]) (by decide) hMo rfl rfl ?_
  intro v1 h1 z1 hq1
  obtain ⟨rfl, rfl, rfl⟩ := hq1
  change pz_E _ _ _ _ _ _ _ _ _ (_ :: _) _ _ _
  refine pe_if_ne (tgt := 17) d_Mo_next_5 (by decide) (fun c_5 => ?_) (fun c_5 => ?_)
  · have c_5 := pb_n0.mp c_5
    exact absurd c_5 (by rw [opn_a ha, hop]; decide)
  · have c_5 := pb_0.mp c_5
    refine pe_aload_n d_Mo_next_8 rfl ?_
    refine pe_getf d_Mo_next_9 f_Mo_72 hMo rfl ?_
    refine pe_iload_n d_Mo_next_12 rfl ?_
    refine pe_ialdN d_Mo_next_13 hFs (by omega) (by omega) ?_
    refine pe_if_ne (tgt := 19) d_Mo_next_14 (by decide) (fun c_14 => ?_) (fun c_14 => ?_)
    · refine pe_iload_n d_Mo_next_19 rfl ?_
      refine pe_iconst (v := nI 4) d_Mo_next_20 (by decide) ?_
      refine pe_imulN d_Mo_next_21 ?_
      refine pe_istore_n d_Mo_next_22 (by decide) rfl ?_
      dsimp only [List.set]
      have hFl : AN h 183 24 (filN Mfl (fun j => Mfl (j + 1)) (a * 4) 0) := by rw [filN_0]; exact hFl
      exact loop 4 0 _ (by omega) (by omega) hMo hFs hFl hFb hf
    · exact absurd (nI_inj (a := Mfs a) (b := 0) (by omega) (by omega) c_14) (by omega)
theorem insOk_i {c k y n : Int32} (h7 : inn c 12 = true) (hk : c < nI 2 → inn k 64 = true) (h6 : c = nI 6 → inn k 32 = true) (ht : nI 6 < c → c < nI 10 → inn y 16 = true ∧ inn n 16 = true) : insOk c k y n = true := by
  obtain ⟨c, hc, rfl⟩ := inn_N (by omega) h7
  rw [inn_rng _ (by decide)] at h7 hk h6 ht
  rw [inn_rng _ (by decide)] at ht
  unfold insOk tst
  rw [h7]
  match c, hc with
  | 0, _ => rw [if_pos (by decide), hk (by decide)]; rfl
  | 1, _ => rw [if_pos (by decide), hk (by decide)]; rfl
  | 2, _ => rw [if_neg (by decide), if_neg (by decide), show rng (nI 2) (nI 7) (nI 9) = false from by decide]; rfl
  | 3, _ => rw [if_neg (by decide), if_neg (by decide), show rng (nI 3) (nI 7) (nI 9) = false from by decide]; rfl
  | 4, _ => rw [if_neg (by decide), if_neg (by decide), show rng (nI 4) (nI 7) (nI 9) = false from by decide]; rfl
  | 5, _ => rw [if_neg (by decide), if_neg (by decide), show rng (nI 5) (nI 7) (nI 9) = false from by decide]; rfl
  | 6, _ => rw [if_neg (by decide), if_pos rfl, h6 rfl]; rfl
  | 7, _ => rw [if_neg (by decide), if_neg (by decide), (ht (by decide) (by decide)).1, (ht (by decide) (by decide)).2]; simp
  | 8, _ => rw [if_neg (by decide), if_neg (by decide), (ht (by decide) (by decide)).1, (ht (by decide) (by decide)).2]; simp
  | 9, _ => rw [if_neg (by decide), if_neg (by decide), (ht (by decide) (by decide)).1, (ht (by decide) (by decide)).2]; simp
  | 10, _ => rw [if_neg (by decide), if_neg (by decide), show rng (nI 10) (nI 7) (nI 9) = false from by decide]; rfl
  | 11, _ => rw [if_neg (by decide), if_neg (by decide), show rng (nI 11) (nI 7) (nI 9) = false from by decide]; rfl
theorem insOk_e {c k y n : Int32} (h : insOk c k y n = true) : inn c 12 = true ∧ (c < nI 2 → inn k 64 = true) ∧ (c = nI 6 → inn k 32 = true) ∧ (nI 6 < c → c < nI 10 → inn y 16 = true ∧ inn n 16 = true) := by
  unfold insOk tst at h
  rw [Bool.and_eq_true] at h
  obtain ⟨h7, h⟩ := h
  rw [← inn_rng _ (by decide)] at h7
  refine ⟨h7, ?_⟩
  rw [inn_rng _ (by decide), inn_rng _ (by decide), inn_rng _ (by decide), inn_rng _ (by decide)]
  obtain ⟨c, hc, rfl⟩ := inn_N (by omega) h7
  match c, hc with
  | 0, _ => exact ⟨fun _ => by rw [if_pos (by decide)] at h; exact h, fun q => absurd q (by decide), fun q => absurd q (by decide)⟩
  | 1, _ => exact ⟨fun _ => by rw [if_pos (by decide)] at h; exact h, fun q => absurd q (by decide), fun q => absurd q (by decide)⟩
  | 2, _ => exact ⟨fun q => absurd q (by decide), fun q => absurd q (by decide), fun q => absurd q (by decide)⟩
  | 3, _ => exact ⟨fun q => absurd q (by decide), fun q => absurd q (by decide), fun q => absurd q (by decide)⟩
  | 4, _ => exact ⟨fun q => absurd q (by decide), fun q => absurd q (by decide), fun q => absurd q (by decide)⟩
  | 5, _ => exact ⟨fun q => absurd q (by decide), fun q => absurd q (by decide), fun q => absurd q (by decide)⟩
  | 6, _ => exact ⟨fun q => absurd q (by decide), fun _ => by rw [if_neg (by decide), if_pos rfl] at h; exact h, fun q => absurd q (by decide)⟩
  | 7, _ => exact ⟨fun q => absurd q (by decide), fun q => absurd q (by decide), fun _ _ => by rw [if_neg (by decide), if_neg (by decide), Bool.or_eq_true, Bool.and_eq_true] at h; exact h.resolve_left (by decide)⟩
  | 8, _ => exact ⟨fun q => absurd q (by decide), fun q => absurd q (by decide), fun _ _ => by rw [if_neg (by decide), if_neg (by decide), Bool.or_eq_true, Bool.and_eq_true] at h; exact h.resolve_left (by decide)⟩
  | 9, _ => exact ⟨fun q => absurd q (by decide), fun q => absurd q (by decide), fun _ _ => by rw [if_neg (by decide), if_neg (by decide), Bool.or_eq_true, Bool.and_eq_true] at h; exact h.resolve_left (by decide)⟩
  | 10, _ => exact ⟨fun q => absurd q (by decide), fun q => absurd q (by decide), fun _ q => absurd q (by decide)⟩
  | 11, _ => exact ⟨fun q => absurd q (by decide), fun q => absurd q (by decide), fun _ q => absurd q (by decide)⟩
set_option maxHeartbeats 4000000 in
set_option maxRecDepth 20000 in
theorem c_Mo_op_no {l : Launch} {L : Nat} {xs : Nat → Int32} {h : pz_H} {z : Nat} {np nb now tkg lst flt byt : Nat} {sa sx : Int32} (hMo : MOB h np nb now tkg lst flt byt sa sx) (hnp : np ≤ 32) (hnb : nb ≤ 32) {Mop : Nat → Bool} (hOp : AB h 167 6 Mop) {Mln : Nat → Nat} (hLn : AN h 178 12 Mln) {Mcd : Nat → Int32} (hCd : AI h 179 768 Mcd) (x c k y n : Int32) (hno : (opn Mop x && insOk c k y n) = false) : pz_K l L xs M_Mo_op 2 0 0 [.ref 166, .int x, .int c, .int k, .int y, .int n] h z (fun v h' z' => v = some (.int (-1)) ∧ h = h' ∧ z = z') := by
  refine pz_K.of rfl (Nat.le_of_ble_eq_true rfl) ?_
  change pz_E l L xs M_Mo_op 2 0 0 0 [some (.ref 166), some (.int x), some (.int c), some (.int k), some (.int y), some (.int n), none] [] h z _
  refine pe_aload_n d_Mo_op_0 rfl ?_
  refine pe_iload_n d_Mo_op_1 rfl ?_
  refine pe_bipush (v := nI 12) d_Mo_op_2 (by decide) ?_
  -- 4: Mo_out
  refine pe_callV d_Mo_op_4 m_Mo_111 j_Mo_out v_Mo_out (c_Mo_out hMo hnp hnb _ _) rfl rfl (by simp [Value.category]) (by decide) hMo rfl rfl ?_
  intro v1 h1 z1 hq1
  obtain ⟨rfl, rfl, rfl⟩ := hq1
  change pz_E _ _ _ _ _ _ _ _ _ (_ :: _) _ _ _
  refine pe_if_eq (tgt := 12) d_Mo_op_7 (by decide) (fun c_7 => ?_) (fun c_7 => ?_)
  · have c_7 := pb_0.mp c_7
    refine pe_iload_n d_Mo_op_12 rfl ?_
    refine pe_iconst (v := nI 2) d_Mo_op_13 (by decide) ?_
    refine pe_icmp_ge (tgt := 27) d_Mo_op_14 (by decide) (fun c_14 => ?_) (fun c_14 => ?_)
    · refine pe_iload_n d_Mo_op_27 rfl ?_
      refine pe_bipush (v := nI 6) d_Mo_op_28 (by decide) ?_
      refine pe_icmp_ne (tgt := 45) d_Mo_op_30 (by decide) (fun c_30 => ?_) (fun c_30 => ?_)
      · refine pe_iload_n d_Mo_op_45 rfl ?_
        refine pe_bipush (v := nI 6) d_Mo_op_46 (by decide) ?_
        refine pe_icmp_le (tgt := 81) d_Mo_op_48 (by decide) (fun c_48 => ?_) (fun c_48 => ?_)
        · refine pe_aload_n d_Mo_op_81 rfl ?_
          refine pe_iload_n d_Mo_op_82 rfl ?_
          -- 83: Mo_shut
          refine pe_callV d_Mo_op_83 m_Mo_126 j_Mo_shut v_Mo_shut (c_Mo_shut hMo hnp hnb hOp _) rfl rfl (by simp [Value.category]) (by decide) hMo rfl rfl ?_
          intro v1 h1 z1 hq1
          obtain ⟨rfl, rfl, rfl⟩ := hq1
          change pz_E _ _ _ _ _ _ _ _ _ (_ :: _) _ _ _
          refine pe_if_eq (tgt := 91) d_Mo_op_86 (by decide) (fun c_86 => ?_) (fun c_86 => ?_)
          · have c_86 := pb_0.mp c_86
            exact absurd (show (opn Mop x && insOk c k y n) = true from by rw [nb_f c_86, insOk_i (ot_f c_7) (fun q => by first | exact ot_f c_24 | exact absurd q (Int32.not_lt.mpr c_14)) (fun q => by first | exact ot_f c_40 | exact absurd q c_30) (fun q r => by first | exact ⟨ot_f c_65, ot_f c_76⟩ | exact absurd q (Int32.not_lt.mpr c_48) | exact absurd r (Int32.not_lt.mpr c_54))]; rfl) (by rw [hno]; decide)
          · have c_86 := pb_n0.mp c_86
            refine pe_iconst (v := -1) d_Mo_op_89 (by decide) ?_
            refine pe_iret d_Mo_op_90 rfl ?_
            exact ⟨rfl, rfl, rfl⟩
        · refine pe_iload_n d_Mo_op_51 rfl ?_
          refine pe_bipush (v := nI 10) d_Mo_op_52 (by decide) ?_
          refine pe_icmp_ge (tgt := 81) d_Mo_op_54 (by decide) (fun c_54 => ?_) (fun c_54 => ?_)
          · refine pe_aload_n d_Mo_op_81 rfl ?_
            refine pe_iload_n d_Mo_op_82 rfl ?_
            -- 83: Mo_shut
            refine pe_callV d_Mo_op_83 m_Mo_126 j_Mo_shut v_Mo_shut (c_Mo_shut hMo hnp hnb hOp _) rfl rfl (by simp [Value.category]) (by decide) hMo rfl rfl ?_
            intro v1 h1 z1 hq1
            obtain ⟨rfl, rfl, rfl⟩ := hq1
            change pz_E _ _ _ _ _ _ _ _ _ (_ :: _) _ _ _
            refine pe_if_eq (tgt := 91) d_Mo_op_86 (by decide) (fun c_86 => ?_) (fun c_86 => ?_)
            · have c_86 := pb_0.mp c_86
              exact absurd (show (opn Mop x && insOk c k y n) = true from by rw [nb_f c_86, insOk_i (ot_f c_7) (fun q => by first | exact ot_f c_24 | exact absurd q (Int32.not_lt.mpr c_14)) (fun q => by first | exact ot_f c_40 | exact absurd q c_30) (fun q r => by first | exact ⟨ot_f c_65, ot_f c_76⟩ | exact absurd q (Int32.not_lt.mpr c_48) | exact absurd r (Int32.not_lt.mpr c_54))]; rfl) (by rw [hno]; decide)
            · have c_86 := pb_n0.mp c_86
              refine pe_iconst (v := -1) d_Mo_op_89 (by decide) ?_
              refine pe_iret d_Mo_op_90 rfl ?_
              exact ⟨rfl, rfl, rfl⟩
          · refine pe_aload_n d_Mo_op_57 rfl ?_
            refine pe_iload d_Mo_op_58 rfl ?_
            refine pe_bipush (v := nI 16) d_Mo_op_60 (by decide) ?_
            -- 62: Mo_out
            refine pe_callV d_Mo_op_62 m_Mo_111 j_Mo_out v_Mo_out (c_Mo_out hMo hnp hnb _ _) rfl rfl (by simp [Value.category]) (by decide) hMo rfl rfl ?_
            intro v1 h1 z1 hq1
            obtain ⟨rfl, rfl, rfl⟩ := hq1
            change pz_E _ _ _ _ _ _ _ _ _ (_ :: _) _ _ _
            refine pe_if_ne (tgt := 79) d_Mo_op_65 (by decide) (fun c_65 => ?_) (fun c_65 => ?_)
            · have c_65 := pb_n0.mp c_65
              refine pe_iconst (v := -1) d_Mo_op_79 (by decide) ?_
              refine pe_iret d_Mo_op_80 rfl ?_
              exact ⟨rfl, rfl, rfl⟩
            · have c_65 := pb_0.mp c_65
              refine pe_aload_n d_Mo_op_68 rfl ?_
              refine pe_iload d_Mo_op_69 rfl ?_
              refine pe_bipush (v := nI 16) d_Mo_op_71 (by decide) ?_
              -- 73: Mo_out
              refine pe_callV d_Mo_op_73 m_Mo_111 j_Mo_out v_Mo_out (c_Mo_out hMo hnp hnb _ _) rfl rfl (by simp [Value.category]) (by decide) hMo rfl rfl ?_
              intro v1 h1 z1 hq1
              obtain ⟨rfl, rfl, rfl⟩ := hq1
              change pz_E _ _ _ _ _ _ _ _ _ (_ :: _) _ _ _
              refine pe_if_eq (tgt := 81) d_Mo_op_76 (by decide) (fun c_76 => ?_) (fun c_76 => ?_)
              · have c_76 := pb_0.mp c_76
                refine pe_aload_n d_Mo_op_81 rfl ?_
                refine pe_iload_n d_Mo_op_82 rfl ?_
                -- 83: Mo_shut
                refine pe_callV d_Mo_op_83 m_Mo_126 j_Mo_shut v_Mo_shut (c_Mo_shut hMo hnp hnb hOp _) rfl rfl (by simp [Value.category]) (by decide) hMo rfl rfl ?_
                intro v1 h1 z1 hq1
                obtain ⟨rfl, rfl, rfl⟩ := hq1
                change pz_E _ _ _ _ _ _ _ _ _ (_ :: _) _ _ _
                refine pe_if_eq (tgt := 91) d_Mo_op_86 (by decide) (fun c_86 => ?_) (fun c_86 => ?_)
                · have c_86 := pb_0.mp c_86
                  exact absurd (show (opn Mop x && insOk c k y n) = true from by rw [nb_f c_86, insOk_i (ot_f c_7) (fun q => by first | exact ot_f c_24 | exact absurd q (Int32.not_lt.mpr c_14)) (fun q => by first | exact ot_f c_40 | exact absurd q c_30) (fun q r => by first | exact ⟨ot_f c_65, ot_f c_76⟩ | exact absurd q (Int32.not_lt.mpr c_48) | exact absurd r (Int32.not_lt.mpr c_54))]; rfl) (by rw [hno]; decide)
                · have c_86 := pb_n0.mp c_86
                  refine pe_iconst (v := -1) d_Mo_op_89 (by decide) ?_
                  refine pe_iret d_Mo_op_90 rfl ?_
                  exact ⟨rfl, rfl, rfl⟩
              · have c_76 := pb_n0.mp c_76
                refine pe_iconst (v := -1) d_Mo_op_79 (by decide) ?_
                refine pe_iret d_Mo_op_80 rfl ?_
                exact ⟨rfl, rfl, rfl⟩
      · refine pe_aload_n d_Mo_op_33 rfl ?_
        refine pe_iload_n d_Mo_op_34 rfl ?_
        refine pe_bipush (v := nI 32) d_Mo_op_35 (by decide) ?_
        -- 37: Mo_out
        refine pe_callV d_Mo_op_37 m_Mo_111 j_Mo_out v_Mo_out (c_Mo_out hMo hnp hnb _ _) rfl rfl (by simp [Value.category]) (by decide) hMo rfl rfl ?_
        intro v1 h1 z1 hq1
        obtain ⟨rfl, rfl, rfl⟩ := hq1
        change pz_E _ _ _ _ _ _ _ _ _ (_ :: _) _ _ _
        refine pe_if_eq (tgt := 45) d_Mo_op_40 (by decide) (fun c_40 => ?_) (fun c_40 => ?_)
        · have c_40 := pb_0.mp c_40
          refine pe_iload_n d_Mo_op_45 rfl ?_
          refine pe_bipush (v := nI 6) d_Mo_op_46 (by decide) ?_
          refine pe_icmp_le (tgt := 81) d_Mo_op_48 (by decide) (fun c_48 => ?_) (fun c_48 => ?_)
          · refine pe_aload_n d_Mo_op_81 rfl ?_
            refine pe_iload_n d_Mo_op_82 rfl ?_
            -- 83: Mo_shut
            refine pe_callV d_Mo_op_83 m_Mo_126 j_Mo_shut v_Mo_shut (c_Mo_shut hMo hnp hnb hOp _) rfl rfl (by simp [Value.category]) (by decide) hMo rfl rfl ?_
            intro v1 h1 z1 hq1
            obtain ⟨rfl, rfl, rfl⟩ := hq1
            change pz_E _ _ _ _ _ _ _ _ _ (_ :: _) _ _ _
            refine pe_if_eq (tgt := 91) d_Mo_op_86 (by decide) (fun c_86 => ?_) (fun c_86 => ?_)
            · have c_86 := pb_0.mp c_86
              exact absurd (show (opn Mop x && insOk c k y n) = true from by rw [nb_f c_86, insOk_i (ot_f c_7) (fun q => by first | exact ot_f c_24 | exact absurd q (Int32.not_lt.mpr c_14)) (fun q => by first | exact ot_f c_40 | exact absurd q c_30) (fun q r => by first | exact ⟨ot_f c_65, ot_f c_76⟩ | exact absurd q (Int32.not_lt.mpr c_48) | exact absurd r (Int32.not_lt.mpr c_54))]; rfl) (by rw [hno]; decide)
            · have c_86 := pb_n0.mp c_86
              refine pe_iconst (v := -1) d_Mo_op_89 (by decide) ?_
              refine pe_iret d_Mo_op_90 rfl ?_
              exact ⟨rfl, rfl, rfl⟩
          · refine pe_iload_n d_Mo_op_51 rfl ?_
            refine pe_bipush (v := nI 10) d_Mo_op_52 (by decide) ?_
            refine pe_icmp_ge (tgt := 81) d_Mo_op_54 (by decide) (fun c_54 => ?_) (fun c_54 => ?_)
            · refine pe_aload_n d_Mo_op_81 rfl ?_
              refine pe_iload_n d_Mo_op_82 rfl ?_
              -- 83: Mo_shut
              refine pe_callV d_Mo_op_83 m_Mo_126 j_Mo_shut v_Mo_shut (c_Mo_shut hMo hnp hnb hOp _) rfl rfl (by simp [Value.category]) (by decide) hMo rfl rfl ?_
              intro v1 h1 z1 hq1
              obtain ⟨rfl, rfl, rfl⟩ := hq1
              change pz_E _ _ _ _ _ _ _ _ _ (_ :: _) _ _ _
              refine pe_if_eq (tgt := 91) d_Mo_op_86 (by decide) (fun c_86 => ?_) (fun c_86 => ?_)
              · have c_86 := pb_0.mp c_86
                exact absurd (show (opn Mop x && insOk c k y n) = true from by rw [nb_f c_86, insOk_i (ot_f c_7) (fun q => by first | exact ot_f c_24 | exact absurd q (Int32.not_lt.mpr c_14)) (fun q => by first | exact ot_f c_40 | exact absurd q c_30) (fun q r => by first | exact ⟨ot_f c_65, ot_f c_76⟩ | exact absurd q (Int32.not_lt.mpr c_48) | exact absurd r (Int32.not_lt.mpr c_54))]; rfl) (by rw [hno]; decide)
              · have c_86 := pb_n0.mp c_86
                refine pe_iconst (v := -1) d_Mo_op_89 (by decide) ?_
                refine pe_iret d_Mo_op_90 rfl ?_
                exact ⟨rfl, rfl, rfl⟩
            · refine pe_aload_n d_Mo_op_57 rfl ?_
              refine pe_iload d_Mo_op_58 rfl ?_
              refine pe_bipush (v := nI 16) d_Mo_op_60 (by decide) ?_
              -- 62: Mo_out
              refine pe_callV d_Mo_op_62 m_Mo_111 j_Mo_out v_Mo_out (c_Mo_out hMo hnp hnb _ _) rfl rfl (by simp [Value.category]) (by decide) hMo rfl rfl ?_
              intro v1 h1 z1 hq1
              obtain ⟨rfl, rfl, rfl⟩ := hq1
              change pz_E _ _ _ _ _ _ _ _ _ (_ :: _) _ _ _
              refine pe_if_ne (tgt := 79) d_Mo_op_65 (by decide) (fun c_65 => ?_) (fun c_65 => ?_)
              · have c_65 := pb_n0.mp c_65
                refine pe_iconst (v := -1) d_Mo_op_79 (by decide) ?_
                refine pe_iret d_Mo_op_80 rfl ?_
                exact ⟨rfl, rfl, rfl⟩
              · have c_65 := pb_0.mp c_65
                refine pe_aload_n d_Mo_op_68 rfl ?_
                refine pe_iload d_Mo_op_69 rfl ?_
                refine pe_bipush (v := nI 16) d_Mo_op_71 (by decide) ?_
                -- 73: Mo_out
                refine pe_callV d_Mo_op_73 m_Mo_111 j_Mo_out v_Mo_out (c_Mo_out hMo hnp hnb _ _) rfl rfl (by simp [Value.category]) (by decide) hMo rfl rfl ?_
                intro v1 h1 z1 hq1
                obtain ⟨rfl, rfl, rfl⟩ := hq1
                change pz_E _ _ _ _ _ _ _ _ _ (_ :: _) _ _ _
                refine pe_if_eq (tgt := 81) d_Mo_op_76 (by decide) (fun c_76 => ?_) (fun c_76 => ?_)
                · have c_76 := pb_0.mp c_76
                  refine pe_aload_n d_Mo_op_81 rfl ?_
                  refine pe_iload_n d_Mo_op_82 rfl ?_
                  -- 83: Mo_shut
                  refine pe_callV d_Mo_op_83 m_Mo_126 j_Mo_shut v_Mo_shut (c_Mo_shut hMo hnp hnb hOp _) rfl rfl (by simp [Value.category]) (by decide) hMo rfl rfl ?_
                  intro v1 h1 z1 hq1
                  obtain ⟨rfl, rfl, rfl⟩ := hq1
                  change pz_E _ _ _ _ _ _ _ _ _ (_ :: _) _ _ _
                  refine pe_if_eq (tgt := 91) d_Mo_op_86 (by decide) (fun c_86 => ?_) (fun c_86 => ?_)
                  · have c_86 := pb_0.mp c_86
                    exact absurd (show (opn Mop x && insOk c k y n) = true from by rw [nb_f c_86, insOk_i (ot_f c_7) (fun q => by first | exact ot_f c_24 | exact absurd q (Int32.not_lt.mpr c_14)) (fun q => by first | exact ot_f c_40 | exact absurd q c_30) (fun q r => by first | exact ⟨ot_f c_65, ot_f c_76⟩ | exact absurd q (Int32.not_lt.mpr c_48) | exact absurd r (Int32.not_lt.mpr c_54))]; rfl) (by rw [hno]; decide)
                  · have c_86 := pb_n0.mp c_86
                    refine pe_iconst (v := -1) d_Mo_op_89 (by decide) ?_
                    refine pe_iret d_Mo_op_90 rfl ?_
                    exact ⟨rfl, rfl, rfl⟩
                · have c_76 := pb_n0.mp c_76
                  refine pe_iconst (v := -1) d_Mo_op_79 (by decide) ?_
                  refine pe_iret d_Mo_op_80 rfl ?_
                  exact ⟨rfl, rfl, rfl⟩
        · have c_40 := pb_n0.mp c_40
          refine pe_iconst (v := -1) d_Mo_op_43 (by decide) ?_
          refine pe_iret d_Mo_op_44 rfl ?_
          exact ⟨rfl, rfl, rfl⟩
    · refine pe_aload_n d_Mo_op_17 rfl ?_
      refine pe_iload_n d_Mo_op_18 rfl ?_
      refine pe_bipush (v := nI 64) d_Mo_op_19 (by decide) ?_
      -- 21: Mo_out
      refine pe_callV d_Mo_op_21 m_Mo_111 j_Mo_out v_Mo_out (c_Mo_out hMo hnp hnb _ _) rfl rfl (by simp [Value.category]) (by decide) hMo rfl rfl ?_
      intro v1 h1 z1 hq1
      obtain ⟨rfl, rfl, rfl⟩ := hq1
      change pz_E _ _ _ _ _ _ _ _ _ (_ :: _) _ _ _
      refine pe_if_ne (tgt := 43) d_Mo_op_24 (by decide) (fun c_24 => ?_) (fun c_24 => ?_)
      · have c_24 := pb_n0.mp c_24
        refine pe_iconst (v := -1) d_Mo_op_43 (by decide) ?_
        refine pe_iret d_Mo_op_44 rfl ?_
        exact ⟨rfl, rfl, rfl⟩
      · have c_24 := pb_0.mp c_24
        refine pe_iload_n d_Mo_op_27 rfl ?_
        refine pe_bipush (v := nI 6) d_Mo_op_28 (by decide) ?_
        refine pe_icmp_ne (tgt := 45) d_Mo_op_30 (by decide) (fun c_30 => ?_) (fun c_30 => ?_)
        · refine pe_iload_n d_Mo_op_45 rfl ?_
          refine pe_bipush (v := nI 6) d_Mo_op_46 (by decide) ?_
          refine pe_icmp_le (tgt := 81) d_Mo_op_48 (by decide) (fun c_48 => ?_) (fun c_48 => ?_)
          · refine pe_aload_n d_Mo_op_81 rfl ?_
            refine pe_iload_n d_Mo_op_82 rfl ?_
            -- 83: Mo_shut
            refine pe_callV d_Mo_op_83 m_Mo_126 j_Mo_shut v_Mo_shut (c_Mo_shut hMo hnp hnb hOp _) rfl rfl (by simp [Value.category]) (by decide) hMo rfl rfl ?_
            intro v1 h1 z1 hq1
            obtain ⟨rfl, rfl, rfl⟩ := hq1
            change pz_E _ _ _ _ _ _ _ _ _ (_ :: _) _ _ _
            refine pe_if_eq (tgt := 91) d_Mo_op_86 (by decide) (fun c_86 => ?_) (fun c_86 => ?_)
            · have c_86 := pb_0.mp c_86
              exact absurd (show (opn Mop x && insOk c k y n) = true from by rw [nb_f c_86, insOk_i (ot_f c_7) (fun q => by first | exact ot_f c_24 | exact absurd q (Int32.not_lt.mpr c_14)) (fun q => by first | exact ot_f c_40 | exact absurd q c_30) (fun q r => by first | exact ⟨ot_f c_65, ot_f c_76⟩ | exact absurd q (Int32.not_lt.mpr c_48) | exact absurd r (Int32.not_lt.mpr c_54))]; rfl) (by rw [hno]; decide)
            · have c_86 := pb_n0.mp c_86
              refine pe_iconst (v := -1) d_Mo_op_89 (by decide) ?_
              refine pe_iret d_Mo_op_90 rfl ?_
              exact ⟨rfl, rfl, rfl⟩
          · refine pe_iload_n d_Mo_op_51 rfl ?_
            refine pe_bipush (v := nI 10) d_Mo_op_52 (by decide) ?_
            refine pe_icmp_ge (tgt := 81) d_Mo_op_54 (by decide) (fun c_54 => ?_) (fun c_54 => ?_)
            · refine pe_aload_n d_Mo_op_81 rfl ?_
              refine pe_iload_n d_Mo_op_82 rfl ?_
              -- 83: Mo_shut
              refine pe_callV d_Mo_op_83 m_Mo_126 j_Mo_shut v_Mo_shut (c_Mo_shut hMo hnp hnb hOp _) rfl rfl (by simp [Value.category]) (by decide) hMo rfl rfl ?_
              intro v1 h1 z1 hq1
              obtain ⟨rfl, rfl, rfl⟩ := hq1
              change pz_E _ _ _ _ _ _ _ _ _ (_ :: _) _ _ _
              refine pe_if_eq (tgt := 91) d_Mo_op_86 (by decide) (fun c_86 => ?_) (fun c_86 => ?_)
              · have c_86 := pb_0.mp c_86
                exact absurd (show (opn Mop x && insOk c k y n) = true from by rw [nb_f c_86, insOk_i (ot_f c_7) (fun q => by first | exact ot_f c_24 | exact absurd q (Int32.not_lt.mpr c_14)) (fun q => by first | exact ot_f c_40 | exact absurd q c_30) (fun q r => by first | exact ⟨ot_f c_65, ot_f c_76⟩ | exact absurd q (Int32.not_lt.mpr c_48) | exact absurd r (Int32.not_lt.mpr c_54))]; rfl) (by rw [hno]; decide)
              · have c_86 := pb_n0.mp c_86
                refine pe_iconst (v := -1) d_Mo_op_89 (by decide) ?_
                refine pe_iret d_Mo_op_90 rfl ?_
                exact ⟨rfl, rfl, rfl⟩
            · refine pe_aload_n d_Mo_op_57 rfl ?_
              refine pe_iload d_Mo_op_58 rfl ?_
              refine pe_bipush (v := nI 16) d_Mo_op_60 (by decide) ?_
              -- 62: Mo_out
              refine pe_callV d_Mo_op_62 m_Mo_111 j_Mo_out v_Mo_out (c_Mo_out hMo hnp hnb _ _) rfl rfl (by simp [Value.category]) (by decide) hMo rfl rfl ?_
              intro v1 h1 z1 hq1
              obtain ⟨rfl, rfl, rfl⟩ := hq1
              change pz_E _ _ _ _ _ _ _ _ _ (_ :: _) _ _ _
              refine pe_if_ne (tgt := 79) d_Mo_op_65 (by decide) (fun c_65 => ?_) (fun c_65 => ?_)
              · have c_65 := pb_n0.mp c_65
                refine pe_iconst (v := -1) d_Mo_op_79 (by decide) ?_
                refine pe_iret d_Mo_op_80 rfl ?_
                exact ⟨rfl, rfl, rfl⟩
              · have c_65 := pb_0.mp c_65
                refine pe_aload_n d_Mo_op_68 rfl ?_
                refine pe_iload d_Mo_op_69 rfl ?_
                refine pe_bipush (v := nI 16) d_Mo_op_71 (by decide) ?_
                -- 73: Mo_out
                refine pe_callV d_Mo_op_73 m_Mo_111 j_Mo_out v_Mo_out (c_Mo_out hMo hnp hnb _ _) rfl rfl (by simp [Value.category]) (by decide) hMo rfl rfl ?_
                intro v1 h1 z1 hq1
                obtain ⟨rfl, rfl, rfl⟩ := hq1
                change pz_E _ _ _ _ _ _ _ _ _ (_ :: _) _ _ _
                refine pe_if_eq (tgt := 81) d_Mo_op_76 (by decide) (fun c_76 => ?_) (fun c_76 => ?_)
                · have c_76 := pb_0.mp c_76
                  refine pe_aload_n d_Mo_op_81 rfl ?_
                  refine pe_iload_n d_Mo_op_82 rfl ?_
                  -- 83: Mo_shut
                  refine pe_callV d_Mo_op_83 m_Mo_126 j_Mo_shut v_Mo_shut (c_Mo_shut hMo hnp hnb hOp _) rfl rfl (by simp [Value.category]) (by decide) hMo rfl rfl ?_
                  intro v1 h1 z1 hq1
                  obtain ⟨rfl, rfl, rfl⟩ := hq1
                  change pz_E _ _ _ _ _ _ _ _ _ (_ :: _) _ _ _
                  refine pe_if_eq (tgt := 91) d_Mo_op_86 (by decide) (fun c_86 => ?_) (fun c_86 => ?_)
                  · have c_86 := pb_0.mp c_86
                    exact absurd (show (opn Mop x && insOk c k y n) = true from by rw [nb_f c_86, insOk_i (ot_f c_7) (fun q => by first | exact ot_f c_24 | exact absurd q (Int32.not_lt.mpr c_14)) (fun q => by first | exact ot_f c_40 | exact absurd q c_30) (fun q r => by first | exact ⟨ot_f c_65, ot_f c_76⟩ | exact absurd q (Int32.not_lt.mpr c_48) | exact absurd r (Int32.not_lt.mpr c_54))]; rfl) (by rw [hno]; decide)
                  · have c_86 := pb_n0.mp c_86
                    refine pe_iconst (v := -1) d_Mo_op_89 (by decide) ?_
                    refine pe_iret d_Mo_op_90 rfl ?_
                    exact ⟨rfl, rfl, rfl⟩
                · have c_76 := pb_n0.mp c_76
                  refine pe_iconst (v := -1) d_Mo_op_79 (by decide) ?_
                  refine pe_iret d_Mo_op_80 rfl ?_
                  exact ⟨rfl, rfl, rfl⟩
        · refine pe_aload_n d_Mo_op_33 rfl ?_
          refine pe_iload_n d_Mo_op_34 rfl ?_
          refine pe_bipush (v := nI 32) d_Mo_op_35 (by decide) ?_
          -- 37: Mo_out
          refine pe_callV d_Mo_op_37 m_Mo_111 j_Mo_out v_Mo_out (c_Mo_out hMo hnp hnb _ _) rfl rfl (by simp [Value.category]) (by decide) hMo rfl rfl ?_
          intro v1 h1 z1 hq1
          obtain ⟨rfl, rfl, rfl⟩ := hq1
          change pz_E _ _ _ _ _ _ _ _ _ (_ :: _) _ _ _
          refine pe_if_eq (tgt := 45) d_Mo_op_40 (by decide) (fun c_40 => ?_) (fun c_40 => ?_)
          · have c_40 := pb_0.mp c_40
            refine pe_iload_n d_Mo_op_45 rfl ?_
            refine pe_bipush (v := nI 6) d_Mo_op_46 (by decide) ?_
            refine pe_icmp_le (tgt := 81) d_Mo_op_48 (by decide) (fun c_48 => ?_) (fun c_48 => ?_)
            · refine pe_aload_n d_Mo_op_81 rfl ?_
              refine pe_iload_n d_Mo_op_82 rfl ?_
              -- 83: Mo_shut
              refine pe_callV d_Mo_op_83 m_Mo_126 j_Mo_shut v_Mo_shut (c_Mo_shut hMo hnp hnb hOp _) rfl rfl (by simp [Value.category]) (by decide) hMo rfl rfl ?_
              intro v1 h1 z1 hq1
              obtain ⟨rfl, rfl, rfl⟩ := hq1
              change pz_E _ _ _ _ _ _ _ _ _ (_ :: _) _ _ _
              refine pe_if_eq (tgt := 91) d_Mo_op_86 (by decide) (fun c_86 => ?_) (fun c_86 => ?_)
              · have c_86 := pb_0.mp c_86
                exact absurd (show (opn Mop x && insOk c k y n) = true from by rw [nb_f c_86, insOk_i (ot_f c_7) (fun q => by first | exact ot_f c_24 | exact absurd q (Int32.not_lt.mpr c_14)) (fun q => by first | exact ot_f c_40 | exact absurd q c_30) (fun q r => by first | exact ⟨ot_f c_65, ot_f c_76⟩ | exact absurd q (Int32.not_lt.mpr c_48) | exact absurd r (Int32.not_lt.mpr c_54))]; rfl) (by rw [hno]; decide)
              · have c_86 := pb_n0.mp c_86
                refine pe_iconst (v := -1) d_Mo_op_89 (by decide) ?_
                refine pe_iret d_Mo_op_90 rfl ?_
                exact ⟨rfl, rfl, rfl⟩
            · refine pe_iload_n d_Mo_op_51 rfl ?_
              refine pe_bipush (v := nI 10) d_Mo_op_52 (by decide) ?_
              refine pe_icmp_ge (tgt := 81) d_Mo_op_54 (by decide) (fun c_54 => ?_) (fun c_54 => ?_)
              · refine pe_aload_n d_Mo_op_81 rfl ?_
                refine pe_iload_n d_Mo_op_82 rfl ?_
                -- 83: Mo_shut
                refine pe_callV d_Mo_op_83 m_Mo_126 j_Mo_shut v_Mo_shut (c_Mo_shut hMo hnp hnb hOp _) rfl rfl (by simp [Value.category]) (by decide) hMo rfl rfl ?_
                intro v1 h1 z1 hq1
                obtain ⟨rfl, rfl, rfl⟩ := hq1
                change pz_E _ _ _ _ _ _ _ _ _ (_ :: _) _ _ _
                refine pe_if_eq (tgt := 91) d_Mo_op_86 (by decide) (fun c_86 => ?_) (fun c_86 => ?_)
                · have c_86 := pb_0.mp c_86
                  exact absurd (show (opn Mop x && insOk c k y n) = true from by rw [nb_f c_86, insOk_i (ot_f c_7) (fun q => by first | exact ot_f c_24 | exact absurd q (Int32.not_lt.mpr c_14)) (fun q => by first | exact ot_f c_40 | exact absurd q c_30) (fun q r => by first | exact ⟨ot_f c_65, ot_f c_76⟩ | exact absurd q (Int32.not_lt.mpr c_48) | exact absurd r (Int32.not_lt.mpr c_54))]; rfl) (by rw [hno]; decide)
                · have c_86 := pb_n0.mp c_86
                  refine pe_iconst (v := -1) d_Mo_op_89 (by decide) ?_
                  refine pe_iret d_Mo_op_90 rfl ?_
                  exact ⟨rfl, rfl, rfl⟩
              · refine pe_aload_n d_Mo_op_57 rfl ?_
                refine pe_iload d_Mo_op_58 rfl ?_
                refine pe_bipush (v := nI 16) d_Mo_op_60 (by decide) ?_
                -- 62: Mo_out
                refine pe_callV d_Mo_op_62 m_Mo_111 j_Mo_out v_Mo_out (c_Mo_out hMo hnp hnb _ _) rfl rfl (by simp [Value.category]) (by decide) hMo rfl rfl ?_
                intro v1 h1 z1 hq1
                obtain ⟨rfl, rfl, rfl⟩ := hq1
                change pz_E _ _ _ _ _ _ _ _ _ (_ :: _) _ _ _
                refine pe_if_ne (tgt := 79) d_Mo_op_65 (by decide) (fun c_65 => ?_) (fun c_65 => ?_)
                · have c_65 := pb_n0.mp c_65
                  refine pe_iconst (v := -1) d_Mo_op_79 (by decide) ?_
                  refine pe_iret d_Mo_op_80 rfl ?_
                  exact ⟨rfl, rfl, rfl⟩
                · have c_65 := pb_0.mp c_65
                  refine pe_aload_n d_Mo_op_68 rfl ?_
                  refine pe_iload d_Mo_op_69 rfl ?_
                  refine pe_bipush (v := nI 16) d_Mo_op_71 (by decide) ?_
                  -- 73: Mo_out
                  refine pe_callV d_Mo_op_73 m_Mo_111 j_Mo_out v_Mo_out (c_Mo_out hMo hnp hnb _ _) rfl rfl (by simp [Value.category]) (by decide) hMo rfl rfl ?_
                  intro v1 h1 z1 hq1
                  obtain ⟨rfl, rfl, rfl⟩ := hq1
                  change pz_E _ _ _ _ _ _ _ _ _ (_ :: _) _ _ _
                  refine pe_if_eq (tgt := 81) d_Mo_op_76 (by decide) (fun c_76 => ?_) (fun c_76 => ?_)
                  · have c_76 := pb_0.mp c_76
                    refine pe_aload_n d_Mo_op_81 rfl ?_
                    refine pe_iload_n d_Mo_op_82 rfl ?_
                    -- 83: Mo_shut
                    refine pe_callV d_Mo_op_83 m_Mo_126 j_Mo_shut v_Mo_shut (c_Mo_shut hMo hnp hnb hOp _) rfl rfl (by simp [Value.category]) (by decide) hMo rfl rfl ?_
                    intro v1 h1 z1 hq1
                    obtain ⟨rfl, rfl, rfl⟩ := hq1
                    change pz_E _ _ _ _ _ _ _ _ _ (_ :: _) _ _ _
                    refine pe_if_eq (tgt := 91) d_Mo_op_86 (by decide) (fun c_86 => ?_) (fun c_86 => ?_)
                    · have c_86 := pb_0.mp c_86
                      exact absurd (show (opn Mop x && insOk c k y n) = true from by rw [nb_f c_86, insOk_i (ot_f c_7) (fun q => by first | exact ot_f c_24 | exact absurd q (Int32.not_lt.mpr c_14)) (fun q => by first | exact ot_f c_40 | exact absurd q c_30) (fun q r => by first | exact ⟨ot_f c_65, ot_f c_76⟩ | exact absurd q (Int32.not_lt.mpr c_48) | exact absurd r (Int32.not_lt.mpr c_54))]; rfl) (by rw [hno]; decide)
                    · have c_86 := pb_n0.mp c_86
                      refine pe_iconst (v := -1) d_Mo_op_89 (by decide) ?_
                      refine pe_iret d_Mo_op_90 rfl ?_
                      exact ⟨rfl, rfl, rfl⟩
                  · have c_76 := pb_n0.mp c_76
                    refine pe_iconst (v := -1) d_Mo_op_79 (by decide) ?_
                    refine pe_iret d_Mo_op_80 rfl ?_
                    exact ⟨rfl, rfl, rfl⟩
          · have c_40 := pb_n0.mp c_40
            refine pe_iconst (v := -1) d_Mo_op_43 (by decide) ?_
            refine pe_iret d_Mo_op_44 rfl ?_
            exact ⟨rfl, rfl, rfl⟩
  · have c_7 := pb_n0.mp c_7
    refine pe_iconst (v := -1) d_Mo_op_10 (by decide) ?_
    refine pe_iret d_Mo_op_11 rfl ?_
    exact ⟨rfl, rfl, rfl⟩
set_option maxHeartbeats 4000000 in
set_option maxRecDepth 20000 in
theorem c_Mo_op_full {l : Launch} {L : Nat} {xs : Nat → Int32} {h : pz_H} {z : Nat} {np nb now tkg lst flt byt : Nat} {sa sx : Int32} (hMo : MOB h np nb now tkg lst flt byt sa sx) (hnp : np ≤ 32) (hnb : nb ≤ 32) {Mop : Nat → Bool} (hOp : AB h 167 6 Mop) {Mln : Nat → Nat} (hLn : AN h 178 12 Mln) {Mcd : Nat → Int32} (hCd : AI h 179 768 Mcd) {a : Nat} (ha : a < 6) (hop : Mop a = true) (c k y n : Int32) (hins : insOk c k y n = true) (hl : Mln a = 16) : pz_K l L xs M_Mo_op 2 0 0 [.ref 166, .int (nI a), .int c, .int k, .int y, .int n] h z (fun v h' z' => v = some (.int (-2)) ∧ h = h' ∧ z = z') := by
  refine pz_K.of rfl (Nat.le_of_ble_eq_true rfl) ?_
  obtain ⟨i1, i2, i3, i4⟩ := insOk_e hins
  have tail : pz_E l L xs M_Mo_op 2 0 0 81 [some (.ref 166), some (.int (nI a)), some (.int c), some (.int k), some (.int y), some (.int n), none] [] h z (fun v h' z' => v = some (.int (-2)) ∧ h = h' ∧ z = z') := by
    refine pe_aload_n d_Mo_op_81 rfl ?_
    refine pe_iload_n d_Mo_op_82 rfl ?_
    -- 83: Mo_shut
    refine pe_callV d_Mo_op_83 m_Mo_126 j_Mo_shut v_Mo_shut (c_Mo_shut hMo hnp hnb hOp _) rfl rfl (by simp [Value.category]) (by decide) hMo rfl rfl ?_
    intro v1 h1 z1 hq1
    obtain ⟨rfl, rfl, rfl⟩ := hq1
    change pz_E _ _ _ _ _ _ _ _ _ (_ :: _) _ _ _
    refine pe_if_eq (tgt := 91) d_Mo_op_86 (by decide) (fun c_86 => ?_) (fun c_86 => ?_)
    · have c_86 := pb_0.mp c_86
      refine pe_aload_n d_Mo_op_91 rfl ?_
      refine pe_getf d_Mo_op_92 f_Mo_54 hMo rfl ?_
      refine pe_iload_n d_Mo_op_95 rfl ?_
      refine pe_ialdN d_Mo_op_96 hLn (by omega) (by omega) ?_
      refine pe_bipush (v := nI 16) d_Mo_op_97 (by decide) ?_
      refine pe_icmpN_ne (tgt := 105) d_Mo_op_99 (by decide) (by omega) (by omega) (fun c_99 => ?_) (fun c_99 => ?_)
      · exact absurd hl c_99
      · refine pe_bipush (v := -2) d_Mo_op_102 (by decide) ?_
        refine pe_iret d_Mo_op_104 rfl ?_
        exact ⟨rfl, rfl, rfl⟩
    · have c_86 := pb_n0.mp c_86
      exact absurd c_86 (by rw [opn_a ha, hop]; decide)
  change pz_E l L xs M_Mo_op 2 0 0 0 [some (.ref 166), some (.int (nI a)), some (.int c), some (.int k), some (.int y), some (.int n), none] [] h z _
  refine pe_aload_n d_Mo_op_0 rfl ?_
  refine pe_iload_n d_Mo_op_1 rfl ?_
  refine pe_bipush (v := nI 12) d_Mo_op_2 (by decide) ?_
  -- 4: Mo_out
  refine pe_callV d_Mo_op_4 m_Mo_111 j_Mo_out v_Mo_out (c_Mo_out hMo hnp hnb _ _) rfl rfl (by simp [Value.category]) (by decide) hMo rfl rfl ?_
  intro v1 h1 z1 hq1
  obtain ⟨rfl, rfl, rfl⟩ := hq1
  change pz_E _ _ _ _ _ _ _ _ _ (_ :: _) _ _ _
  refine pe_if_eq (tgt := 12) d_Mo_op_7 (by decide) (fun c_7 => ?_) (fun c_7 => ?_)
  · have c_7 := pb_0.mp c_7
    refine pe_iload_n d_Mo_op_12 rfl ?_
    refine pe_iconst (v := nI 2) d_Mo_op_13 (by decide) ?_
    refine pe_icmp_ge (tgt := 27) d_Mo_op_14 (by decide) (fun c_14 => ?_) (fun c_14 => ?_)
    · refine pe_iload_n d_Mo_op_27 rfl ?_
      refine pe_bipush (v := nI 6) d_Mo_op_28 (by decide) ?_
      refine pe_icmp_ne (tgt := 45) d_Mo_op_30 (by decide) (fun c_30 => ?_) (fun c_30 => ?_)
      · refine pe_iload_n d_Mo_op_45 rfl ?_
        refine pe_bipush (v := nI 6) d_Mo_op_46 (by decide) ?_
        refine pe_icmp_le (tgt := 81) d_Mo_op_48 (by decide) (fun c_48 => ?_) (fun c_48 => ?_)
        · exact tail
        · refine pe_iload_n d_Mo_op_51 rfl ?_
          refine pe_bipush (v := nI 10) d_Mo_op_52 (by decide) ?_
          refine pe_icmp_ge (tgt := 81) d_Mo_op_54 (by decide) (fun c_54 => ?_) (fun c_54 => ?_)
          · exact tail
          · refine pe_aload_n d_Mo_op_57 rfl ?_
            refine pe_iload d_Mo_op_58 rfl ?_
            refine pe_bipush (v := nI 16) d_Mo_op_60 (by decide) ?_
            -- 62: Mo_out
            refine pe_callV d_Mo_op_62 m_Mo_111 j_Mo_out v_Mo_out (c_Mo_out hMo hnp hnb _ _) rfl rfl (by simp [Value.category]) (by decide) hMo rfl rfl ?_
            intro v1 h1 z1 hq1
            obtain ⟨rfl, rfl, rfl⟩ := hq1
            change pz_E _ _ _ _ _ _ _ _ _ (_ :: _) _ _ _
            refine pe_if_ne (tgt := 79) d_Mo_op_65 (by decide) (fun c_65 => ?_) (fun c_65 => ?_)
            · have c_65 := pb_n0.mp c_65
              exact absurd (i4 (Int32.not_le.mp c_48) (Int32.not_le.mp c_54)).1 (by rw [ot_t c_65]; decide)
            · have c_65 := pb_0.mp c_65
              refine pe_aload_n d_Mo_op_68 rfl ?_
              refine pe_iload d_Mo_op_69 rfl ?_
              refine pe_bipush (v := nI 16) d_Mo_op_71 (by decide) ?_
              -- 73: Mo_out
              refine pe_callV d_Mo_op_73 m_Mo_111 j_Mo_out v_Mo_out (c_Mo_out hMo hnp hnb _ _) rfl rfl (by simp [Value.category]) (by decide) hMo rfl rfl ?_
              intro v1 h1 z1 hq1
              obtain ⟨rfl, rfl, rfl⟩ := hq1
              change pz_E _ _ _ _ _ _ _ _ _ (_ :: _) _ _ _
              refine pe_if_eq (tgt := 81) d_Mo_op_76 (by decide) (fun c_76 => ?_) (fun c_76 => ?_)
              · have c_76 := pb_0.mp c_76
                exact tail
              · have c_76 := pb_n0.mp c_76
                exact absurd (i4 (Int32.not_le.mp c_48) (Int32.not_le.mp c_54)).2 (by rw [ot_t c_76]; decide)
      · refine pe_aload_n d_Mo_op_33 rfl ?_
        refine pe_iload_n d_Mo_op_34 rfl ?_
        refine pe_bipush (v := nI 32) d_Mo_op_35 (by decide) ?_
        -- 37: Mo_out
        refine pe_callV d_Mo_op_37 m_Mo_111 j_Mo_out v_Mo_out (c_Mo_out hMo hnp hnb _ _) rfl rfl (by simp [Value.category]) (by decide) hMo rfl rfl ?_
        intro v1 h1 z1 hq1
        obtain ⟨rfl, rfl, rfl⟩ := hq1
        change pz_E _ _ _ _ _ _ _ _ _ (_ :: _) _ _ _
        refine pe_if_eq (tgt := 45) d_Mo_op_40 (by decide) (fun c_40 => ?_) (fun c_40 => ?_)
        · have c_40 := pb_0.mp c_40
          refine pe_iload_n d_Mo_op_45 rfl ?_
          refine pe_bipush (v := nI 6) d_Mo_op_46 (by decide) ?_
          refine pe_icmp_le (tgt := 81) d_Mo_op_48 (by decide) (fun c_48 => ?_) (fun c_48 => ?_)
          · exact tail
          · refine pe_iload_n d_Mo_op_51 rfl ?_
            refine pe_bipush (v := nI 10) d_Mo_op_52 (by decide) ?_
            refine pe_icmp_ge (tgt := 81) d_Mo_op_54 (by decide) (fun c_54 => ?_) (fun c_54 => ?_)
            · exact tail
            · refine pe_aload_n d_Mo_op_57 rfl ?_
              refine pe_iload d_Mo_op_58 rfl ?_
              refine pe_bipush (v := nI 16) d_Mo_op_60 (by decide) ?_
              -- 62: Mo_out
              refine pe_callV d_Mo_op_62 m_Mo_111 j_Mo_out v_Mo_out (c_Mo_out hMo hnp hnb _ _) rfl rfl (by simp [Value.category]) (by decide) hMo rfl rfl ?_
              intro v1 h1 z1 hq1
              obtain ⟨rfl, rfl, rfl⟩ := hq1
              change pz_E _ _ _ _ _ _ _ _ _ (_ :: _) _ _ _
              refine pe_if_ne (tgt := 79) d_Mo_op_65 (by decide) (fun c_65 => ?_) (fun c_65 => ?_)
              · have c_65 := pb_n0.mp c_65
                exact absurd (i4 (Int32.not_le.mp c_48) (Int32.not_le.mp c_54)).1 (by rw [ot_t c_65]; decide)
              · have c_65 := pb_0.mp c_65
                refine pe_aload_n d_Mo_op_68 rfl ?_
                refine pe_iload d_Mo_op_69 rfl ?_
                refine pe_bipush (v := nI 16) d_Mo_op_71 (by decide) ?_
                -- 73: Mo_out
                refine pe_callV d_Mo_op_73 m_Mo_111 j_Mo_out v_Mo_out (c_Mo_out hMo hnp hnb _ _) rfl rfl (by simp [Value.category]) (by decide) hMo rfl rfl ?_
                intro v1 h1 z1 hq1
                obtain ⟨rfl, rfl, rfl⟩ := hq1
                change pz_E _ _ _ _ _ _ _ _ _ (_ :: _) _ _ _
                refine pe_if_eq (tgt := 81) d_Mo_op_76 (by decide) (fun c_76 => ?_) (fun c_76 => ?_)
                · have c_76 := pb_0.mp c_76
                  exact tail
                · have c_76 := pb_n0.mp c_76
                  exact absurd (i4 (Int32.not_le.mp c_48) (Int32.not_le.mp c_54)).2 (by rw [ot_t c_76]; decide)
        · have c_40 := pb_n0.mp c_40
          exact absurd (i3 c_30) (by rw [ot_t c_40]; decide)
    · refine pe_aload_n d_Mo_op_17 rfl ?_
      refine pe_iload_n d_Mo_op_18 rfl ?_
      refine pe_bipush (v := nI 64) d_Mo_op_19 (by decide) ?_
      -- 21: Mo_out
      refine pe_callV d_Mo_op_21 m_Mo_111 j_Mo_out v_Mo_out (c_Mo_out hMo hnp hnb _ _) rfl rfl (by simp [Value.category]) (by decide) hMo rfl rfl ?_
      intro v1 h1 z1 hq1
      obtain ⟨rfl, rfl, rfl⟩ := hq1
      change pz_E _ _ _ _ _ _ _ _ _ (_ :: _) _ _ _
      refine pe_if_ne (tgt := 43) d_Mo_op_24 (by decide) (fun c_24 => ?_) (fun c_24 => ?_)
      · have c_24 := pb_n0.mp c_24
        exact absurd (i2 (Int32.not_le.mp c_14)) (by rw [ot_t c_24]; decide)
      · have c_24 := pb_0.mp c_24
        refine pe_iload_n d_Mo_op_27 rfl ?_
        refine pe_bipush (v := nI 6) d_Mo_op_28 (by decide) ?_
        refine pe_icmp_ne (tgt := 45) d_Mo_op_30 (by decide) (fun c_30 => ?_) (fun c_30 => ?_)
        · refine pe_iload_n d_Mo_op_45 rfl ?_
          refine pe_bipush (v := nI 6) d_Mo_op_46 (by decide) ?_
          refine pe_icmp_le (tgt := 81) d_Mo_op_48 (by decide) (fun c_48 => ?_) (fun c_48 => ?_)
          · exact tail
          · refine pe_iload_n d_Mo_op_51 rfl ?_
            refine pe_bipush (v := nI 10) d_Mo_op_52 (by decide) ?_
            refine pe_icmp_ge (tgt := 81) d_Mo_op_54 (by decide) (fun c_54 => ?_) (fun c_54 => ?_)
            · exact tail
            · refine pe_aload_n d_Mo_op_57 rfl ?_
              refine pe_iload d_Mo_op_58 rfl ?_
              refine pe_bipush (v := nI 16) d_Mo_op_60 (by decide) ?_
              -- 62: Mo_out
              refine pe_callV d_Mo_op_62 m_Mo_111 j_Mo_out v_Mo_out (c_Mo_out hMo hnp hnb _ _) rfl rfl (by simp [Value.category]) (by decide) hMo rfl rfl ?_
              intro v1 h1 z1 hq1
              obtain ⟨rfl, rfl, rfl⟩ := hq1
              change pz_E _ _ _ _ _ _ _ _ _ (_ :: _) _ _ _
              refine pe_if_ne (tgt := 79) d_Mo_op_65 (by decide) (fun c_65 => ?_) (fun c_65 => ?_)
              · have c_65 := pb_n0.mp c_65
                exact absurd (i4 (Int32.not_le.mp c_48) (Int32.not_le.mp c_54)).1 (by rw [ot_t c_65]; decide)
              · have c_65 := pb_0.mp c_65
                refine pe_aload_n d_Mo_op_68 rfl ?_
                refine pe_iload d_Mo_op_69 rfl ?_
                refine pe_bipush (v := nI 16) d_Mo_op_71 (by decide) ?_
                -- 73: Mo_out
                refine pe_callV d_Mo_op_73 m_Mo_111 j_Mo_out v_Mo_out (c_Mo_out hMo hnp hnb _ _) rfl rfl (by simp [Value.category]) (by decide) hMo rfl rfl ?_
                intro v1 h1 z1 hq1
                obtain ⟨rfl, rfl, rfl⟩ := hq1
                change pz_E _ _ _ _ _ _ _ _ _ (_ :: _) _ _ _
                refine pe_if_eq (tgt := 81) d_Mo_op_76 (by decide) (fun c_76 => ?_) (fun c_76 => ?_)
                · have c_76 := pb_0.mp c_76
                  exact tail
                · have c_76 := pb_n0.mp c_76
                  exact absurd (i4 (Int32.not_le.mp c_48) (Int32.not_le.mp c_54)).2 (by rw [ot_t c_76]; decide)
        · refine pe_aload_n d_Mo_op_33 rfl ?_
          refine pe_iload_n d_Mo_op_34 rfl ?_
          refine pe_bipush (v := nI 32) d_Mo_op_35 (by decide) ?_
          -- 37: Mo_out
          refine pe_callV d_Mo_op_37 m_Mo_111 j_Mo_out v_Mo_out (c_Mo_out hMo hnp hnb _ _) rfl rfl (by simp [Value.category]) (by decide) hMo rfl rfl ?_
          intro v1 h1 z1 hq1
          obtain ⟨rfl, rfl, rfl⟩ := hq1
          change pz_E _ _ _ _ _ _ _ _ _ (_ :: _) _ _ _
          refine pe_if_eq (tgt := 45) d_Mo_op_40 (by decide) (fun c_40 => ?_) (fun c_40 => ?_)
          · have c_40 := pb_0.mp c_40
            refine pe_iload_n d_Mo_op_45 rfl ?_
            refine pe_bipush (v := nI 6) d_Mo_op_46 (by decide) ?_
            refine pe_icmp_le (tgt := 81) d_Mo_op_48 (by decide) (fun c_48 => ?_) (fun c_48 => ?_)
            · exact tail
            · refine pe_iload_n d_Mo_op_51 rfl ?_
              refine pe_bipush (v := nI 10) d_Mo_op_52 (by decide) ?_
              refine pe_icmp_ge (tgt := 81) d_Mo_op_54 (by decide) (fun c_54 => ?_) (fun c_54 => ?_)
              · exact tail
              · refine pe_aload_n d_Mo_op_57 rfl ?_
                refine pe_iload d_Mo_op_58 rfl ?_
                refine pe_bipush (v := nI 16) d_Mo_op_60 (by decide) ?_
                -- 62: Mo_out
                refine pe_callV d_Mo_op_62 m_Mo_111 j_Mo_out v_Mo_out (c_Mo_out hMo hnp hnb _ _) rfl rfl (by simp [Value.category]) (by decide) hMo rfl rfl ?_
                intro v1 h1 z1 hq1
                obtain ⟨rfl, rfl, rfl⟩ := hq1
                change pz_E _ _ _ _ _ _ _ _ _ (_ :: _) _ _ _
                refine pe_if_ne (tgt := 79) d_Mo_op_65 (by decide) (fun c_65 => ?_) (fun c_65 => ?_)
                · have c_65 := pb_n0.mp c_65
                  exact absurd (i4 (Int32.not_le.mp c_48) (Int32.not_le.mp c_54)).1 (by rw [ot_t c_65]; decide)
                · have c_65 := pb_0.mp c_65
                  refine pe_aload_n d_Mo_op_68 rfl ?_
                  refine pe_iload d_Mo_op_69 rfl ?_
                  refine pe_bipush (v := nI 16) d_Mo_op_71 (by decide) ?_
                  -- 73: Mo_out
                  refine pe_callV d_Mo_op_73 m_Mo_111 j_Mo_out v_Mo_out (c_Mo_out hMo hnp hnb _ _) rfl rfl (by simp [Value.category]) (by decide) hMo rfl rfl ?_
                  intro v1 h1 z1 hq1
                  obtain ⟨rfl, rfl, rfl⟩ := hq1
                  change pz_E _ _ _ _ _ _ _ _ _ (_ :: _) _ _ _
                  refine pe_if_eq (tgt := 81) d_Mo_op_76 (by decide) (fun c_76 => ?_) (fun c_76 => ?_)
                  · have c_76 := pb_0.mp c_76
                    exact tail
                  · have c_76 := pb_n0.mp c_76
                    exact absurd (i4 (Int32.not_le.mp c_48) (Int32.not_le.mp c_54)).2 (by rw [ot_t c_76]; decide)
          · have c_40 := pb_n0.mp c_40
            exact absurd (i3 c_30) (by rw [ot_t c_40]; decide)
  · have c_7 := pb_n0.mp c_7
    exact absurd i1 (by rw [ot_t c_7]; decide)
set_option maxHeartbeats 4000000 in
set_option maxRecDepth 20000 in
theorem c_Mo_op_ok {l : Launch} {L : Nat} {xs : Nat → Int32} {h : pz_H} {z : Nat} {np nb now tkg lst flt byt : Nat} {sa sx : Int32} (hMo : MOB h np nb now tkg lst flt byt sa sx) (hnp : np ≤ 32) (hnb : nb ≤ 32) {Mop : Nat → Bool} (hOp : AB h 167 6 Mop) {Mln : Nat → Nat} (hLn : AN h 178 12 Mln) {Mcd : Nat → Int32} (hCd : AI h 179 768 Mcd) {a : Nat} (ha : a < 6) (hop : Mop a = true) (c k y n : Int32) (hins : insOk c k y n = true) (hl : Mln a < 16) : pz_K l L xs M_Mo_op 2 0 0 [.ref 166, .int (nI a), .int c, .int k, .int y, .int n] h z (fun v h' z' => v = some (.int (nI (Mln a))) ∧ z = z' ∧ AN h' 178 12 (va_up Mln a (Mln a + 1)) ∧ AI h' 179 768 (upd (upd (upd (upd Mcd (a * 64 + Mln a * 4) c) ((a * 64 + Mln a * 4) + 1) k) ((a * 64 + Mln a * 4) + 2) y) ((a * 64 + Mln a * 4) + 3) n) ∧ frx [178, 179] h h') := by
  refine pz_K.of rfl (Nat.le_of_ble_eq_true rfl) ?_
  obtain ⟨i1, i2, i3, i4⟩ := insOk_e hins
  have hf : frx [178, 179] h h := frx.rf
  have tail : pz_E l L xs M_Mo_op 2 0 0 81 [some (.ref 166), some (.int (nI a)), some (.int c), some (.int k), some (.int y), some (.int n), none] [] h z (fun v h' z' => v = some (.int (nI (Mln a))) ∧ z = z' ∧ AN h' 178 12 (va_up Mln a (Mln a + 1)) ∧ AI h' 179 768 (upd (upd (upd (upd Mcd (a * 64 + Mln a * 4) c) ((a * 64 + Mln a * 4) + 1) k) ((a * 64 + Mln a * 4) + 2) y) ((a * 64 + Mln a * 4) + 3) n) ∧ frx [178, 179] h h') := by
    refine pe_aload_n d_Mo_op_81 rfl ?_
    refine pe_iload_n d_Mo_op_82 rfl ?_
    -- 83: Mo_shut
    refine pe_callV d_Mo_op_83 m_Mo_126 j_Mo_shut v_Mo_shut (c_Mo_shut hMo hnp hnb hOp _) rfl rfl (by simp [Value.category]) (by decide) hMo rfl rfl ?_
    intro v1 h1 z1 hq1
    obtain ⟨rfl, rfl, rfl⟩ := hq1
    change pz_E _ _ _ _ _ _ _ _ _ (_ :: _) _ _ _
    refine pe_if_eq (tgt := 91) d_Mo_op_86 (by decide) (fun c_86 => ?_) (fun c_86 => ?_)
    · have c_86 := pb_0.mp c_86
      refine pe_aload_n d_Mo_op_91 rfl ?_
      refine pe_getf d_Mo_op_92 f_Mo_54 hMo rfl ?_
      refine pe_iload_n d_Mo_op_95 rfl ?_
      refine pe_ialdN d_Mo_op_96 hLn (by omega) (by omega) ?_
      refine pe_bipush (v := nI 16) d_Mo_op_97 (by decide) ?_
      refine pe_icmpN_ne (tgt := 105) d_Mo_op_99 (by decide) (by omega) (by omega) (fun c_99 => ?_) (fun c_99 => ?_)
      · refine pe_iload_n d_Mo_op_105 rfl ?_
        refine pe_bipush (v := nI 64) d_Mo_op_106 (by decide) ?_
        refine pe_imulN d_Mo_op_108 ?_
        refine pe_aload_n d_Mo_op_109 rfl ?_
        refine pe_getf d_Mo_op_110 f_Mo_54 hMo rfl ?_
        refine pe_iload_n d_Mo_op_113 rfl ?_
        refine pe_ialdN d_Mo_op_114 hLn (by omega) (by omega) ?_
        refine pe_iconst (v := nI 4) d_Mo_op_115 (by decide) ?_
        refine pe_imulN d_Mo_op_116 ?_
        refine pe_iaddN d_Mo_op_117 ?_
        refine pe_istore d_Mo_op_118 (by decide) rfl ?_
        dsimp only [List.set]
        refine pe_aload_n d_Mo_op_120 rfl ?_
        refine pe_getf d_Mo_op_121 f_Mo_57 hMo rfl ?_
        refine pe_iload d_Mo_op_124 rfl ?_
        refine pe_iload_n d_Mo_op_126 rfl ?_
        refine pe_iastN d_Mo_op_127 hCd (by omega) (by omega) ?_
        refine pe_pu (fun h2 e2 o2 => ?_)
        have hMo := (o2 (166) (by omega)).trans hMo
        have hOp := (o2 (167) (by omega)).trans hOp
        have hLn := (o2 (178) (by omega)).trans hLn
        have hCd := e2
        have hf := hf.st o2 (by decide)
        refine pe_aload_n d_Mo_op_128 rfl ?_
        refine pe_getf d_Mo_op_129 f_Mo_57 hMo rfl ?_
        refine pe_iload d_Mo_op_132 rfl ?_
        refine pe_iconst (v := nI 1) d_Mo_op_134 (by decide) ?_
        refine pe_iaddN d_Mo_op_135 ?_
        refine pe_iload_n d_Mo_op_136 rfl ?_
        refine pe_iastN d_Mo_op_137 hCd (by omega) (by omega) ?_
        refine pe_pu (fun h2 e2 o2 => ?_)
        have hMo := (o2 (166) (by omega)).trans hMo
        have hOp := (o2 (167) (by omega)).trans hOp
        have hLn := (o2 (178) (by omega)).trans hLn
        have hCd := e2
        have hf := hf.st o2 (by decide)
        refine pe_aload_n d_Mo_op_138 rfl ?_
        refine pe_getf d_Mo_op_139 f_Mo_57 hMo rfl ?_
        refine pe_iload d_Mo_op_142 rfl ?_
        refine pe_iconst (v := nI 2) d_Mo_op_144 (by decide) ?_
        refine pe_iaddN d_Mo_op_145 ?_
        refine pe_iload d_Mo_op_146 rfl ?_
        refine pe_iastN d_Mo_op_148 hCd (by omega) (by omega) ?_
        refine pe_pu (fun h2 e2 o2 => ?_)
        have hMo := (o2 (166) (by omega)).trans hMo
        have hOp := (o2 (167) (by omega)).trans hOp
        have hLn := (o2 (178) (by omega)).trans hLn
        have hCd := e2
        have hf := hf.st o2 (by decide)
        refine pe_aload_n d_Mo_op_149 rfl ?_
        refine pe_getf d_Mo_op_150 f_Mo_57 hMo rfl ?_
        refine pe_iload d_Mo_op_153 rfl ?_
        refine pe_iconst (v := nI 3) d_Mo_op_155 (by decide) ?_
        refine pe_iaddN d_Mo_op_156 ?_
        refine pe_iload d_Mo_op_157 rfl ?_
        refine pe_iastN d_Mo_op_159 hCd (by omega) (by omega) ?_
        refine pe_pu (fun h2 e2 o2 => ?_)
        have hMo := (o2 (166) (by omega)).trans hMo
        have hOp := (o2 (167) (by omega)).trans hOp
        have hLn := (o2 (178) (by omega)).trans hLn
        have hCd := e2
        have hf := hf.st o2 (by decide)
        refine pe_aload_n d_Mo_op_160 rfl ?_
        refine pe_getf d_Mo_op_161 f_Mo_54 hMo rfl ?_
        refine pe_iload_n d_Mo_op_164 rfl ?_
        refine pe_dup2 d_Mo_op_165 rfl rfl ?_
        refine pe_ialdN d_Mo_op_166 hLn (by omega) (by omega) ?_
        refine pe_iconst (v := nI 1) d_Mo_op_167 (by decide) ?_
        refine pe_iaddN d_Mo_op_168 ?_
        refine pe_iastN d_Mo_op_169 hLn (by omega) (by omega) ?_
        rw [upn]
        refine pe_pu (fun h2 e2 o2 => ?_)
        have hMo := (o2 (166) (by omega)).trans hMo
        have hOp := (o2 (167) (by omega)).trans hOp
        have hLn := e2
        have hCd := (o2 (179) (by omega)).trans hCd
        have hf := hf.st o2 (by decide)
        refine pe_aload_n d_Mo_op_170 rfl ?_
        refine pe_getf d_Mo_op_171 f_Mo_54 hMo rfl ?_
        refine pe_iload_n d_Mo_op_174 rfl ?_
        refine pe_ialdN d_Mo_op_175 hLn (by omega) (by omega) ?_
        refine pe_top (y := .int (nI (Mln a + 1))) (by simp [va_up]) ?_
        refine pe_iconst (v := nI 1) d_Mo_op_176 (by decide) ?_
        refine pe_isubN d_Mo_op_177 (by omega) ?_
        refine pe_iret d_Mo_op_178 rfl ?_
        exact ⟨rfl, rfl, hLn, hCd, hf⟩
      · exfalso; omega
    · have c_86 := pb_n0.mp c_86
      exact absurd c_86 (by rw [opn_a ha, hop]; decide)
  change pz_E l L xs M_Mo_op 2 0 0 0 [some (.ref 166), some (.int (nI a)), some (.int c), some (.int k), some (.int y), some (.int n), none] [] h z _
  refine pe_aload_n d_Mo_op_0 rfl ?_
  refine pe_iload_n d_Mo_op_1 rfl ?_
  refine pe_bipush (v := nI 12) d_Mo_op_2 (by decide) ?_
  -- 4: Mo_out
  refine pe_callV d_Mo_op_4 m_Mo_111 j_Mo_out v_Mo_out (c_Mo_out hMo hnp hnb _ _) rfl rfl (by simp [Value.category]) (by decide) hMo rfl rfl ?_
  intro v1 h1 z1 hq1
  obtain ⟨rfl, rfl, rfl⟩ := hq1
  change pz_E _ _ _ _ _ _ _ _ _ (_ :: _) _ _ _
  refine pe_if_eq (tgt := 12) d_Mo_op_7 (by decide) (fun c_7 => ?_) (fun c_7 => ?_)
  · have c_7 := pb_0.mp c_7
    refine pe_iload_n d_Mo_op_12 rfl ?_
    refine pe_iconst (v := nI 2) d_Mo_op_13 (by decide) ?_
    refine pe_icmp_ge (tgt := 27) d_Mo_op_14 (by decide) (fun c_14 => ?_) (fun c_14 => ?_)
    · refine pe_iload_n d_Mo_op_27 rfl ?_
      refine pe_bipush (v := nI 6) d_Mo_op_28 (by decide) ?_
      refine pe_icmp_ne (tgt := 45) d_Mo_op_30 (by decide) (fun c_30 => ?_) (fun c_30 => ?_)
      · refine pe_iload_n d_Mo_op_45 rfl ?_
        refine pe_bipush (v := nI 6) d_Mo_op_46 (by decide) ?_
        refine pe_icmp_le (tgt := 81) d_Mo_op_48 (by decide) (fun c_48 => ?_) (fun c_48 => ?_)
        · exact tail
        · refine pe_iload_n d_Mo_op_51 rfl ?_
          refine pe_bipush (v := nI 10) d_Mo_op_52 (by decide) ?_
          refine pe_icmp_ge (tgt := 81) d_Mo_op_54 (by decide) (fun c_54 => ?_) (fun c_54 => ?_)
          · exact tail
          · refine pe_aload_n d_Mo_op_57 rfl ?_
            refine pe_iload d_Mo_op_58 rfl ?_
            refine pe_bipush (v := nI 16) d_Mo_op_60 (by decide) ?_
            -- 62: Mo_out
            refine pe_callV d_Mo_op_62 m_Mo_111 j_Mo_out v_Mo_out (c_Mo_out hMo hnp hnb _ _) rfl rfl (by simp [Value.category]) (by decide) hMo rfl rfl ?_
            intro v1 h1 z1 hq1
            obtain ⟨rfl, rfl, rfl⟩ := hq1
            change pz_E _ _ _ _ _ _ _ _ _ (_ :: _) _ _ _
            refine pe_if_ne (tgt := 79) d_Mo_op_65 (by decide) (fun c_65 => ?_) (fun c_65 => ?_)
            · have c_65 := pb_n0.mp c_65
              exact absurd (i4 (Int32.not_le.mp c_48) (Int32.not_le.mp c_54)).1 (by rw [ot_t c_65]; decide)
            · have c_65 := pb_0.mp c_65
              refine pe_aload_n d_Mo_op_68 rfl ?_
              refine pe_iload d_Mo_op_69 rfl ?_
              refine pe_bipush (v := nI 16) d_Mo_op_71 (by decide) ?_
              -- 73: Mo_out
              refine pe_callV d_Mo_op_73 m_Mo_111 j_Mo_out v_Mo_out (c_Mo_out hMo hnp hnb _ _) rfl rfl (by simp [Value.category]) (by decide) hMo rfl rfl ?_
              intro v1 h1 z1 hq1
              obtain ⟨rfl, rfl, rfl⟩ := hq1
              change pz_E _ _ _ _ _ _ _ _ _ (_ :: _) _ _ _
              refine pe_if_eq (tgt := 81) d_Mo_op_76 (by decide) (fun c_76 => ?_) (fun c_76 => ?_)
              · have c_76 := pb_0.mp c_76
                exact tail
              · have c_76 := pb_n0.mp c_76
                exact absurd (i4 (Int32.not_le.mp c_48) (Int32.not_le.mp c_54)).2 (by rw [ot_t c_76]; decide)
      · refine pe_aload_n d_Mo_op_33 rfl ?_
        refine pe_iload_n d_Mo_op_34 rfl ?_
        refine pe_bipush (v := nI 32) d_Mo_op_35 (by decide) ?_
        -- 37: Mo_out
        refine pe_callV d_Mo_op_37 m_Mo_111 j_Mo_out v_Mo_out (c_Mo_out hMo hnp hnb _ _) rfl rfl (by simp [Value.category]) (by decide) hMo rfl rfl ?_
        intro v1 h1 z1 hq1
        obtain ⟨rfl, rfl, rfl⟩ := hq1
        change pz_E _ _ _ _ _ _ _ _ _ (_ :: _) _ _ _
        refine pe_if_eq (tgt := 45) d_Mo_op_40 (by decide) (fun c_40 => ?_) (fun c_40 => ?_)
        · have c_40 := pb_0.mp c_40
          refine pe_iload_n d_Mo_op_45 rfl ?_
          refine pe_bipush (v := nI 6) d_Mo_op_46 (by decide) ?_
          refine pe_icmp_le (tgt := 81) d_Mo_op_48 (by decide) (fun c_48 => ?_) (fun c_48 => ?_)
          · exact tail
          · refine pe_iload_n d_Mo_op_51 rfl ?_
            refine pe_bipush (v := nI 10) d_Mo_op_52 (by decide) ?_
            refine pe_icmp_ge (tgt := 81) d_Mo_op_54 (by decide) (fun c_54 => ?_) (fun c_54 => ?_)
            · exact tail
            · refine pe_aload_n d_Mo_op_57 rfl ?_
              refine pe_iload d_Mo_op_58 rfl ?_
              refine pe_bipush (v := nI 16) d_Mo_op_60 (by decide) ?_
              -- 62: Mo_out
              refine pe_callV d_Mo_op_62 m_Mo_111 j_Mo_out v_Mo_out (c_Mo_out hMo hnp hnb _ _) rfl rfl (by simp [Value.category]) (by decide) hMo rfl rfl ?_
              intro v1 h1 z1 hq1
              obtain ⟨rfl, rfl, rfl⟩ := hq1
              change pz_E _ _ _ _ _ _ _ _ _ (_ :: _) _ _ _
              refine pe_if_ne (tgt := 79) d_Mo_op_65 (by decide) (fun c_65 => ?_) (fun c_65 => ?_)
              · have c_65 := pb_n0.mp c_65
                exact absurd (i4 (Int32.not_le.mp c_48) (Int32.not_le.mp c_54)).1 (by rw [ot_t c_65]; decide)
              · have c_65 := pb_0.mp c_65
                refine pe_aload_n d_Mo_op_68 rfl ?_
                refine pe_iload d_Mo_op_69 rfl ?_
                refine pe_bipush (v := nI 16) d_Mo_op_71 (by decide) ?_
                -- 73: Mo_out
                refine pe_callV d_Mo_op_73 m_Mo_111 j_Mo_out v_Mo_out (c_Mo_out hMo hnp hnb _ _) rfl rfl (by simp [Value.category]) (by decide) hMo rfl rfl ?_
                intro v1 h1 z1 hq1
                obtain ⟨rfl, rfl, rfl⟩ := hq1
                change pz_E _ _ _ _ _ _ _ _ _ (_ :: _) _ _ _
                refine pe_if_eq (tgt := 81) d_Mo_op_76 (by decide) (fun c_76 => ?_) (fun c_76 => ?_)
                · have c_76 := pb_0.mp c_76
                  exact tail
                · have c_76 := pb_n0.mp c_76
                  exact absurd (i4 (Int32.not_le.mp c_48) (Int32.not_le.mp c_54)).2 (by rw [ot_t c_76]; decide)
        · have c_40 := pb_n0.mp c_40
          exact absurd (i3 c_30) (by rw [ot_t c_40]; decide)
    · refine pe_aload_n d_Mo_op_17 rfl ?_
      refine pe_iload_n d_Mo_op_18 rfl ?_
      refine pe_bipush (v := nI 64) d_Mo_op_19 (by decide) ?_
      -- 21: Mo_out
      refine pe_callV d_Mo_op_21 m_Mo_111 j_Mo_out v_Mo_out (c_Mo_out hMo hnp hnb _ _) rfl rfl (by simp [Value.category]) (by decide) hMo rfl rfl ?_
      intro v1 h1 z1 hq1
      obtain ⟨rfl, rfl, rfl⟩ := hq1
      change pz_E _ _ _ _ _ _ _ _ _ (_ :: _) _ _ _
      refine pe_if_ne (tgt := 43) d_Mo_op_24 (by decide) (fun c_24 => ?_) (fun c_24 => ?_)
      · have c_24 := pb_n0.mp c_24
        exact absurd (i2 (Int32.not_le.mp c_14)) (by rw [ot_t c_24]; decide)
      · have c_24 := pb_0.mp c_24
        refine pe_iload_n d_Mo_op_27 rfl ?_
        refine pe_bipush (v := nI 6) d_Mo_op_28 (by decide) ?_
        refine pe_icmp_ne (tgt := 45) d_Mo_op_30 (by decide) (fun c_30 => ?_) (fun c_30 => ?_)
        · refine pe_iload_n d_Mo_op_45 rfl ?_
          refine pe_bipush (v := nI 6) d_Mo_op_46 (by decide) ?_
          refine pe_icmp_le (tgt := 81) d_Mo_op_48 (by decide) (fun c_48 => ?_) (fun c_48 => ?_)
          · exact tail
          · refine pe_iload_n d_Mo_op_51 rfl ?_
            refine pe_bipush (v := nI 10) d_Mo_op_52 (by decide) ?_
            refine pe_icmp_ge (tgt := 81) d_Mo_op_54 (by decide) (fun c_54 => ?_) (fun c_54 => ?_)
            · exact tail
            · refine pe_aload_n d_Mo_op_57 rfl ?_
              refine pe_iload d_Mo_op_58 rfl ?_
              refine pe_bipush (v := nI 16) d_Mo_op_60 (by decide) ?_
              -- 62: Mo_out
              refine pe_callV d_Mo_op_62 m_Mo_111 j_Mo_out v_Mo_out (c_Mo_out hMo hnp hnb _ _) rfl rfl (by simp [Value.category]) (by decide) hMo rfl rfl ?_
              intro v1 h1 z1 hq1
              obtain ⟨rfl, rfl, rfl⟩ := hq1
              change pz_E _ _ _ _ _ _ _ _ _ (_ :: _) _ _ _
              refine pe_if_ne (tgt := 79) d_Mo_op_65 (by decide) (fun c_65 => ?_) (fun c_65 => ?_)
              · have c_65 := pb_n0.mp c_65
                exact absurd (i4 (Int32.not_le.mp c_48) (Int32.not_le.mp c_54)).1 (by rw [ot_t c_65]; decide)
              · have c_65 := pb_0.mp c_65
                refine pe_aload_n d_Mo_op_68 rfl ?_
                refine pe_iload d_Mo_op_69 rfl ?_
                refine pe_bipush (v := nI 16) d_Mo_op_71 (by decide) ?_
                -- 73: Mo_out
                refine pe_callV d_Mo_op_73 m_Mo_111 j_Mo_out v_Mo_out (c_Mo_out hMo hnp hnb _ _) rfl rfl (by simp [Value.category]) (by decide) hMo rfl rfl ?_
                intro v1 h1 z1 hq1
                obtain ⟨rfl, rfl, rfl⟩ := hq1
                change pz_E _ _ _ _ _ _ _ _ _ (_ :: _) _ _ _
                refine pe_if_eq (tgt := 81) d_Mo_op_76 (by decide) (fun c_76 => ?_) (fun c_76 => ?_)
                · have c_76 := pb_0.mp c_76
                  exact tail
                · have c_76 := pb_n0.mp c_76
                  exact absurd (i4 (Int32.not_le.mp c_48) (Int32.not_le.mp c_54)).2 (by rw [ot_t c_76]; decide)
        · refine pe_aload_n d_Mo_op_33 rfl ?_
          refine pe_iload_n d_Mo_op_34 rfl ?_
          refine pe_bipush (v := nI 32) d_Mo_op_35 (by decide) ?_
          -- 37: Mo_out
          refine pe_callV d_Mo_op_37 m_Mo_111 j_Mo_out v_Mo_out (c_Mo_out hMo hnp hnb _ _) rfl rfl (by simp [Value.category]) (by decide) hMo rfl rfl ?_
          intro v1 h1 z1 hq1
          obtain ⟨rfl, rfl, rfl⟩ := hq1
          change pz_E _ _ _ _ _ _ _ _ _ (_ :: _) _ _ _
          refine pe_if_eq (tgt := 45) d_Mo_op_40 (by decide) (fun c_40 => ?_) (fun c_40 => ?_)
          · have c_40 := pb_0.mp c_40
            refine pe_iload_n d_Mo_op_45 rfl ?_
            refine pe_bipush (v := nI 6) d_Mo_op_46 (by decide) ?_
            refine pe_icmp_le (tgt := 81) d_Mo_op_48 (by decide) (fun c_48 => ?_) (fun c_48 => ?_)
            · exact tail
            · refine pe_iload_n d_Mo_op_51 rfl ?_
              refine pe_bipush (v := nI 10) d_Mo_op_52 (by decide) ?_
              refine pe_icmp_ge (tgt := 81) d_Mo_op_54 (by decide) (fun c_54 => ?_) (fun c_54 => ?_)
              · exact tail
              · refine pe_aload_n d_Mo_op_57 rfl ?_
                refine pe_iload d_Mo_op_58 rfl ?_
                refine pe_bipush (v := nI 16) d_Mo_op_60 (by decide) ?_
                -- 62: Mo_out
                refine pe_callV d_Mo_op_62 m_Mo_111 j_Mo_out v_Mo_out (c_Mo_out hMo hnp hnb _ _) rfl rfl (by simp [Value.category]) (by decide) hMo rfl rfl ?_
                intro v1 h1 z1 hq1
                obtain ⟨rfl, rfl, rfl⟩ := hq1
                change pz_E _ _ _ _ _ _ _ _ _ (_ :: _) _ _ _
                refine pe_if_ne (tgt := 79) d_Mo_op_65 (by decide) (fun c_65 => ?_) (fun c_65 => ?_)
                · have c_65 := pb_n0.mp c_65
                  exact absurd (i4 (Int32.not_le.mp c_48) (Int32.not_le.mp c_54)).1 (by rw [ot_t c_65]; decide)
                · have c_65 := pb_0.mp c_65
                  refine pe_aload_n d_Mo_op_68 rfl ?_
                  refine pe_iload d_Mo_op_69 rfl ?_
                  refine pe_bipush (v := nI 16) d_Mo_op_71 (by decide) ?_
                  -- 73: Mo_out
                  refine pe_callV d_Mo_op_73 m_Mo_111 j_Mo_out v_Mo_out (c_Mo_out hMo hnp hnb _ _) rfl rfl (by simp [Value.category]) (by decide) hMo rfl rfl ?_
                  intro v1 h1 z1 hq1
                  obtain ⟨rfl, rfl, rfl⟩ := hq1
                  change pz_E _ _ _ _ _ _ _ _ _ (_ :: _) _ _ _
                  refine pe_if_eq (tgt := 81) d_Mo_op_76 (by decide) (fun c_76 => ?_) (fun c_76 => ?_)
                  · have c_76 := pb_0.mp c_76
                    exact tail
                  · have c_76 := pb_n0.mp c_76
                    exact absurd (i4 (Int32.not_le.mp c_48) (Int32.not_le.mp c_54)).2 (by rw [ot_t c_76]; decide)
          · have c_40 := pb_n0.mp c_40
            exact absurd (i3 c_30) (by rw [ot_t c_40]; decide)
  · have c_7 := pb_n0.mp c_7
    exact absurd i1 (by rw [ot_t c_7]; decide)
theorem bad_lo {gc : Nat → Int32} {yy nn : Nat → Nat} {gl j : Nat} (hc : gc j < nI 7) (h0 : yy j = 0 ∧ nn j = 0) : bad gc yy nn gl j = !decide (j + 1 < gl) := by
  unfold bad
  rw [h0.1, h0.2, if_neg (by omega), decide_eq_false (fun q => absurd (Int32.lt_trans q hc) (by decide))]
  simp
theorem bad_hi {gc : Nat → Int32} {yy nn : Nat → Nat} {gl j : Nat} (hc : nI 10 ≤ gc j) : bad gc yy nn gl j = false := by
  unfold bad
  rw [decide_eq_true (Int32.lt_of_lt_of_le (show nI 9 < nI 10 by decide) hc)]
  rfl
theorem bad_ts {gc : Nat → Int32} {yy nn : Nat → Nat} {gl j : Nat} (hc : gc j < nI 10) : bad gc yy nn gl j = (!decide (j + 1 + yy j < gl) || !decide (j + 1 + nn j < gl)) := by
  unfold bad
  have h9 : ¬ nI 9 < gc j := by
    intro q
    have h1 := Int32.lt_iff_toInt_lt.mp hc
    have h2 := Int32.lt_iff_toInt_lt.mp q
    have h3 : (nI 10).toInt = 10 := by decide
    have h4 : (nI 9).toInt = 9 := by decide
    omega
  rw [decide_eq_false h9]
  split <;> simp <;> omega
theorem i7_6 {c : Int32} (h : ¬ c < nI 7) : nI 6 < c := Int32.lt_of_lt_of_le (show nI 6 < nI 7 by decide) (Int32.not_lt.mp h)
theorem i7_t {c : Int32} (h : c < nI 7) : ¬ nI 6 < c := by
  intro q
  have h1 := Int32.lt_iff_toInt_lt.mp h
  have h2 := Int32.lt_iff_toInt_lt.mp q
  have h3 : (nI 7).toInt = 7 := by decide
  have h4 : (nI 6).toInt = 6 := by decide
  omega
set_option maxHeartbeats 4000000 in
set_option maxRecDepth 20000 in
theorem c_Mo_sound {l : Launch} {L : Nat} {xs : Nat → Int32} {h : pz_H} {z : Nat} {np nb now tkg lst flt byt : Nat} {sa sx : Int32} (hMo : MOB h np nb now tkg lst flt byt sa sx) (hnp : np ≤ 32) (hnb : nb ≤ 32) {Mln : Nat → Nat} (hLn : AN h 178 12 Mln) {Mcd : Nat → Int32} (hCd : AI h 179 768 Mcd) {a : Nat} (ha : a < 6) (hl : Mln a ≤ 16) {yy nn : Nat → Nat} (hyn : ∀ j, j < Mln a → nI 6 < Mcd (a * 64 + j * 4) → Mcd (a * 64 + j * 4) < nI 10 → Mcd (a * 64 + j * 4 + 2) = nI (yy j) ∧ Mcd (a * 64 + j * 4 + 3) = nI (nn j) ∧ yy j ≤ 15 ∧ nn j ≤ 15) (hy0 : ∀ j, j < Mln a → Mcd (a * 64 + j * 4) < nI 7 → yy j = 0 ∧ nn j = 0) : pz_K l L xs M_Mo_sound 0 0 0 [.ref 166, .int (nI a)] h z (fun v h' z' => v = some (.int (pb (decide (¬ ff (bad (fun j => Mcd (a * 64 + j * 4)) yy nn (Mln a)) (Mln a - 0) 0 < Mln a)))) ∧ h = h' ∧ z = z') := by
  refine pz_K.of rfl (Nat.le_of_ble_eq_true rfl) ?_
  have loop : ∀ (n : Nat) (i : Nat), i ≤ Mln a → Mln a + 1 ≤ i + n → pz_E l L xs M_Mo_sound 0 0 0 2 [some (.ref 166), some (.int (nI a)), some (.int (nI i)), none, none] [] h z (fun v h' z' => v = some (.int (pb (decide (¬ ff (bad (fun j => Mcd (a * 64 + j * 4)) yy nn (Mln a)) (Mln a - i) i < Mln a)))) ∧ h = h' ∧ z = z') := by
    intro n
    induction n with
    | zero => intros; omega
    | succ n ih =>
      intro i hi hin
      refine pe_iload_n d_Mo_sound_2 rfl ?_
      refine pe_aload_n d_Mo_sound_3 rfl ?_
      refine pe_getf d_Mo_sound_4 f_Mo_54 hMo rfl ?_
      refine pe_iload_n d_Mo_sound_7 rfl ?_
      refine pe_ialdN d_Mo_sound_8 hLn (by omega) (by omega) ?_
      refine pe_icmpN_ge (tgt := 114) d_Mo_sound_9 (by decide) (by omega) (by omega) (fun c_9 => ?_) (fun c_9 => ?_)
      · refine pe_iconst (v := nI 1) d_Mo_sound_114 (by decide) ?_
        refine pe_zret d_Mo_sound_115 rfl (by decide) ?_
        exact ⟨pb_yes (by rw [ff_end (P := (bad (fun j => Mcd (a * 64 + j * 4)) yy nn (Mln a))) (by omega)]; omega), rfl, rfl⟩
      · have c_9 : i < Mln a := by omega
        refine pe_iload_n d_Mo_sound_12 rfl ?_
        refine pe_bipush (v := nI 64) d_Mo_sound_13 (by decide) ?_
        refine pe_imulN d_Mo_sound_15 ?_
        refine pe_iload_n d_Mo_sound_16 rfl ?_
        refine pe_iconst (v := nI 4) d_Mo_sound_17 (by decide) ?_
        refine pe_imulN d_Mo_sound_18 ?_
        refine pe_iaddN d_Mo_sound_19 ?_
        refine pe_istore_n d_Mo_sound_20 (by decide) rfl ?_
        dsimp only [List.set]
        refine pe_aload_n d_Mo_sound_21 rfl ?_
        refine pe_getf d_Mo_sound_22 f_Mo_57 hMo rfl ?_
        refine pe_iload_n d_Mo_sound_25 rfl ?_
        refine pe_ialdN d_Mo_sound_26 hCd (by omega) (by omega) ?_
        refine pe_istore d_Mo_sound_27 (by decide) rfl ?_
        dsimp only [List.set]
        refine pe_iload d_Mo_sound_29 rfl ?_
        refine pe_bipush (v := nI 7) d_Mo_sound_31 (by decide) ?_
        refine pe_icmp_ge (tgt := 50) d_Mo_sound_33 (by decide) (fun c_33 => ?_) (fun c_33 => ?_)
        · refine pe_iload d_Mo_sound_50 rfl ?_
          refine pe_bipush (v := nI 6) d_Mo_sound_52 (by decide) ?_
          refine pe_icmp_le (tgt := 108) d_Mo_sound_54 (by decide) (fun c_54 => ?_) (fun c_54 => ?_)
          · exact absurd (i7_6 (Int32.not_lt.mpr c_33)) (Int32.not_lt.mpr c_54)
          · refine pe_iload d_Mo_sound_57 rfl ?_
            refine pe_bipush (v := nI 10) d_Mo_sound_59 (by decide) ?_
            refine pe_icmp_ge (tgt := 108) d_Mo_sound_61 (by decide) (fun c_61 => ?_) (fun c_61 => ?_)
            · refine pe_iincN d_Mo_sound_108 rfl (by decide) rfl ?_
              dsimp only [List.set]
              refine pe_goto (tgt := 2) d_Mo_sound_111 (by decide) ?_
              have e := ih (i + 1) (by omega) (by omega)
              rw [← ff_no (P := (bad (fun j => Mcd (a * 64 + j * 4)) yy nn (Mln a))) c_9 (by rw [bad_hi (gc := fun j => Mcd (a * 64 + j * 4)) c_61]; decide)] at e
              exact pe_ls (ls' := [some (.ref 166), some (.int (nI a)), some (.int (nI (i + 1))), none, none]) (fun j v hj => by match j, hj with | 0, hj => exact hj | 1, hj => exact hj | 2, hj => exact hj | 3, hj => cases hj | 4, hj => cases hj | j + 5, hj => cases hj) (e)
            · obtain ⟨hY, hN9, hy15, hn15⟩ := hyn i c_9 (Int32.not_le.mp c_54) (Int32.not_le.mp c_61)
              refine pe_iload_n d_Mo_sound_64 rfl ?_
              refine pe_iconst (v := nI 1) d_Mo_sound_65 (by decide) ?_
              refine pe_iaddN d_Mo_sound_66 ?_
              refine pe_aload_n d_Mo_sound_67 rfl ?_
              refine pe_getf d_Mo_sound_68 f_Mo_57 hMo rfl ?_
              refine pe_iload_n d_Mo_sound_71 rfl ?_
              refine pe_iconst (v := nI 2) d_Mo_sound_72 (by decide) ?_
              refine pe_iaddN d_Mo_sound_73 ?_
              refine pe_ialdN d_Mo_sound_74 hCd (by omega) (by omega) ?_
              refine pe_top (y := .int (nI (yy i))) (by first | rw [hY] | rw [hN9]) ?_
              refine pe_iaddN d_Mo_sound_75 ?_
              refine pe_aload_n d_Mo_sound_76 rfl ?_
              refine pe_getf d_Mo_sound_77 f_Mo_54 hMo rfl ?_
              refine pe_iload_n d_Mo_sound_80 rfl ?_
              refine pe_ialdN d_Mo_sound_81 hLn (by omega) (by omega) ?_
              refine pe_icmpN_ge (tgt := 106) d_Mo_sound_82 (by decide) (by omega) (by omega) (fun c_82 => ?_) (fun c_82 => ?_)
              · refine pe_iconst (v := nI 0) d_Mo_sound_106 (by decide) ?_
                refine pe_zret d_Mo_sound_107 rfl (by decide) ?_
                exact ⟨pb_no (fun q9 => q9 (by rw [ff_yes (P := (bad (fun j => Mcd (a * 64 + j * 4)) yy nn (Mln a))) c_9 (by rw [bad_ts (gc := fun j => Mcd (a * 64 + j * 4)) (Int32.not_le.mp c_61)]; simp; omega)]; exact c_9)), rfl, rfl⟩
              · refine pe_iload_n d_Mo_sound_85 rfl ?_
                refine pe_iconst (v := nI 1) d_Mo_sound_86 (by decide) ?_
                refine pe_iaddN d_Mo_sound_87 ?_
                refine pe_aload_n d_Mo_sound_88 rfl ?_
                refine pe_getf d_Mo_sound_89 f_Mo_57 hMo rfl ?_
                refine pe_iload_n d_Mo_sound_92 rfl ?_
                refine pe_iconst (v := nI 3) d_Mo_sound_93 (by decide) ?_
                refine pe_iaddN d_Mo_sound_94 ?_
                refine pe_ialdN d_Mo_sound_95 hCd (by omega) (by omega) ?_
                refine pe_top (y := .int (nI (nn i))) (by first | rw [hY] | rw [hN9]) ?_
                refine pe_iaddN d_Mo_sound_96 ?_
                refine pe_aload_n d_Mo_sound_97 rfl ?_
                refine pe_getf d_Mo_sound_98 f_Mo_54 hMo rfl ?_
                refine pe_iload_n d_Mo_sound_101 rfl ?_
                refine pe_ialdN d_Mo_sound_102 hLn (by omega) (by omega) ?_
                refine pe_icmpN_lt (tgt := 108) d_Mo_sound_103 (by decide) (by omega) (by omega) (fun c_103 => ?_) (fun c_103 => ?_)
                · refine pe_iincN d_Mo_sound_108 rfl (by decide) rfl ?_
                  dsimp only [List.set]
                  refine pe_goto (tgt := 2) d_Mo_sound_111 (by decide) ?_
                  have e := ih (i + 1) (by omega) (by omega)
                  rw [← ff_no (P := (bad (fun j => Mcd (a * 64 + j * 4)) yy nn (Mln a))) c_9 (by rw [bad_ts (gc := fun j => Mcd (a * 64 + j * 4)) (Int32.not_le.mp c_61), decide_eq_true (by omega), decide_eq_true (by omega)]; decide)] at e
                  exact pe_ls (ls' := [some (.ref 166), some (.int (nI a)), some (.int (nI (i + 1))), none, none]) (fun j v hj => by match j, hj with | 0, hj => exact hj | 1, hj => exact hj | 2, hj => exact hj | 3, hj => cases hj | 4, hj => cases hj | j + 5, hj => cases hj) (e)
                · refine pe_iconst (v := nI 0) d_Mo_sound_106 (by decide) ?_
                  refine pe_zret d_Mo_sound_107 rfl (by decide) ?_
                  exact ⟨pb_no (fun q9 => q9 (by rw [ff_yes (P := (bad (fun j => Mcd (a * 64 + j * 4)) yy nn (Mln a))) c_9 (by rw [bad_ts (gc := fun j => Mcd (a * 64 + j * 4)) (Int32.not_le.mp c_61)]; simp; omega)]; exact c_9)), rfl, rfl⟩
        · have c_33 : Mcd (a * 64 + i * 4) < nI 7 := Int32.not_le.mp c_33
          refine pe_iload_n d_Mo_sound_36 rfl ?_
          refine pe_iconst (v := nI 1) d_Mo_sound_37 (by decide) ?_
          refine pe_iaddN d_Mo_sound_38 ?_
          refine pe_aload_n d_Mo_sound_39 rfl ?_
          refine pe_getf d_Mo_sound_40 f_Mo_54 hMo rfl ?_
          refine pe_iload_n d_Mo_sound_43 rfl ?_
          refine pe_ialdN d_Mo_sound_44 hLn (by omega) (by omega) ?_
          refine pe_icmpN_lt (tgt := 50) d_Mo_sound_45 (by decide) (by omega) (by omega) (fun c_45 => ?_) (fun c_45 => ?_)
          · refine pe_iload d_Mo_sound_50 rfl ?_
            refine pe_bipush (v := nI 6) d_Mo_sound_52 (by decide) ?_
            refine pe_icmp_le (tgt := 108) d_Mo_sound_54 (by decide) (fun c_54 => ?_) (fun c_54 => ?_)
            · refine pe_iincN d_Mo_sound_108 rfl (by decide) rfl ?_
              dsimp only [List.set]
              refine pe_goto (tgt := 2) d_Mo_sound_111 (by decide) ?_
              have e := ih (i + 1) (by omega) (by omega)
              rw [← ff_no (P := (bad (fun j => Mcd (a * 64 + j * 4)) yy nn (Mln a))) c_9 (by rw [bad_lo (gc := fun j => Mcd (a * 64 + j * 4)) c_33 (hy0 i c_9 c_33), decide_eq_true c_45]; decide)] at e
              exact pe_ls (ls' := [some (.ref 166), some (.int (nI a)), some (.int (nI (i + 1))), none, none]) (fun j v hj => by match j, hj with | 0, hj => exact hj | 1, hj => exact hj | 2, hj => exact hj | 3, hj => cases hj | 4, hj => cases hj | j + 5, hj => cases hj) (e)
            · exact absurd (Int32.not_le.mp c_54) (i7_t c_33)
          · refine pe_iconst (v := nI 0) d_Mo_sound_48 (by decide) ?_
            refine pe_zret d_Mo_sound_49 rfl (by decide) ?_
            exact ⟨pb_no (fun q9 => q9 (by rw [ff_yes (P := (bad (fun j => Mcd (a * 64 + j * 4)) yy nn (Mln a))) c_9 (by rw [bad_lo (gc := fun j => Mcd (a * 64 + j * 4)) c_33 (hy0 i c_9 c_33), decide_eq_false (by omega)]; rfl)]; exact c_9)), rfl, rfl⟩
  change pz_E l L xs M_Mo_sound 0 0 0 0 [some (.ref 166), some (.int (nI a)), none, none, none] [] h z _
  refine pe_iconst (v := nI 0) d_Mo_sound_0 (by decide) ?_
  refine pe_istore_n d_Mo_sound_1 (by decide) rfl ?_
  dsimp only [List.set]
  exact loop (Mln a + 1) 0 (by omega) (by omega)
def wst (f : Nat → Int32) (x : Int32) : Nat → (Nat → Int32) × Nat
  | 0 => (f, 0)
  | i + 1 => if f i = x then wst f x i else (upd (wst f x i).1 (wst f x i).2 (f i), (wst f x i).2 + 1)
theorem wst_le (f : Nat → Int32) (x : Int32) : ∀ i, (wst f x i).2 ≤ i ∧ ∀ j, i ≤ j → (wst f x i).1 j = f j
  | 0 => ⟨Nat.le_refl _, fun _ _ => rfl⟩
  | i + 1 => by
    obtain ⟨h1, h2⟩ := wst_le f x i
    unfold wst
    split
    · exact ⟨by omega, fun j hj => h2 j (by omega)⟩
    · exact ⟨by show _ + 1 ≤ _; omega, fun j hj => by show upd _ _ _ j = _; rw [upd_ne (by omega)]; exact h2 j (by omega)⟩
theorem wst_y {f : Nat → Int32} {x : Int32} {i : Nat} (h : f i = x) : wst f x (i + 1) = wst f x i := if_pos h
theorem wst_n {f : Nat → Int32} {x : Int32} {i : Nat} (h : ¬ f i = x) : wst f x (i + 1) = (upd (wst f x i).1 (wst f x i).2 (f i), (wst f x i).2 + 1) := if_neg h
set_option maxHeartbeats 4000000 in
set_option maxRecDepth 20000 in
theorem c_Mo_withdraw {l : Launch} {L : Nat} {xs : Nat → Int32} {h : pz_H} {z : Nat} {np nb now tkg lst flt byt : Nat} {sa sx : Int32} (hMo : MOB h np nb now tkg lst flt byt sa sx) (hnp : np ≤ 32) (hnb : nb ≤ 32) {Mst : Nat → Int32} (hSt : AI h 180 6 Mst) (x : Int32) (hfl : flt ≤ 6) : pz_K l L xs M_Mo_withdraw 0 0 0 [.ref 166, .int x] h z (fun v h' z' => v = none ∧ z = z' ∧ MOB h' np nb now tkg lst (wst Mst x flt).2 byt sa sx ∧ AI h' 180 6 (wst Mst x flt).1 ∧ frx [166, 180] h h') := by
  refine pz_K.of rfl (Nat.le_of_ble_eq_true rfl) ?_
  have loop : ∀ (n : Nat) (i u : Nat) (k : pz_H), i ≤ flt → flt + 1 ≤ i + n → (wst Mst x i).2 = u → MOB k np nb now tkg lst flt byt sa sx → AI k 180 6 (wst Mst x i).1 → frx [166, 180] h k → pz_E l L xs M_Mo_withdraw 0 0 0 4 [some (.ref 166), some (.int x), some (.int (nI u)), some (.int (nI i))] [] k z (fun v h' z' => v = none ∧ z = z' ∧ MOB h' np nb now tkg lst (wst Mst x flt).2 byt sa sx ∧ AI h' 180 6 (wst Mst x flt).1 ∧ frx [166, 180] h h') := by
    intro n
    induction n with
    | zero => intros; omega
    | succ n ih =>
      intro i u k hi hin hu hMo hSt hf
      refine pe_iload_n d_Mo_withdraw_4 rfl ?_
      refine pe_aload_n d_Mo_withdraw_5 rfl ?_
      refine pe_getf d_Mo_withdraw_6 f_Mo_63 hMo rfl ?_
      refine pe_icmpN_ge (tgt := 46) d_Mo_withdraw_9 (by decide) (by omega) (by omega) (fun c_9 => ?_) (fun c_9 => ?_)
      · refine pe_aload_n d_Mo_withdraw_46 rfl ?_
        refine pe_iload_n d_Mo_withdraw_47 rfl ?_
        refine pe_put d_Mo_withdraw_48 g_Mo_63 hMo (Nat.le_of_ble_eq_true rfl) rfl ?_
        refine pe_pu (fun h2 e2 o2 => ?_)
        have hMo := e2
        have hSt := (o2 (180) (by omega)).trans hSt
        have hf := hf.st o2 (by decide)
        refine pe_vret d_Mo_withdraw_51 rfl ?_
        have e : i = flt := by omega
        subst e
        rw [hu]
        exact ⟨rfl, rfl, hMo, hSt, hf⟩
      · have hge := (wst_le Mst x i).2 i (Nat.le_refl _)
        have hule := (wst_le Mst x i).1
        have c_9 : i < flt := by omega
        refine pe_aload_n d_Mo_withdraw_12 rfl ?_
        refine pe_getf d_Mo_withdraw_13 f_Mo_60 hMo rfl ?_
        refine pe_iload_n d_Mo_withdraw_16 rfl ?_
        refine pe_ialdN d_Mo_withdraw_17 hSt (by omega) (by omega) ?_
        rw [hge]
        refine pe_iload_n d_Mo_withdraw_18 rfl ?_
        refine pe_icmp_ne (tgt := 25) d_Mo_withdraw_19 (by decide) (fun c_19 => ?_) (fun c_19 => ?_)
        · refine pe_aload_n d_Mo_withdraw_25 rfl ?_
          refine pe_getf d_Mo_withdraw_26 f_Mo_60 hMo rfl ?_
          refine pe_iload_n d_Mo_withdraw_29 rfl ?_
          refine pe_aload_n d_Mo_withdraw_30 rfl ?_
          refine pe_getf d_Mo_withdraw_31 f_Mo_60 hMo rfl ?_
          refine pe_iload_n d_Mo_withdraw_34 rfl ?_
          refine pe_ialdN d_Mo_withdraw_35 hSt (by omega) (by omega) ?_
          rw [hge]
          refine pe_iastN d_Mo_withdraw_36 hSt (by omega) (by omega) ?_
          refine pe_pu (fun h2 e2 o2 => ?_)
          have hMo := (o2 (166) (by omega)).trans hMo
          have hSt := e2
          have hf := hf.st o2 (by decide)
          refine pe_iincN d_Mo_withdraw_37 rfl (by decide) rfl ?_
          dsimp only [List.set]
          refine pe_iincN d_Mo_withdraw_40 rfl (by decide) rfl ?_
          dsimp only [List.set]
          refine pe_goto (tgt := 4) d_Mo_withdraw_43 (by decide) ?_
          exact ih (i + 1) _ _ (by omega) (by omega) (by rw [wst_n c_19, hu]) hMo (by rw [wst_n c_19, hu]; exact hSt) hf
        · refine pe_goto (tgt := 40) d_Mo_withdraw_22 (by decide) ?_
          refine pe_iincN d_Mo_withdraw_40 rfl (by decide) rfl ?_
          dsimp only [List.set]
          refine pe_goto (tgt := 4) d_Mo_withdraw_43 (by decide) ?_
          exact ih (i + 1) u _ (by omega) (by omega) (by rw [wst_y c_19]; exact hu) hMo (by rw [wst_y c_19]; exact hSt) hf
  change pz_E l L xs M_Mo_withdraw 0 0 0 0 [some (.ref 166), some (.int x), none, none] [] h z _
  refine pe_iconst (v := nI 0) d_Mo_withdraw_0 (by decide) ?_
  refine pe_istore_n d_Mo_withdraw_1 (by decide) rfl ?_
  dsimp only [List.set]
  refine pe_iconst (v := nI 0) d_Mo_withdraw_2 (by decide) ?_
  refine pe_istore_n d_Mo_withdraw_3 (by decide) rfl ?_
  dsimp only [List.set]
  exact loop (flt + 1) 0 0 _ (by omega) (by omega) rfl hMo hSt frx.rf
