/-! the kernel: contracts of BindingKernel, first part -/
/-- the kernel's own cell and its array of applications -/
def KOB (h : pz_H) (lost : Nat) : Prop := h 0 = some (.inr (0, [.ref 15, .ref 1, .ref 11, .ref 13, .ref 8, .int (nI lost)])) ∧ h 15 = some (.inl (2, 6, .inr (.inr (.inr (.inr (fun j => some (16 + 25 * j)))))))
theorem KOB.on {h h' : pz_H} {lost : Nat} (m : KOB h lost) (f : ∀ c, 0 ≤ c → c < 1 → h' c = h c) (g : ∀ c, 15 ≤ c → c < 16 → h' c = h c) : KOB h' lost := ⟨(f 0 (by omega) (by omega)).trans m.1, (g 15 (by omega) (by omega)).trans m.2⟩
def inn (y : Int32) (n : Nat) : Bool := decide (¬ y < 0 ∧ ¬ nI n ≤ y)
theorem inn_N {y : Int32} {n : Nat} (hn : n < 2147483648) (h : inn y n = true) : ∃ q, q < n ∧ y = nI q := by
  obtain ⟨h1, h2⟩ := of_decide_eq_true h
  obtain ⟨j, hj, rfl⟩ := nI_of h1
  refine ⟨j, ?_, rfl⟩
  rcases Nat.lt_or_ge j n with q | q
  · exact q
  · exact absurd ((nI_leI hn hj).mpr q) h2
theorem inn_y {q n : Nat} (hn : n < 2147483648) (hq : q < n) : inn (nI q) n = true := decide_eq_true ⟨nI_pos (by omega), fun e => by have := (nI_leI hn (by omega)).mp e; omega⟩
theorem rng_N {x : Int32} {lo hi : Nat} (hh : hi < 2147483648) (hl : lo ≤ hi) (h : rng x (nI lo) (nI hi) = true) : ∃ q, lo ≤ q ∧ q ≤ hi ∧ x = nI q := by
  obtain ⟨h1, h2⟩ := of_decide_eq_true h
  have h0 : ¬ x < 0 := fun q => h1 (Int32.lt_of_lt_of_le q (nI_pos' (by omega)))
  obtain ⟨j, hj, rfl⟩ := nI_of h0
  refine ⟨j, ?_, ?_, rfl⟩
  · rcases Nat.lt_or_ge j lo with q | q
    · exact absurd ((nI_ltI hj (by omega)).mpr q) h1
    · exact q
  · rcases Nat.lt_or_ge hi j with q | q
    · exact absurd ((nI_ltI hh hj).mpr q) h2
    · exact q
theorem rng_y {q lo hi : Nat} (hh : hi < 2147483648) (h1 : lo ≤ q) (h2 : q ≤ hi) : rng (nI q) (nI lo) (nI hi) = true := decide_eq_true ⟨fun e => by have := (nI_ltI (by omega) (by omega)).mp e; omega, fun e => by have := (nI_ltI (by omega) (by omega)).mp e; omega⟩
/-- is application x there and open -/
def opn (op : Nat → Bool) (x : Int32) : Bool := rng x (nI 0) (nI 5) && op x.toNatClampNeg
theorem opn_N {op : Nat → Bool} {x : Int32} (h : opn op x = true) : ∃ a, a < 6 ∧ op a = true ∧ x = nI a := by
  unfold opn at h
  rw [Bool.and_eq_true] at h
  obtain ⟨a, -, h1, rfl⟩ := rng_N (by decide) (by decide) h.1
  rw [nI_clamp (by omega)] at h
  exact ⟨a, by omega, h.2, rfl⟩
theorem opn_a {op : Nat → Bool} {a : Nat} (ha : a < 6) : opn op (nI a) = op a := by
  unfold opn
  rw [rng_y (by decide) (Nat.zero_le _) (by omega), nI_clamp (by omega)]
  rfl
def own (op : Nat → Bool) (mo : Nat → Int32) (np : Nat) (x y : Int32) : Bool := opn op x && (inn y np && decide (mo y.toNatClampNeg = x))
def may (op : Nat → Bool) (mo mr : Nat → Int32) (np : Nat) (x y w r : Int32) : Bool := (opn op x && (inn y np && rng w (nI 0) (nI 3))) && (decide (mo y.toNatClampNeg = x) || !decide (mr (y.toNatClampNeg * 6 + x.toNatClampNeg) < r))
set_option maxHeartbeats 4000000 in
set_option maxRecDepth 20000 in
theorem c_K_isOpen {l : Launch} {L : Nat} {xs : Nat → Int32} {h : pz_H} {z : Nat} {lost : Nat} (hK : KOB h lost) {dr fl : Nat → Nat} {op mp : Nat → Bool} {fi lk : Nat → Nat} (hap : ∀ i, i < 6 → AOB (16 + 25 * i) h (dr i) (fl i) (op i) (mp i) (fi i) (lk i)) (x : Int32) : pz_K l L xs M_K_isOpen 2 0 0 [.ref 0, .int x] h z (fun v h' z' => v = some (.int (pb (opn op x))) ∧ h = h' ∧ z = z') := by
  refine pz_K.of rfl (Nat.le_of_ble_eq_true rfl) ?_
  change pz_E l L xs M_K_isOpen 2 0 0 0 [some (.ref 0), some (.int x)] [] h z _
  refine pe_iload_n d_K_isOpen_0 rfl ?_
  -- 1: K_isApp
  refine pe_callS d_K_isOpen_1 m_K_54 s_K_isApp (c_K_isApp _) rfl rfl (by simp [Value.category]) (by decide) ?_
  intro v1 h1 z1 hq1
  obtain ⟨rfl, rfl, rfl⟩ := hq1
  change pz_E _ _ _ _ _ _ _ _ _ (_ :: _) _ _ _
  refine pe_if_eq (tgt := 23) d_K_isOpen_4 (by decide) (fun c_4 => ?_) (fun c_4 => ?_)
  · have c_4 := pb_0.mp c_4
    refine pe_iconst (v := nI 0) d_K_isOpen_23 (by decide) ?_
    refine pe_zret d_K_isOpen_24 rfl (by decide) ?_
    exact ⟨by unfold opn; rw [c_4]; rfl, rfl, rfl⟩
  · have c_4 := pb_n0.mp c_4
    obtain ⟨a, -, ha9, rfl⟩ := rng_N (by decide) (by decide) c_4
    have ha : a < 6 := by omega
    have hA := hap a ha
    refine pe_aload_n d_K_isOpen_7 rfl ?_
    refine pe_getf d_K_isOpen_8 f_K_49 hK.1 rfl ?_
    refine pe_iload_n d_K_isOpen_11 rfl ?_
    refine pe_aaldN d_K_isOpen_12 rfl hK.2 (by omega) (by omega) rfl ?_
    refine pe_getf d_K_isOpen_13 f_K_62 hA rfl ?_
    refine pe_if_eq (tgt := 23) d_K_isOpen_16 (by decide) (fun c_16 => ?_) (fun c_16 => ?_)
    · have c_16 := pb_0.mp c_16
      refine pe_iconst (v := nI 0) d_K_isOpen_23 (by decide) ?_
      refine pe_zret d_K_isOpen_24 rfl (by decide) ?_
      exact ⟨by rw [opn_a ha, c_16]; rfl, rfl, rfl⟩
    · have c_16 := pb_n0.mp c_16
      refine pe_iconst (v := nI 1) d_K_isOpen_19 (by decide) ?_
      refine pe_goto (tgt := 24) d_K_isOpen_20 (by decide) ?_
      refine pe_zret d_K_isOpen_24 rfl (by decide) ?_
      exact ⟨by rw [opn_a ha, c_16]; rfl, rfl, rfl⟩
set_option maxHeartbeats 4000000 in
set_option maxRecDepth 20000 in
theorem c_K_owns {l : Launch} {L : Nat} {xs : Nat → Int32} {h : pz_H} {z : Nat} {lost : Nat} (hK : KOB h lost) {dr fl : Nat → Nat} {op mp : Nat → Bool} {fi lk : Nat → Nat} (hap : ∀ i, i < 6 → AOB (16 + 25 * i) h (dr i) (fl i) (op i) (mp i) (fi i) (lk i)) {np : Nat} {mw mo mr mt : Nat → Int32} {mn : Nat → Bool} {md : Nat → Int32} {ts ck : Nat} (hm : MEM h np mw mo mr mt mn md ts ck) (x y : Int32) : pz_K l L xs M_K_owns 3 0 0 [.ref 0, .int x, .int y] h z (fun v h' z' => v = some (.int (pb (own op mo np x y))) ∧ h = h' ∧ z = z') := by
  refine pz_K.of rfl (Nat.le_of_ble_eq_true rfl) ?_
  change pz_E l L xs M_K_owns 3 0 0 0 [some (.ref 0), some (.int x), some (.int y)] [] h z _
  refine pe_aload_n d_K_owns_0 rfl ?_
  refine pe_iload_n d_K_owns_1 rfl ?_
  -- 2: K_isOpen
  refine pe_callV d_K_owns_2 m_K_84 j_K_isOpen v_K_isOpen (c_K_isOpen hK hap _) rfl rfl (by simp [Value.category]) (by decide) hK.1 rfl rfl ?_
  intro v1 h1 z1 hq1
  obtain ⟨rfl, rfl, rfl⟩ := hq1
  change pz_E _ _ _ _ _ _ _ _ _ (_ :: _) _ _ _
  refine pe_if_eq (tgt := 35) d_K_owns_5 (by decide) (fun c_5 => ?_) (fun c_5 => ?_)
  · have c_5 := pb_0.mp c_5
    refine pe_iconst (v := nI 0) d_K_owns_35 (by decide) ?_
    refine pe_zret d_K_owns_36 rfl (by decide) ?_
    exact ⟨by unfold own; rw [c_5]; rfl, rfl, rfl⟩
  · have c_5 := pb_n0.mp c_5
    refine pe_aload_n d_K_owns_8 rfl ?_
    refine pe_getf d_K_owns_9 f_K_18 hK.1 rfl ?_
    refine pe_iload_n d_K_owns_12 rfl ?_
    -- 13: Memory_hasPage
    refine pe_callV d_K_owns_13 m_K_263 j_Memory_hasPage v_Memory_hasPage (c_Memory_hasPage hm _) rfl rfl (by simp [Value.category]) (by decide) hm.1 rfl rfl ?_
    intro v1 h1 z1 hq1
    obtain ⟨rfl, rfl, rfl⟩ := hq1
    change pz_E _ _ _ _ _ _ _ _ _ (_ :: _) _ _ _
    refine pe_if_eq (tgt := 35) d_K_owns_16 (by decide) (fun c_16 => ?_) (fun c_16 => ?_)
    · have c_16 := pb_0.mp c_16
      refine pe_iconst (v := nI 0) d_K_owns_35 (by decide) ?_
      refine pe_zret d_K_owns_36 rfl (by decide) ?_
      exact ⟨by unfold own; rw [c_5, show inn y np = false from c_16]; rfl, rfl, rfl⟩
    · have c_16 := pb_n0.mp c_16
      obtain ⟨q, hq, rfl⟩ := inn_N (by have := hm.2.2.2.2.2.2.2.2; omega) c_16
      have hn2 := hm.2.2.2.2.2.2.2.2
      refine pe_aload_n d_K_owns_19 rfl ?_
      refine pe_getf d_K_owns_20 f_K_18 hK.1 rfl ?_
      refine pe_iload_n d_K_owns_23 rfl ?_
      -- 24: Memory_ownerOf
      refine pe_callV d_K_owns_24 m_K_144 j_Memory_ownerOf v_Memory_ownerOf (c_Memory_ownerOf hm (by omega)) rfl rfl (by simp [Value.category]) (by decide) hm.1 rfl rfl ?_
      intro v1 h1 z1 hq1
      obtain ⟨rfl, rfl, rfl⟩ := hq1
      change pz_E _ _ _ _ _ _ _ _ _ (_ :: _) _ _ _
      refine pe_iload_n d_K_owns_27 rfl ?_
      refine pe_icmp_ne (tgt := 35) d_K_owns_28 (by decide) (fun c_28 => ?_) (fun c_28 => ?_)
      · refine pe_iconst (v := nI 0) d_K_owns_35 (by decide) ?_
        refine pe_zret d_K_owns_36 rfl (by decide) ?_
        exact ⟨by unfold own; rw [c_5, show inn (nI q) np = true from c_16, nI_clamp (by omega), decide_eq_false c_28]; rfl, rfl, rfl⟩
      · refine pe_iconst (v := nI 1) d_K_owns_31 (by decide) ?_
        refine pe_goto (tgt := 36) d_K_owns_32 (by decide) ?_
        refine pe_zret d_K_owns_36 rfl (by decide) ?_
        exact ⟨by unfold own; rw [c_5, show inn (nI q) np = true from c_16, nI_clamp (by omega), decide_eq_true c_28]; rfl, rfl, rfl⟩
set_option maxHeartbeats 4000000 in
set_option maxRecDepth 20000 in
theorem c_K_mayUse {l : Launch} {L : Nat} {xs : Nat → Int32} {h : pz_H} {z : Nat} {lost : Nat} (hK : KOB h lost) {dr fl : Nat → Nat} {op mp : Nat → Bool} {fi lk : Nat → Nat} (hap : ∀ i, i < 6 → AOB (16 + 25 * i) h (dr i) (fl i) (op i) (mp i) (fi i) (lk i)) {np : Nat} {mw mo mr mt : Nat → Int32} {mn : Nat → Bool} {md : Nat → Int32} {ts ck : Nat} (hm : MEM h np mw mo mr mt mn md ts ck) (x y w r : Int32) : pz_K l L xs M_K_mayUse 3 0 0 [.ref 0, .int x, .int y, .int w, .int r] h z (fun v h' z' => v = some (.int (pb (may op mo mr np x y w r))) ∧ h = h' ∧ z = z') := by
  refine pz_K.of rfl (Nat.le_of_ble_eq_true rfl) ?_
  change pz_E l L xs M_K_mayUse 3 0 0 0 [some (.ref 0), some (.int x), some (.int y), some (.int w), some (.int r)] [] h z _
  refine pe_aload_n d_K_mayUse_0 rfl ?_
  refine pe_iload_n d_K_mayUse_1 rfl ?_
  -- 2: K_isOpen
  refine pe_callV d_K_mayUse_2 m_K_84 j_K_isOpen v_K_isOpen (c_K_isOpen hK hap _) rfl rfl (by simp [Value.category]) (by decide) hK.1 rfl rfl ?_
  intro v1 h1 z1 hq1
  obtain ⟨rfl, rfl, rfl⟩ := hq1
  change pz_E _ _ _ _ _ _ _ _ _ (_ :: _) _ _ _
  refine pe_if_eq (tgt := 28) d_K_mayUse_5 (by decide) (fun c_5 => ?_) (fun c_5 => ?_)
  · have c_5 := pb_0.mp c_5
    refine pe_iconst (v := nI 0) d_K_mayUse_28 (by decide) ?_
    refine pe_zret d_K_mayUse_29 rfl (by decide) ?_
    exact ⟨by unfold may; rw [c_5]; rfl, rfl, rfl⟩
  · have c_5 := pb_n0.mp c_5
    refine pe_aload_n d_K_mayUse_8 rfl ?_
    refine pe_getf d_K_mayUse_9 f_K_18 hK.1 rfl ?_
    refine pe_iload_n d_K_mayUse_12 rfl ?_
    -- 13: Memory_hasPage
    refine pe_callV d_K_mayUse_13 m_K_263 j_Memory_hasPage v_Memory_hasPage (c_Memory_hasPage hm _) rfl rfl (by simp [Value.category]) (by decide) hm.1 rfl rfl ?_
    intro v1 h1 z1 hq1
    obtain ⟨rfl, rfl, rfl⟩ := hq1
    change pz_E _ _ _ _ _ _ _ _ _ (_ :: _) _ _ _
    refine pe_if_eq (tgt := 28) d_K_mayUse_16 (by decide) (fun c_16 => ?_) (fun c_16 => ?_)
    · have c_16 := pb_0.mp c_16
      refine pe_iconst (v := nI 0) d_K_mayUse_28 (by decide) ?_
      refine pe_zret d_K_mayUse_29 rfl (by decide) ?_
      exact ⟨by unfold may; rw [c_5, show inn y np = false from c_16]; rfl, rfl, rfl⟩
    · have c_16 := pb_n0.mp c_16
      refine pe_iload_n d_K_mayUse_19 rfl ?_
      refine pe_iconst (v := nI 0) d_K_mayUse_20 (by decide) ?_
      refine pe_iconst (v := nI 3) d_K_mayUse_21 (by decide) ?_
      -- 22: K_isIn
      refine pe_callS d_K_mayUse_22 m_K_108 s_K_isIn (c_K_isIn _ _ _) rfl rfl (by simp [Value.category]) (by decide) ?_
      intro v1 h1 z1 hq1
      obtain ⟨rfl, rfl, rfl⟩ := hq1
      change pz_E _ _ _ _ _ _ _ _ _ (_ :: _) _ _ _
      refine pe_if_ne (tgt := 30) d_K_mayUse_25 (by decide) (fun c_25 => ?_) (fun c_25 => ?_)
      · have c_25 := pb_n0.mp c_25
        obtain ⟨q, hq, rfl⟩ := inn_N (by have := hm.2.2.2.2.2.2.2.2; omega) c_16
        have hn2 := hm.2.2.2.2.2.2.2.2
        refine pe_aload_n d_K_mayUse_30 rfl ?_
        refine pe_getf d_K_mayUse_31 f_K_18 hK.1 rfl ?_
        refine pe_iload_n d_K_mayUse_34 rfl ?_
        -- 35: Memory_ownerOf
        refine pe_callV d_K_mayUse_35 m_K_144 j_Memory_ownerOf v_Memory_ownerOf (c_Memory_ownerOf hm (by omega)) rfl rfl (by simp [Value.category]) (by decide) hm.1 rfl rfl ?_
        intro v1 h1 z1 hq1
        obtain ⟨rfl, rfl, rfl⟩ := hq1
        change pz_E _ _ _ _ _ _ _ _ _ (_ :: _) _ _ _
        refine pe_iload_n d_K_mayUse_38 rfl ?_
        refine pe_icmp_eq (tgt := 56) d_K_mayUse_39 (by decide) (fun c_39 => ?_) (fun c_39 => ?_)
        · refine pe_iconst (v := nI 1) d_K_mayUse_56 (by decide) ?_
          refine pe_goto (tgt := 61) d_K_mayUse_57 (by decide) ?_
          refine pe_zret d_K_mayUse_61 rfl (by decide) ?_
          exact ⟨by unfold may; rw [c_5, show inn (nI q) np = true from c_16, c_25, nI_clamp (show q < 2147483648 by omega), decide_eq_true c_39]; rfl, rfl, rfl⟩
        · obtain ⟨a, ha, -, rfl⟩ := opn_N c_5
          refine pe_aload_n d_K_mayUse_42 rfl ?_
          refine pe_getf d_K_mayUse_43 f_K_18 hK.1 rfl ?_
          refine pe_iload_n d_K_mayUse_46 rfl ?_
          refine pe_iload_n d_K_mayUse_47 rfl ?_
          -- 48: Memory_rightOf
          refine pe_callV d_K_mayUse_48 m_K_293 j_Memory_rightOf v_Memory_rightOf (c_Memory_rightOf hm (by omega) (by omega)) rfl rfl (by simp [Value.category]) (by decide) hm.1 rfl rfl ?_
          intro v1 h1 z1 hq1
          obtain ⟨rfl, rfl, rfl⟩ := hq1
          change pz_E _ _ _ _ _ _ _ _ _ (_ :: _) _ _ _
          refine pe_iload d_K_mayUse_51 rfl ?_
          refine pe_icmp_lt (tgt := 60) d_K_mayUse_53 (by decide) (fun c_53 => ?_) (fun c_53 => ?_)
          · refine pe_iconst (v := nI 0) d_K_mayUse_60 (by decide) ?_
            refine pe_zret d_K_mayUse_61 rfl (by decide) ?_
            exact ⟨by unfold may; rw [c_5, show inn (nI q) np = true from c_16, c_25, nI_clamp (show q < 2147483648 by omega), decide_eq_false c_39, nI_clamp (show a < 2147483648 by omega), decide_eq_true c_53]; rfl, rfl, rfl⟩
          · refine pe_iconst (v := nI 1) d_K_mayUse_56 (by decide) ?_
            refine pe_goto (tgt := 61) d_K_mayUse_57 (by decide) ?_
            refine pe_zret d_K_mayUse_61 rfl (by decide) ?_
            exact ⟨by unfold may; rw [c_5, show inn (nI q) np = true from c_16, c_25, nI_clamp (show q < 2147483648 by omega), decide_eq_false c_39, nI_clamp (show a < 2147483648 by omega), decide_eq_false c_53]; rfl, rfl, rfl⟩
      · have c_25 := pb_0.mp c_25
        refine pe_iconst (v := nI 0) d_K_mayUse_28 (by decide) ?_
        refine pe_zret d_K_mayUse_29 rfl (by decide) ?_
        exact ⟨by unfold may; rw [c_5, show inn y np = true from c_16, c_25]; rfl, rfl, rfl⟩
set_option maxHeartbeats 4000000 in
set_option maxRecDepth 20000 in
theorem c_K_take_no {l : Launch} {L : Nat} {xs : Nat → Int32} {h : pz_H} {z : Nat} {lost : Nat} (hK : KOB h lost) {dr fl : Nat → Nat} {op mp : Nat → Bool} {fi lk : Nat → Nat} (hap : ∀ i, i < 6 → AOB (16 + 25 * i) h (dr i) (fl i) (op i) (mp i) (fi i) (lk i)) {np : Nat} {mw mo mr mt : Nat → Int32} {mn : Nat → Bool} {md : Nat → Int32} {ts ck : Nat} (hm : MEM h np mw mo mr mt mn md ts ck) (x : Int32) (hno : opn op x = false) : pz_K l L xs M_K_take 3 0 0 [.ref 0, .int x] h z (fun v h' z' => v = some (.int (-1)) ∧ h = h' ∧ z = z') := by
  refine pz_K.of rfl (Nat.le_of_ble_eq_true rfl) ?_
  change pz_E l L xs M_K_take 3 0 0 0 [some (.ref 0), some (.int x), none] [] h z _
  refine pe_aload_n d_K_take_0 rfl ?_
  refine pe_iload_n d_K_take_1 rfl ?_
  -- 2: K_isOpen
  refine pe_callV d_K_take_2 m_K_84 j_K_isOpen v_K_isOpen (c_K_isOpen hK hap _) rfl rfl (by simp [Value.category]) (by decide) hK.1 rfl rfl ?_
  intro v1 h1 z1 hq1
  obtain ⟨rfl, rfl, rfl⟩ := hq1
  change pz_E _ _ _ _ _ _ _ _ _ (_ :: _) _ _ _
  refine pe_if_ne (tgt := 10) d_K_take_5 (by decide) (fun c_5 => ?_) (fun c_5 => ?_)
  · have c_5 := pb_n0.mp c_5
    exact absurd (c_5.symm.trans hno) (by decide)
  · have c_5 := pb_0.mp c_5
    refine pe_iconst (v := -1) d_K_take_8 (by decide) ?_
    refine pe_iret d_K_take_9 rfl ?_
    exact ⟨rfl, rfl, rfl⟩
set_option maxHeartbeats 4000000 in
set_option maxRecDepth 20000 in
theorem c_K_take_full {l : Launch} {L : Nat} {xs : Nat → Int32} {h : pz_H} {z : Nat} {lost : Nat} (hK : KOB h lost) {dr fl : Nat → Nat} {op mp : Nat → Bool} {fi lk : Nat → Nat} (hap : ∀ i, i < 6 → AOB (16 + 25 * i) h (dr i) (fl i) (op i) (mp i) (fi i) (lk i)) {np : Nat} {mw mo mr mt : Nat → Int32} {mn : Nat → Bool} {md : Nat → Int32} {ts ck : Nat} (hm : MEM h np mw mo mr mt mn md ts ck) (x : Int32) (hyes : opn op x = true) (hfull : ¬ ff (fun j => decide (mo j = -1)) np 0 < np) : pz_K l L xs M_K_take 3 0 0 [.ref 0, .int x] h z (fun v h' z' => v = some (.int (-2)) ∧ h = h' ∧ z = z') := by
  refine pz_K.of rfl (Nat.le_of_ble_eq_true rfl) ?_
  change pz_E l L xs M_K_take 3 0 0 0 [some (.ref 0), some (.int x), none] [] h z _
  refine pe_aload_n d_K_take_0 rfl ?_
  refine pe_iload_n d_K_take_1 rfl ?_
  -- 2: K_isOpen
  refine pe_callV d_K_take_2 m_K_84 j_K_isOpen v_K_isOpen (c_K_isOpen hK hap _) rfl rfl (by simp [Value.category]) (by decide) hK.1 rfl rfl ?_
  intro v1 h1 z1 hq1
  obtain ⟨rfl, rfl, rfl⟩ := hq1
  change pz_E _ _ _ _ _ _ _ _ _ (_ :: _) _ _ _
  refine pe_if_ne (tgt := 10) d_K_take_5 (by decide) (fun c_5 => ?_) (fun c_5 => ?_)
  · have c_5 := pb_n0.mp c_5
    refine pe_aload_n d_K_take_10 rfl ?_
    refine pe_getf d_K_take_11 f_K_18 hK.1 rfl ?_
    -- 14: Memory_leastFree
    refine pe_callV d_K_take_14 m_K_98 j_Memory_leastFree v_Memory_leastFree (c_Memory_leastFree hm) rfl rfl (by simp [Value.category]) (by decide) hm.1 rfl rfl ?_
    intro v1 h1 z1 hq1
    obtain ⟨rfl, rfl, rfl⟩ := hq1
    rw [Nat.sub_zero, orm_ge hfull]
    change pz_E _ _ _ _ _ _ _ _ _ (_ :: _) _ _ _
    refine pe_istore_n d_K_take_17 (by decide) rfl ?_
    dsimp only [List.set]
    refine pe_iload_n d_K_take_18 rfl ?_
    refine pe_iconst (v := -1) d_K_take_19 (by decide) ?_
    refine pe_icmp_ne (tgt := 26) d_K_take_20 (by decide) (fun c_20 => ?_) (fun c_20 => ?_)
    · exact absurd rfl c_20
    · refine pe_bipush (v := -2) d_K_take_23 (by decide) ?_
      refine pe_iret d_K_take_25 rfl ?_
      exact ⟨rfl, rfl, rfl⟩
  · have c_5 := pb_0.mp c_5
    exact absurd (c_5.symm.trans hyes) (by decide)
set_option maxHeartbeats 4000000 in
set_option maxRecDepth 20000 in
theorem c_K_take_ok {l : Launch} {L : Nat} {xs : Nat → Int32} {h : pz_H} {z : Nat} {lost : Nat} (hK : KOB h lost) {dr fl : Nat → Nat} {op mp : Nat → Bool} {fi lk : Nat → Nat} (hap : ∀ i, i < 6 → AOB (16 + 25 * i) h (dr i) (fl i) (op i) (mp i) (fi i) (lk i)) {np : Nat} {mw mo mr mt : Nat → Int32} {mn : Nat → Bool} {md : Nat → Int32} {ts ck : Nat} (hm : MEM h np mw mo mr mt mn md ts ck) (x : Int32) (hyes : opn op x = true) {q : Nat} (hqe : q = ff (fun j => decide (mo j = -1)) np 0) (hq : q < np) : pz_K l L xs M_K_take 3 0 0 [.ref 0, .int x] h z (fun v h' z' => v = some (.int (nI q)) ∧ z = z' ∧ MEM h' np (fil mw (fun _ => 0) (q * 4) 4) (upd mo q x) mr (upd mt q (nI ts)) mn md (ts + 1) ck ∧ frm 1 8 h h') := by
  refine pz_K.of rfl (Nat.le_of_ble_eq_true rfl) ?_
  change pz_E l L xs M_K_take 3 0 0 0 [some (.ref 0), some (.int x), none] [] h z _
  refine pe_aload_n d_K_take_0 rfl ?_
  refine pe_iload_n d_K_take_1 rfl ?_
  -- 2: K_isOpen
  refine pe_callV d_K_take_2 m_K_84 j_K_isOpen v_K_isOpen (c_K_isOpen hK hap _) rfl rfl (by simp [Value.category]) (by decide) hK.1 rfl rfl ?_
  intro v1 h1 z1 hq1
  obtain ⟨rfl, rfl, rfl⟩ := hq1
  change pz_E _ _ _ _ _ _ _ _ _ (_ :: _) _ _ _
  refine pe_if_ne (tgt := 10) d_K_take_5 (by decide) (fun c_5 => ?_) (fun c_5 => ?_)
  · have c_5 := pb_n0.mp c_5
    refine pe_aload_n d_K_take_10 rfl ?_
    refine pe_getf d_K_take_11 f_K_18 hK.1 rfl ?_
    -- 14: Memory_leastFree
    refine pe_callV d_K_take_14 m_K_98 j_Memory_leastFree v_Memory_leastFree (c_Memory_leastFree hm) rfl rfl (by simp [Value.category]) (by decide) hm.1 rfl rfl ?_
    intro v1 h1 z1 hq1
    obtain ⟨rfl, rfl, rfl⟩ := hq1
    rw [Nat.sub_zero, ← hqe, orm_lt hq]
    have hn2 := hm.2.2.2.2.2.2.2.2
    change pz_E _ _ _ _ _ _ _ _ _ (_ :: _) _ _ _
    refine pe_istore_n d_K_take_17 (by decide) rfl ?_
    dsimp only [List.set]
    refine pe_iload_n d_K_take_18 rfl ?_
    refine pe_iconst (v := -1) d_K_take_19 (by decide) ?_
    refine pe_icmp_ne (tgt := 26) d_K_take_20 (by decide) (fun c_20 => ?_) (fun c_20 => ?_)
    · refine pe_aload_n d_K_take_26 rfl ?_
      refine pe_getf d_K_take_27 f_K_18 hK.1 rfl ?_
      refine pe_iload_n d_K_take_30 rfl ?_
      refine pe_iload_n d_K_take_31 rfl ?_
      -- 32: Memory_bind
      refine pe_callV d_K_take_32 m_K_99 j_Memory_bind v_Memory_bind (c_Memory_bind hm hq _) rfl rfl (by simp [Value.category]) (by decide) hm.1 rfl rfl ?_
      intro v1 h1 z1 hq1
      obtain ⟨rfl, rfl, hm, hf1⟩ := hq1
      change pz_E _ _ _ _ _ _ _ _ _ _ _ _ _
      refine pe_iload_n d_K_take_35 rfl ?_
      refine pe_iret d_K_take_36 rfl ?_
      exact ⟨rfl, rfl, hm, hf1⟩
    · exact absurd c_20 (nI_nem1 (by omega))
  · have c_5 := pb_0.mp c_5
    exact absurd (c_5.symm.trans hyes) (by decide)
set_option maxHeartbeats 4000000 in
set_option maxRecDepth 20000 in
theorem c_K_release_no {l : Launch} {L : Nat} {xs : Nat → Int32} {h : pz_H} {z : Nat} {lost : Nat} (hK : KOB h lost) {dr fl : Nat → Nat} {op mp : Nat → Bool} {fi lk : Nat → Nat} (hap : ∀ i, i < 6 → AOB (16 + 25 * i) h (dr i) (fl i) (op i) (mp i) (fi i) (lk i)) {np : Nat} {mw mo mr mt : Nat → Int32} {mn : Nat → Bool} {md : Nat → Int32} {ts ck : Nat} (hm : MEM h np mw mo mr mt mn md ts ck) (x y : Int32) (hno : own op mo np x y = false) : pz_K l L xs M_K_release 4 0 0 [.ref 0, .int x, .int y] h z (fun v h' z' => v = some (.int (-1)) ∧ h = h' ∧ z = z') := by
  refine pz_K.of rfl (Nat.le_of_ble_eq_true rfl) ?_
  change pz_E l L xs M_K_release 4 0 0 0 [some (.ref 0), some (.int x), some (.int y)] [] h z _
  refine pe_aload_n d_K_release_0 rfl ?_
  refine pe_iload_n d_K_release_1 rfl ?_
  refine pe_iload_n d_K_release_2 rfl ?_
  -- 3: K_owns
  refine pe_callV d_K_release_3 m_K_102 j_K_owns v_K_owns (c_K_owns hK hap hm _ _) rfl rfl (by simp [Value.category]) (by decide) hK.1 rfl rfl ?_
  intro v1 h1 z1 hq1
  obtain ⟨rfl, rfl, rfl⟩ := hq1
  change pz_E _ _ _ _ _ _ _ _ _ (_ :: _) _ _ _
  refine pe_if_ne (tgt := 11) d_K_release_6 (by decide) (fun c_6 => ?_) (fun c_6 => ?_)
  · have c_6 := pb_n0.mp c_6
    exact absurd (c_6.symm.trans hno) (by decide)
  · have c_6 := pb_0.mp c_6
    refine pe_iconst (v := -1) d_K_release_9 (by decide) ?_
    refine pe_iret d_K_release_10 rfl ?_
    exact ⟨rfl, rfl, rfl⟩
set_option maxHeartbeats 4000000 in
set_option maxRecDepth 20000 in
theorem c_K_release_ok {l : Launch} {L : Nat} {xs : Nat → Int32} {h : pz_H} {z : Nat} {lost : Nat} (hK : KOB h lost) {dr fl : Nat → Nat} {op mp : Nat → Bool} {fi lk : Nat → Nat} (hap : ∀ i, i < 6 → AOB (16 + 25 * i) h (dr i) (fl i) (op i) (mp i) (fi i) (lk i)) {np : Nat} {mw mo mr mt : Nat → Int32} {mn : Nat → Bool} {md : Nat → Int32} {ts ck : Nat} (hm : MEM h np mw mo mr mt mn md ts ck) (x : Int32) {q : Nat} (hq : q < np) (hyes : own op mo np x (nI q) = true) : pz_K l L xs M_K_release 4 0 0 [.ref 0, .int x, .int (nI q)] h z (fun v h' z' => v = some (.int (nI 0)) ∧ z = z' ∧ MEM h' np mw (upd mo q (-1)) (fil mr (fun _ => 0) (q * 6) 6) mt (updB mn q false) md ts ck ∧ frm 1 8 h h') := by
  refine pz_K.of rfl (Nat.le_of_ble_eq_true rfl) ?_
  change pz_E l L xs M_K_release 4 0 0 0 [some (.ref 0), some (.int x), some (.int (nI q))] [] h z _
  refine pe_aload_n d_K_release_0 rfl ?_
  refine pe_iload_n d_K_release_1 rfl ?_
  refine pe_iload_n d_K_release_2 rfl ?_
  -- 3: K_owns
  refine pe_callV d_K_release_3 m_K_102 j_K_owns v_K_owns (c_K_owns hK hap hm _ _) rfl rfl (by simp [Value.category]) (by decide) hK.1 rfl rfl ?_
  intro v1 h1 z1 hq1
  obtain ⟨rfl, rfl, rfl⟩ := hq1
  change pz_E _ _ _ _ _ _ _ _ _ (_ :: _) _ _ _
  refine pe_if_ne (tgt := 11) d_K_release_6 (by decide) (fun c_6 => ?_) (fun c_6 => ?_)
  · have c_6 := pb_n0.mp c_6
    refine pe_aload_n d_K_release_11 rfl ?_
    refine pe_getf d_K_release_12 f_K_18 hK.1 rfl ?_
    refine pe_iload_n d_K_release_15 rfl ?_
    -- 16: Memory_free
    refine pe_callV d_K_release_16 m_K_105 j_Memory_free v_Memory_free (c_Memory_free hm hq) rfl rfl (by simp [Value.category]) (by decide) hm.1 rfl rfl ?_
    intro v1 h1 z1 hq1
    obtain ⟨rfl, rfl, hm, hf1⟩ := hq1
    change pz_E _ _ _ _ _ _ _ _ _ _ _ _ _
    refine pe_iconst (v := nI 0) d_K_release_19 (by decide) ?_
    refine pe_iret d_K_release_20 rfl ?_
    exact ⟨rfl, rfl, hm, hf1⟩
  · have c_6 := pb_0.mp c_6
    exact absurd (c_6.symm.trans hyes) (by decide)
def shg (op : Nat → Bool) (mo : Nat → Int32) (np : Nat) (x y t r : Int32) : Bool := rng r (nI 0) (nI 2) && (own op mo np x y && (!decide (t = x) && opn op t))
set_option maxHeartbeats 4000000 in
set_option maxRecDepth 20000 in
theorem c_K_share_no {l : Launch} {L : Nat} {xs : Nat → Int32} {h : pz_H} {z : Nat} {lost : Nat} (hK : KOB h lost) {dr fl : Nat → Nat} {op mp : Nat → Bool} {fi lk : Nat → Nat} (hap : ∀ i, i < 6 → AOB (16 + 25 * i) h (dr i) (fl i) (op i) (mp i) (fi i) (lk i)) {np : Nat} {mw mo mr mt : Nat → Int32} {mn : Nat → Bool} {md : Nat → Int32} {ts ck : Nat} (hm : MEM h np mw mo mr mt mn md ts ck) (x y t r : Int32) (hno : shg op mo np x y t r = false) : pz_K l L xs M_K_share 4 0 0 [.ref 0, .int x, .int y, .int t, .int r] h z (fun v h' z' => v = some (.int (-1)) ∧ h = h' ∧ z = z') := by
  refine pz_K.of rfl (Nat.le_of_ble_eq_true rfl) ?_
  change pz_E l L xs M_K_share 4 0 0 0 [some (.ref 0), some (.int x), some (.int y), some (.int t), some (.int r)] [] h z _
  refine pe_iload d_K_share_0 rfl ?_
  refine pe_iconst (v := nI 0) d_K_share_2 (by decide) ?_
  refine pe_iconst (v := nI 2) d_K_share_3 (by decide) ?_
  -- 4: K_isIn
  refine pe_callS d_K_share_4 m_K_108 s_K_isIn (c_K_isIn _ _ _) rfl rfl (by simp [Value.category]) (by decide) ?_
  intro v1 h1 z1 hq1
  obtain ⟨rfl, rfl, rfl⟩ := hq1
  change pz_E _ _ _ _ _ _ _ _ _ (_ :: _) _ _ _
  refine pe_if_eq (tgt := 32) d_K_share_7 (by decide) (fun c_7 => ?_) (fun c_7 => ?_)
  · have c_7 := pb_0.mp c_7
    refine pe_iconst (v := -1) d_K_share_32 (by decide) ?_
    refine pe_iret d_K_share_33 rfl ?_
    exact ⟨rfl, rfl, rfl⟩
  · have c_7 := pb_n0.mp c_7
    refine pe_aload_n d_K_share_10 rfl ?_
    refine pe_iload_n d_K_share_11 rfl ?_
    refine pe_iload_n d_K_share_12 rfl ?_
    -- 13: K_owns
    refine pe_callV d_K_share_13 m_K_102 j_K_owns v_K_owns (c_K_owns hK hap hm _ _) rfl rfl (by simp [Value.category]) (by decide) hK.1 rfl rfl ?_
    intro v1 h1 z1 hq1
    obtain ⟨rfl, rfl, rfl⟩ := hq1
    change pz_E _ _ _ _ _ _ _ _ _ (_ :: _) _ _ _
    refine pe_if_eq (tgt := 32) d_K_share_16 (by decide) (fun c_16 => ?_) (fun c_16 => ?_)
    · have c_16 := pb_0.mp c_16
      refine pe_iconst (v := -1) d_K_share_32 (by decide) ?_
      refine pe_iret d_K_share_33 rfl ?_
      exact ⟨rfl, rfl, rfl⟩
    · have c_16 := pb_n0.mp c_16
      refine pe_iload_n d_K_share_19 rfl ?_
      refine pe_iload_n d_K_share_20 rfl ?_
      refine pe_icmp_eq (tgt := 32) d_K_share_21 (by decide) (fun c_21 => ?_) (fun c_21 => ?_)
      · refine pe_iconst (v := -1) d_K_share_32 (by decide) ?_
        refine pe_iret d_K_share_33 rfl ?_
        exact ⟨rfl, rfl, rfl⟩
      · refine pe_aload_n d_K_share_24 rfl ?_
        refine pe_iload_n d_K_share_25 rfl ?_
        -- 26: K_isOpen
        refine pe_callV d_K_share_26 m_K_84 j_K_isOpen v_K_isOpen (c_K_isOpen hK hap _) rfl rfl (by simp [Value.category]) (by decide) hK.1 rfl rfl ?_
        intro v1 h1 z1 hq1
        obtain ⟨rfl, rfl, rfl⟩ := hq1
        change pz_E _ _ _ _ _ _ _ _ _ (_ :: _) _ _ _
        refine pe_if_ne (tgt := 34) d_K_share_29 (by decide) (fun c_29 => ?_) (fun c_29 => ?_)
        · have c_29 := pb_n0.mp c_29
          exfalso; simp_all [shg]
        · have c_29 := pb_0.mp c_29
          refine pe_iconst (v := -1) d_K_share_32 (by decide) ?_
          refine pe_iret d_K_share_33 rfl ?_
          exact ⟨rfl, rfl, rfl⟩
set_option maxHeartbeats 4000000 in
set_option maxRecDepth 20000 in
theorem c_K_share_ok {l : Launch} {L : Nat} {xs : Nat → Int32} {h : pz_H} {z : Nat} {lost : Nat} (hK : KOB h lost) {dr fl : Nat → Nat} {op mp : Nat → Bool} {fi lk : Nat → Nat} (hap : ∀ i, i < 6 → AOB (16 + 25 * i) h (dr i) (fl i) (op i) (mp i) (fi i) (lk i)) {np : Nat} {mw mo mr mt : Nat → Int32} {mn : Nat → Bool} {md : Nat → Int32} {ts ck : Nat} (hm : MEM h np mw mo mr mt mn md ts ck) (x r : Int32) {q b : Nat} (hq : q < np) (hb : b < 6) (hyes : shg op mo np x (nI q) (nI b) r = true) : pz_K l L xs M_K_share 4 0 0 [.ref 0, .int x, .int (nI q), .int (nI b), .int r] h z (fun v h' z' => v = some (.int (nI 0)) ∧ z = z' ∧ MEM h' np mw mo (upd mr (q * 6 + b) r) mt mn md ts ck ∧ frm 1 8 h h') := by
  refine pz_K.of rfl (Nat.le_of_ble_eq_true rfl) ?_
  change pz_E l L xs M_K_share 4 0 0 0 [some (.ref 0), some (.int x), some (.int (nI q)), some (.int (nI b)), some (.int r)] [] h z _
  refine pe_iload d_K_share_0 rfl ?_
  refine pe_iconst (v := nI 0) d_K_share_2 (by decide) ?_
  refine pe_iconst (v := nI 2) d_K_share_3 (by decide) ?_
  -- 4: K_isIn
  refine pe_callS d_K_share_4 m_K_108 s_K_isIn (c_K_isIn _ _ _) rfl rfl (by simp [Value.category]) (by decide) ?_
  intro v1 h1 z1 hq1
  obtain ⟨rfl, rfl, rfl⟩ := hq1
  change pz_E _ _ _ _ _ _ _ _ _ (_ :: _) _ _ _
  refine pe_if_eq (tgt := 32) d_K_share_7 (by decide) (fun c_7 => ?_) (fun c_7 => ?_)
  · have c_7 := pb_0.mp c_7
    exfalso; simp_all [shg]
  · have c_7 := pb_n0.mp c_7
    refine pe_aload_n d_K_share_10 rfl ?_
    refine pe_iload_n d_K_share_11 rfl ?_
    refine pe_iload_n d_K_share_12 rfl ?_
    -- 13: K_owns
    refine pe_callV d_K_share_13 m_K_102 j_K_owns v_K_owns (c_K_owns hK hap hm _ _) rfl rfl (by simp [Value.category]) (by decide) hK.1 rfl rfl ?_
    intro v1 h1 z1 hq1
    obtain ⟨rfl, rfl, rfl⟩ := hq1
    change pz_E _ _ _ _ _ _ _ _ _ (_ :: _) _ _ _
    refine pe_if_eq (tgt := 32) d_K_share_16 (by decide) (fun c_16 => ?_) (fun c_16 => ?_)
    · have c_16 := pb_0.mp c_16
      exfalso; simp_all [shg]
    · have c_16 := pb_n0.mp c_16
      refine pe_iload_n d_K_share_19 rfl ?_
      refine pe_iload_n d_K_share_20 rfl ?_
      refine pe_icmp_eq (tgt := 32) d_K_share_21 (by decide) (fun c_21 => ?_) (fun c_21 => ?_)
      · exfalso; simp_all [shg]
      · refine pe_aload_n d_K_share_24 rfl ?_
        refine pe_iload_n d_K_share_25 rfl ?_
        -- 26: K_isOpen
        refine pe_callV d_K_share_26 m_K_84 j_K_isOpen v_K_isOpen (c_K_isOpen hK hap _) rfl rfl (by simp [Value.category]) (by decide) hK.1 rfl rfl ?_
        intro v1 h1 z1 hq1
        obtain ⟨rfl, rfl, rfl⟩ := hq1
        change pz_E _ _ _ _ _ _ _ _ _ (_ :: _) _ _ _
        refine pe_if_ne (tgt := 34) d_K_share_29 (by decide) (fun c_29 => ?_) (fun c_29 => ?_)
        · have c_29 := pb_n0.mp c_29
          refine pe_aload_n d_K_share_34 rfl ?_
          refine pe_getf d_K_share_35 f_K_18 hK.1 rfl ?_
          refine pe_iload_n d_K_share_38 rfl ?_
          refine pe_iload_n d_K_share_39 rfl ?_
          refine pe_iload d_K_share_40 rfl ?_
          -- 42: Memory_setRight
          refine pe_callV d_K_share_42 m_K_112 j_Memory_setRight v_Memory_setRight (c_Memory_setRight hm hq hb _) rfl rfl (by simp [Value.category]) (by decide) hm.1 rfl rfl ?_
          intro v1 h1 z1 hq1
          obtain ⟨rfl, rfl, hm, hf1⟩ := hq1
          change pz_E _ _ _ _ _ _ _ _ _ _ _ _ _
          refine pe_iconst (v := nI 0) d_K_share_45 (by decide) ?_
          refine pe_iret d_K_share_46 rfl ?_
          exact ⟨rfl, rfl, hm, hf1⟩
        · have c_29 := pb_0.mp c_29
          exfalso; simp_all [shg]
set_option maxHeartbeats 4000000 in
set_option maxRecDepth 20000 in
theorem c_K_store_no {l : Launch} {L : Nat} {xs : Nat → Int32} {h : pz_H} {z : Nat} {lost : Nat} (hK : KOB h lost) {dr fl : Nat → Nat} {op mp : Nat → Bool} {fi lk : Nat → Nat} (hap : ∀ i, i < 6 → AOB (16 + 25 * i) h (dr i) (fl i) (op i) (mp i) (fi i) (lk i)) {np : Nat} {mw mo mr mt : Nat → Int32} {mn : Nat → Bool} {md : Nat → Int32} {ts ck : Nat} (hm : MEM h np mw mo mr mt mn md ts ck) (x y w u : Int32) (hno : may op mo mr np x y w (nI 2) = false) : pz_K l L xs M_K_store 4 0 0 [.ref 0, .int x, .int y, .int w, .int u] h z (fun v h' z' => v = some (.int (-1)) ∧ h = h' ∧ z = z') := by
  refine pz_K.of rfl (Nat.le_of_ble_eq_true rfl) ?_
  change pz_E l L xs M_K_store 4 0 0 0 [some (.ref 0), some (.int x), some (.int y), some (.int w), some (.int u)] [] h z _
  refine pe_aload_n d_K_store_0 rfl ?_
  refine pe_iload_n d_K_store_1 rfl ?_
  refine pe_iload_n d_K_store_2 rfl ?_
  refine pe_iload_n d_K_store_3 rfl ?_
  refine pe_iconst (v := nI 2) d_K_store_4 (by decide) ?_
  -- 5: K_mayUse
  refine pe_callV d_K_store_5 m_K_116 j_K_mayUse v_K_mayUse (c_K_mayUse hK hap hm _ _ _ _) rfl rfl (by simp [Value.category]) (by decide) hK.1 rfl rfl ?_
  intro v1 h1 z1 hq1
  obtain ⟨rfl, rfl, rfl⟩ := hq1
  change pz_E _ _ _ _ _ _ _ _ _ (_ :: _) _ _ _
  refine pe_if_ne (tgt := 13) d_K_store_8 (by decide) (fun c_8 => ?_) (fun c_8 => ?_)
  · have c_8 := pb_n0.mp c_8
    exact absurd (c_8.symm.trans hno) (by decide)
  · have c_8 := pb_0.mp c_8
    refine pe_iconst (v := -1) d_K_store_11 (by decide) ?_
    refine pe_iret d_K_store_12 rfl ?_
    exact ⟨rfl, rfl, rfl⟩
set_option maxHeartbeats 4000000 in
set_option maxRecDepth 20000 in
theorem c_K_store_ok {l : Launch} {L : Nat} {xs : Nat → Int32} {h : pz_H} {z : Nat} {lost : Nat} (hK : KOB h lost) {dr fl : Nat → Nat} {op mp : Nat → Bool} {fi lk : Nat → Nat} (hap : ∀ i, i < 6 → AOB (16 + 25 * i) h (dr i) (fl i) (op i) (mp i) (fi i) (lk i)) {np : Nat} {mw mo mr mt : Nat → Int32} {mn : Nat → Bool} {md : Nat → Int32} {ts ck : Nat} (hm : MEM h np mw mo mr mt mn md ts ck) (x u : Int32) {q b : Nat} (hq : q < np) (hb : b < 4) (hyes : may op mo mr np x (nI q) (nI b) (nI 2) = true) : pz_K l L xs M_K_store 4 0 0 [.ref 0, .int x, .int (nI q), .int (nI b), .int u] h z (fun v h' z' => v = some (.int (nI 0)) ∧ z = z' ∧ MEM h' np (upd mw (q * 4 + b) u) mo mr mt mn md ts ck ∧ frm 1 8 h h') := by
  refine pz_K.of rfl (Nat.le_of_ble_eq_true rfl) ?_
  change pz_E l L xs M_K_store 4 0 0 0 [some (.ref 0), some (.int x), some (.int (nI q)), some (.int (nI b)), some (.int u)] [] h z _
  refine pe_aload_n d_K_store_0 rfl ?_
  refine pe_iload_n d_K_store_1 rfl ?_
  refine pe_iload_n d_K_store_2 rfl ?_
  refine pe_iload_n d_K_store_3 rfl ?_
  refine pe_iconst (v := nI 2) d_K_store_4 (by decide) ?_
  -- 5: K_mayUse
  refine pe_callV d_K_store_5 m_K_116 j_K_mayUse v_K_mayUse (c_K_mayUse hK hap hm _ _ _ _) rfl rfl (by simp [Value.category]) (by decide) hK.1 rfl rfl ?_
  intro v1 h1 z1 hq1
  obtain ⟨rfl, rfl, rfl⟩ := hq1
  change pz_E _ _ _ _ _ _ _ _ _ (_ :: _) _ _ _
  refine pe_if_ne (tgt := 13) d_K_store_8 (by decide) (fun c_8 => ?_) (fun c_8 => ?_)
  · have c_8 := pb_n0.mp c_8
    refine pe_aload_n d_K_store_13 rfl ?_
    refine pe_getf d_K_store_14 f_K_18 hK.1 rfl ?_
    refine pe_iload_n d_K_store_17 rfl ?_
    refine pe_iload_n d_K_store_18 rfl ?_
    refine pe_iload d_K_store_19 rfl ?_
    -- 21: Memory_setWord
    refine pe_callV d_K_store_21 m_K_120 j_Memory_setWord v_Memory_setWord (c_Memory_setWord hm hq hb _) rfl rfl (by simp [Value.category]) (by decide) hm.1 rfl rfl ?_
    intro v1 h1 z1 hq1
    obtain ⟨rfl, rfl, hm, hf1⟩ := hq1
    change pz_E _ _ _ _ _ _ _ _ _ _ _ _ _
    refine pe_iconst (v := nI 0) d_K_store_24 (by decide) ?_
    refine pe_iret d_K_store_25 rfl ?_
    exact ⟨rfl, rfl, hm, hf1⟩
  · have c_8 := pb_0.mp c_8
    exact absurd (c_8.symm.trans hyes) (by decide)
set_option maxHeartbeats 4000000 in
set_option maxRecDepth 20000 in
theorem c_K_fetch_no {l : Launch} {L : Nat} {xs : Nat → Int32} {h : pz_H} {z : Nat} {lost : Nat} (hK : KOB h lost) {dr fl : Nat → Nat} {op mp : Nat → Bool} {fi lk : Nat → Nat} (hap : ∀ i, i < 6 → AOB (16 + 25 * i) h (dr i) (fl i) (op i) (mp i) (fi i) (lk i)) {np : Nat} {mw mo mr mt : Nat → Int32} {mn : Nat → Bool} {md : Nat → Int32} {ts ck : Nat} (hm : MEM h np mw mo mr mt mn md ts ck) (x y w : Int32) (hno : may op mo mr np x y w (nI 1) = false) : pz_K l L xs M_K_fetch 4 0 0 [.ref 0, .int x, .int y, .int w] h z (fun v h' z' => v = some (.long 1000000000000) ∧ h = h' ∧ z = z') := by
  refine pz_K.of rfl (Nat.le_of_ble_eq_true rfl) ?_
  change pz_E l L xs M_K_fetch 4 0 0 0 [some (.ref 0), some (.int x), some (.int y), some (.int w)] [] h z _
  refine pe_aload_n d_K_fetch_0 rfl ?_
  refine pe_iload_n d_K_fetch_1 rfl ?_
  refine pe_iload_n d_K_fetch_2 rfl ?_
  refine pe_iload_n d_K_fetch_3 rfl ?_
  refine pe_iconst (v := nI 1) d_K_fetch_4 (by decide) ?_
  -- 5: K_mayUse
  refine pe_callV d_K_fetch_5 m_K_116 j_K_mayUse v_K_mayUse (c_K_mayUse hK hap hm _ _ _ _) rfl rfl (by simp [Value.category]) (by decide) hK.1 rfl rfl ?_
  intro v1 h1 z1 hq1
  obtain ⟨rfl, rfl, rfl⟩ := hq1
  change pz_E _ _ _ _ _ _ _ _ _ (_ :: _) _ _ _
  refine pe_if_ne (tgt := 15) d_K_fetch_8 (by decide) (fun c_8 => ?_) (fun c_8 => ?_)
  · have c_8 := pb_n0.mp c_8
    exact absurd (c_8.symm.trans hno) (by decide)
  · have c_8 := pb_0.mp c_8
    refine pe_ldc2 d_K_fetch_11 z_K_123 ?_
    refine pe_lret d_K_fetch_14 rfl ?_
    exact ⟨rfl, rfl, rfl⟩
set_option maxHeartbeats 4000000 in
set_option maxRecDepth 20000 in
theorem c_K_fetch_ok {l : Launch} {L : Nat} {xs : Nat → Int32} {h : pz_H} {z : Nat} {lost : Nat} (hK : KOB h lost) {dr fl : Nat → Nat} {op mp : Nat → Bool} {fi lk : Nat → Nat} (hap : ∀ i, i < 6 → AOB (16 + 25 * i) h (dr i) (fl i) (op i) (mp i) (fi i) (lk i)) {np : Nat} {mw mo mr mt : Nat → Int32} {mn : Nat → Bool} {md : Nat → Int32} {ts ck : Nat} (hm : MEM h np mw mo mr mt mn md ts ck) (x : Int32) {q b : Nat} (hq : q < np) (hb : b < 4) (hyes : may op mo mr np x (nI q) (nI b) (nI 1) = true) : pz_K l L xs M_K_fetch 4 0 0 [.ref 0, .int x, .int (nI q), .int (nI b)] h z (fun v h' z' => v = some (.long (mw (q * 4 + b)).toInt64) ∧ h = h' ∧ z = z') := by
  refine pz_K.of rfl (Nat.le_of_ble_eq_true rfl) ?_
  change pz_E l L xs M_K_fetch 4 0 0 0 [some (.ref 0), some (.int x), some (.int (nI q)), some (.int (nI b))] [] h z _
  refine pe_aload_n d_K_fetch_0 rfl ?_
  refine pe_iload_n d_K_fetch_1 rfl ?_
  refine pe_iload_n d_K_fetch_2 rfl ?_
  refine pe_iload_n d_K_fetch_3 rfl ?_
  refine pe_iconst (v := nI 1) d_K_fetch_4 (by decide) ?_
  -- 5: K_mayUse
  refine pe_callV d_K_fetch_5 m_K_116 j_K_mayUse v_K_mayUse (c_K_mayUse hK hap hm _ _ _ _) rfl rfl (by simp [Value.category]) (by decide) hK.1 rfl rfl ?_
  intro v1 h1 z1 hq1
  obtain ⟨rfl, rfl, rfl⟩ := hq1
  change pz_E _ _ _ _ _ _ _ _ _ (_ :: _) _ _ _
  refine pe_if_ne (tgt := 15) d_K_fetch_8 (by decide) (fun c_8 => ?_) (fun c_8 => ?_)
  · have c_8 := pb_n0.mp c_8
    refine pe_aload_n d_K_fetch_15 rfl ?_
    refine pe_getf d_K_fetch_16 f_K_18 hK.1 rfl ?_
    refine pe_iload_n d_K_fetch_19 rfl ?_
    refine pe_iload_n d_K_fetch_20 rfl ?_
    -- 21: Memory_wordOf
    refine pe_callV d_K_fetch_21 m_K_125 j_Memory_wordOf v_Memory_wordOf (c_Memory_wordOf hm hq hb) rfl rfl (by simp [Value.category]) (by decide) hm.1 rfl rfl ?_
    intro v1 h1 z1 hq1
    obtain ⟨rfl, rfl, rfl⟩ := hq1
    change pz_E _ _ _ _ _ _ _ _ _ (_ :: _) _ _ _
    refine pe_i2l d_K_fetch_24 ?_
    refine pe_lret d_K_fetch_25 rfl ?_
    exact ⟨rfl, rfl, rfl⟩
  · have c_8 := pb_0.mp c_8
    exact absurd (c_8.symm.trans hyes) (by decide)
set_option maxHeartbeats 4000000 in
set_option maxRecDepth 20000 in
theorem c_K_push_no {l : Launch} {L : Nat} {xs : Nat → Int32} {h : pz_H} {z : Nat} {lost : Nat} (hK : KOB h lost) {dr fl : Nat → Nat} {op mp : Nat → Bool} {fi lk : Nat → Nat} (hap : ∀ i, i < 6 → AOB (16 + 25 * i) h (dr i) (fl i) (op i) (mp i) (fi i) (lk i)) {fb : Nat → Int32} {fl13 : Nat} (hr : FRA 13 h fb fl13) (x : Int32) (hno : rng x (nI 0) (nI 255) = false) : pz_K l L xs M_K_push 1 0 0 [.ref 0, .int x] h z (fun v h' z' => v = some (.int (-1)) ∧ h = h' ∧ z = z') := by
  refine pz_K.of rfl (Nat.le_of_ble_eq_true rfl) ?_
  change pz_E l L xs M_K_push 1 0 0 0 [some (.ref 0), some (.int x)] [] h z _
  refine pe_iload_n d_K_push_0 rfl ?_
  refine pe_iconst (v := nI 0) d_K_push_1 (by decide) ?_
  refine pe_sipush (v := nI 255) d_K_push_2 (by decide) ?_
  -- 5: K_isIn
  refine pe_callS d_K_push_5 m_K_108 s_K_isIn (c_K_isIn _ _ _) rfl rfl (by simp [Value.category]) (by decide) ?_
  intro v1 h1 z1 hq1
  obtain ⟨rfl, rfl, rfl⟩ := hq1
  change pz_E _ _ _ _ _ _ _ _ _ (_ :: _) _ _ _
  refine pe_if_ne (tgt := 13) d_K_push_8 (by decide) (fun c_8 => ?_) (fun c_8 => ?_)
  · have c_8 := pb_n0.mp c_8
    exact absurd (c_8.symm.trans hno) (by decide)
  · have c_8 := pb_0.mp c_8
    refine pe_iconst (v := -1) d_K_push_11 (by decide) ?_
    refine pe_iret d_K_push_12 rfl ?_
    exact ⟨rfl, rfl, rfl⟩
set_option maxHeartbeats 4000000 in
set_option maxRecDepth 20000 in
theorem c_K_push_full {l : Launch} {L : Nat} {xs : Nat → Int32} {h : pz_H} {z : Nat} {lost : Nat} (hK : KOB h lost) {dr fl : Nat → Nat} {op mp : Nat → Bool} {fi lk : Nat → Nat} (hap : ∀ i, i < 6 → AOB (16 + 25 * i) h (dr i) (fl i) (op i) (mp i) (fi i) (lk i)) {fb : Nat → Int32} {fl13 : Nat} (hr : FRA 13 h fb fl13) (x : Int32) (hyes : rng x (nI 0) (nI 255) = true) (hfull : fl13 = 16) : pz_K l L xs M_K_push 1 0 0 [.ref 0, .int x] h z (fun v h' z' => v = some (.int (-2)) ∧ h = h' ∧ z = z') := by
  refine pz_K.of rfl (Nat.le_of_ble_eq_true rfl) ?_
  change pz_E l L xs M_K_push 1 0 0 0 [some (.ref 0), some (.int x)] [] h z _
  refine pe_iload_n d_K_push_0 rfl ?_
  refine pe_iconst (v := nI 0) d_K_push_1 (by decide) ?_
  refine pe_sipush (v := nI 255) d_K_push_2 (by decide) ?_
  -- 5: K_isIn
  refine pe_callS d_K_push_5 m_K_108 s_K_isIn (c_K_isIn _ _ _) rfl rfl (by simp [Value.category]) (by decide) ?_
  intro v1 h1 z1 hq1
  obtain ⟨rfl, rfl, rfl⟩ := hq1
  change pz_E _ _ _ _ _ _ _ _ _ (_ :: _) _ _ _
  refine pe_if_ne (tgt := 13) d_K_push_8 (by decide) (fun c_8 => ?_) (fun c_8 => ?_)
  · have c_8 := pb_n0.mp c_8
    refine pe_aload_n d_K_push_13 rfl ?_
    refine pe_getf d_K_push_14 f_K_39 hK.1 rfl ?_
    -- 17: Frame_isFull
    refine pe_callV d_K_push_17 m_K_184 j_Frame_isFull v_Frame_isFull (c_Frame_isFull hr) rfl rfl (by simp [Value.category]) (by decide) hr.1 rfl rfl ?_
    intro v1 h1 z1 hq1
    obtain ⟨rfl, rfl, rfl⟩ := hq1
    change pz_E _ _ _ _ _ _ _ _ _ (_ :: _) _ _ _
    refine pe_if_eq (tgt := 26) d_K_push_20 (by decide) (fun c_20 => ?_) (fun c_20 => ?_)
    · have c_20 := pb_0.mp c_20
      exact absurd hfull (of_decide_eq_false c_20)
    · have c_20 := pb_n0.mp c_20
      refine pe_bipush (v := -2) d_K_push_23 (by decide) ?_
      refine pe_iret d_K_push_25 rfl ?_
      exact ⟨rfl, rfl, rfl⟩
  · have c_8 := pb_0.mp c_8
    exact absurd (c_8.symm.trans hyes) (by decide)
set_option maxHeartbeats 4000000 in
set_option maxRecDepth 20000 in
theorem c_K_push_ok {l : Launch} {L : Nat} {xs : Nat → Int32} {h : pz_H} {z : Nat} {lost : Nat} (hK : KOB h lost) {dr fl : Nat → Nat} {op mp : Nat → Bool} {fi lk : Nat → Nat} (hap : ∀ i, i < 6 → AOB (16 + 25 * i) h (dr i) (fl i) (op i) (mp i) (fi i) (lk i)) {fb : Nat → Int32} {fl13 : Nat} (hr : FRA 13 h fb fl13) (x : Int32) (hyes : rng x (nI 0) (nI 255) = true) (hlt : fl13 < 16) : pz_K l L xs M_K_push 1 0 0 [.ref 0, .int x] h z (fun v h' z' => v = some (.int (nI (fl13 + 1))) ∧ z = z' ∧ FRA 13 h' (upd fb fl13 x) (fl13 + 1) ∧ frm 13 15 h h') := by
  refine pz_K.of rfl (Nat.le_of_ble_eq_true rfl) ?_
  change pz_E l L xs M_K_push 1 0 0 0 [some (.ref 0), some (.int x)] [] h z _
  refine pe_iload_n d_K_push_0 rfl ?_
  refine pe_iconst (v := nI 0) d_K_push_1 (by decide) ?_
  refine pe_sipush (v := nI 255) d_K_push_2 (by decide) ?_
  -- 5: K_isIn
  refine pe_callS d_K_push_5 m_K_108 s_K_isIn (c_K_isIn _ _ _) rfl rfl (by simp [Value.category]) (by decide) ?_
  intro v1 h1 z1 hq1
  obtain ⟨rfl, rfl, rfl⟩ := hq1
  change pz_E _ _ _ _ _ _ _ _ _ (_ :: _) _ _ _
  refine pe_if_ne (tgt := 13) d_K_push_8 (by decide) (fun c_8 => ?_) (fun c_8 => ?_)
  · have c_8 := pb_n0.mp c_8
    refine pe_aload_n d_K_push_13 rfl ?_
    refine pe_getf d_K_push_14 f_K_39 hK.1 rfl ?_
    -- 17: Frame_isFull
    refine pe_callV d_K_push_17 m_K_184 j_Frame_isFull v_Frame_isFull (c_Frame_isFull hr) rfl rfl (by simp [Value.category]) (by decide) hr.1 rfl rfl ?_
    intro v1 h1 z1 hq1
    obtain ⟨rfl, rfl, rfl⟩ := hq1
    change pz_E _ _ _ _ _ _ _ _ _ (_ :: _) _ _ _
    refine pe_if_eq (tgt := 26) d_K_push_20 (by decide) (fun c_20 => ?_) (fun c_20 => ?_)
    · have c_20 := pb_0.mp c_20
      refine pe_aload_n d_K_push_26 rfl ?_
      refine pe_getf d_K_push_27 f_K_39 hK.1 rfl ?_
      refine pe_iload_n d_K_push_30 rfl ?_
      -- 31: Frame_append
      refine pe_callV d_K_push_31 m_K_185 j_Frame_append v_Frame_append (c_Frame_append hr _ hlt) rfl rfl (by simp [Value.category]) (by decide) hr.1 rfl rfl ?_
      intro v1 h1 z1 hq1
      obtain ⟨rfl, rfl, hr, hf1⟩ := hq1
      have hK := hK.on (hf1.on (by omega)) (hf1.on (by omega))
      change pz_E _ _ _ _ _ _ _ _ _ _ _ _ _
      refine pe_aload_n d_K_push_34 rfl ?_
      refine pe_getf d_K_push_35 f_K_39 hK.1 rfl ?_
      refine pe_getf d_K_push_38 f_K_186 hr.1 rfl ?_
      refine pe_iret d_K_push_41 rfl ?_
      exact ⟨rfl, rfl, hr, hf1⟩
    · have c_20 := pb_n0.mp c_20
      exact absurd (of_decide_eq_true c_20) (by omega)
  · have c_8 := pb_0.mp c_8
    exact absurd (c_8.symm.trans hyes) (by decide)
