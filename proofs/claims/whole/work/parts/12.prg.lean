/-! filter programs, applications: contracts of Program, Application -/
def insOk (c k y n : Int32) : Bool := rng c (nI 0) (nI 11) && (if c = 0 ∨ c = nI 1 then rng k (nI 0) (nI 63) else if c = nI 6 then rng k (nI 0) (nI 31) else (!tst c || (rng y (nI 0) (nI 15) && rng n (nI 0) (nI 15))))
/-- an index of a byte that is there -/
def inb (y : Int64) (fl : Nat) : Bool := decide (¬ lg_cmp y 0 < 0 ∧ ¬ 0 ≤ lg_cmp y (nI fl).toInt64)
theorem inb_spec {y : Int64} {fl : Nat} (hfl : fl ≤ 16) (h : inb y fl = true) : ∃ q, q < fl ∧ y = lN q ∧ y.toInt32 = nI q := by
  have h1 := of_decide_eq_true h
  rw [lg_cmp_lt, lg_cmp_ge] at h1
  obtain ⟨h2, h3⟩ := h1
  rw [nI_l (by omega)] at h3
  have e1 : (0 : Int64).toInt = 0 := by decide
  have e2 : (lN fl).toInt = (fl : Int) := lN_toInt (by omega)
  have g2 : 0 ≤ y.toInt := by
    have := Int64.not_lt.mp h2
    rw [Int64.le_iff_toInt_le, e1] at this
    exact this
  have g3 : y.toInt < (fl : Int) := by
    have := Int64.not_le.mp h3
    rw [Int64.lt_iff_toInt_lt, e2] at this
    exact this
  have e3 : y = lN y.toInt.toNat := by
    apply Int64.toInt_inj.mp
    rw [lN_toInt (by omega)]
    omega
  refine ⟨y.toInt.toNat, by omega, e3, ?_⟩
  conv => lhs; rw [e3]
  rw [lN_i]
/-- what the codes 0 .. 9 do: A and X behind it, or the run ends -/
def stp (fb : Nat → Int32) (fl : Nat) (c k A X : Int32) : Option (Int32 × Int32) :=
  if c = 0 then (if inb k.toInt64 fl = true then some (fb k.toInt64.toInt32.toNatClampNeg, X) else none)
  else if c = nI 1 then (if inb (X.toInt64 + k.toInt64) fl = true then some (fb (X.toInt64 + k.toInt64).toInt32.toNatClampNeg, X) else none)
  else if c = nI 2 then some (nI fl, X)
  else if c = nI 3 then some (A, A)
  else if c = nI 4 then some (A + k, X)
  else if c = nI 5 then some (A &&& k, X)
  else if c = nI 6 then some ((A.toUInt32 >>> (k.toUInt32 &&& Int32.toUInt32 31)).toInt32, X)
  else some (A, X)
def hld (c A k : Int32) : Bool := if c = nI 7 then decide (A = k) else if c = nI 8 then decide (k < A) else if c = nI 9 then !decide (A &&& k = 0) else false
/-- the run of a filter: n steps left, at instruction i -/
def acc (gc go : Nat → Int32) (yy nn : Nat → Nat) (gl : Nat) (fb : Nat → Int32) (fl : Nat) : Nat → Nat → Int32 → Int32 → Bool
  | 0, _, _, _ => false
  | n + 1, i, A, X => if i < gl then (if gc i = nI 10 then !decide (go i = 0) else if gc i = nI 11 then !decide (A = 0) else
      match stp fb fl (gc i) (go i) A X with
      | none => false
      | some (A', X') => acc gc go yy nn gl fb fl n (i + (1 + if hld (gc i) A' (go i) = true then yy i else nn i)) A' X') else false
set_option maxHeartbeats 4000000 in
set_option maxRecDepth 20000 in
theorem c_Program_isInstruction {l : Launch} {L : Nat} {xs : Nat → Int32} {h : pz_H} {z : Nat} (c k y n : Int32) : pz_K l L xs M_Program_isInstruction 2 0 0 [.int c, .int k, .int y, .int n] h z (fun v h' z' => v = some (.int (pb (insOk c k y n))) ∧ h = h' ∧ z = z') := by
  refine pz_K.of rfl (Nat.le_of_ble_eq_true rfl) ?_
  change pz_E l L xs M_Program_isInstruction 2 0 0 0 [some (.int c), some (.int k), some (.int y), some (.int n)] [] h z _
  refine pe_iload_n d_Program_isInstruction_0 rfl ?_
  refine pe_iconst (v := nI 0) d_Program_isInstruction_1 (by decide) ?_
  refine pe_bipush (v := nI 11) d_Program_isInstruction_2 (by decide) ?_
  -- 4: K_isIn
  refine pe_callS d_Program_isInstruction_4 m_Program_26 s_K_isIn (c_K_isIn _ _ _) rfl rfl (by simp [Value.category]) (by decide) ?_
  intro v1 h1 z1 hq1
  obtain ⟨rfl, rfl, rfl⟩ := hq1
  change pz_E _ _ _ _ _ _ _ _ _ (_ :: _) _ _ _
  refine pe_if_ne (tgt := 12) d_Program_isInstruction_7 (by decide) (fun c_7 => ?_) (fun c_7 => ?_)
  · have c_7 := pb_n0.mp c_7
    refine pe_iload_n d_Program_isInstruction_12 rfl ?_
    refine pe_if_eq (tgt := 21) d_Program_isInstruction_13 (by decide) (fun c_13 => ?_) (fun c_13 => ?_)
    · refine pe_iload_n d_Program_isInstruction_21 rfl ?_
      refine pe_iconst (v := nI 0) d_Program_isInstruction_22 (by decide) ?_
      refine pe_bipush (v := nI 63) d_Program_isInstruction_23 (by decide) ?_
      -- 25: K_isIn
      refine pe_callS d_Program_isInstruction_25 m_Program_26 s_K_isIn (c_K_isIn _ _ _) rfl rfl (by simp [Value.category]) (by decide) ?_
      intro v1 h1 z1 hq1
      obtain ⟨rfl, rfl, rfl⟩ := hq1
      change pz_E _ _ _ _ _ _ _ _ _ (_ :: _) _ _ _
      refine pe_zret d_Program_isInstruction_28 rfl (pb_and _) ?_
      exact ⟨congrArg (fun b => some (Value.int (pb b))) (by simp_all [insOk]), rfl, rfl⟩
    · refine pe_iload_n d_Program_isInstruction_16 rfl ?_
      refine pe_iconst (v := nI 1) d_Program_isInstruction_17 (by decide) ?_
      refine pe_icmp_ne (tgt := 29) d_Program_isInstruction_18 (by decide) (fun c_18 => ?_) (fun c_18 => ?_)
      · refine pe_iload_n d_Program_isInstruction_29 rfl ?_
        refine pe_bipush (v := nI 6) d_Program_isInstruction_30 (by decide) ?_
        refine pe_icmp_ne (tgt := 43) d_Program_isInstruction_32 (by decide) (fun c_32 => ?_) (fun c_32 => ?_)
        · refine pe_iload_n d_Program_isInstruction_43 rfl ?_
          -- 44: Program_isTest
          refine pe_callS d_Program_isInstruction_44 m_Program_32 s_Program_isTest (c_Program_isTest _) rfl rfl (by simp [Value.category]) (by decide) ?_
          intro v1 h1 z1 hq1
          obtain ⟨rfl, rfl, rfl⟩ := hq1
          change pz_E _ _ _ _ _ _ _ _ _ (_ :: _) _ _ _
          refine pe_if_eq (tgt := 70) d_Program_isInstruction_47 (by decide) (fun c_47 => ?_) (fun c_47 => ?_)
          · have c_47 := pb_0.mp c_47
            refine pe_iconst (v := nI 1) d_Program_isInstruction_70 (by decide) ?_
            refine pe_goto (tgt := 75) d_Program_isInstruction_71 (by decide) ?_
            refine pe_zret d_Program_isInstruction_75 rfl (by decide) ?_
            exact ⟨by rw [show insOk c k y n = true from by simp_all [insOk]]; rfl, rfl, rfl⟩
          · have c_47 := pb_n0.mp c_47
            refine pe_iload_n d_Program_isInstruction_50 rfl ?_
            refine pe_iconst (v := nI 0) d_Program_isInstruction_51 (by decide) ?_
            refine pe_bipush (v := nI 15) d_Program_isInstruction_52 (by decide) ?_
            -- 54: K_isIn
            refine pe_callS d_Program_isInstruction_54 m_Program_26 s_K_isIn (c_K_isIn _ _ _) rfl rfl (by simp [Value.category]) (by decide) ?_
            intro v1 h1 z1 hq1
            obtain ⟨rfl, rfl, rfl⟩ := hq1
            change pz_E _ _ _ _ _ _ _ _ _ (_ :: _) _ _ _
            refine pe_if_eq (tgt := 74) d_Program_isInstruction_57 (by decide) (fun c_57 => ?_) (fun c_57 => ?_)
            · have c_57 := pb_0.mp c_57
              refine pe_iconst (v := nI 0) d_Program_isInstruction_74 (by decide) ?_
              refine pe_zret d_Program_isInstruction_75 rfl (by decide) ?_
              exact ⟨by rw [show insOk c k y n = false from by simp_all [insOk]]; rfl, rfl, rfl⟩
            · have c_57 := pb_n0.mp c_57
              refine pe_iload_n d_Program_isInstruction_60 rfl ?_
              refine pe_iconst (v := nI 0) d_Program_isInstruction_61 (by decide) ?_
              refine pe_bipush (v := nI 15) d_Program_isInstruction_62 (by decide) ?_
              -- 64: K_isIn
              refine pe_callS d_Program_isInstruction_64 m_Program_26 s_K_isIn (c_K_isIn _ _ _) rfl rfl (by simp [Value.category]) (by decide) ?_
              intro v1 h1 z1 hq1
              obtain ⟨rfl, rfl, rfl⟩ := hq1
              change pz_E _ _ _ _ _ _ _ _ _ (_ :: _) _ _ _
              refine pe_if_eq (tgt := 74) d_Program_isInstruction_67 (by decide) (fun c_67 => ?_) (fun c_67 => ?_)
              · have c_67 := pb_0.mp c_67
                refine pe_iconst (v := nI 0) d_Program_isInstruction_74 (by decide) ?_
                refine pe_zret d_Program_isInstruction_75 rfl (by decide) ?_
                exact ⟨by rw [show insOk c k y n = false from by simp_all [insOk]]; rfl, rfl, rfl⟩
              · have c_67 := pb_n0.mp c_67
                refine pe_iconst (v := nI 1) d_Program_isInstruction_70 (by decide) ?_
                refine pe_goto (tgt := 75) d_Program_isInstruction_71 (by decide) ?_
                refine pe_zret d_Program_isInstruction_75 rfl (by decide) ?_
                exact ⟨by rw [show insOk c k y n = true from by simp_all [insOk]]; rfl, rfl, rfl⟩
        · refine pe_iload_n d_Program_isInstruction_35 rfl ?_
          refine pe_iconst (v := nI 0) d_Program_isInstruction_36 (by decide) ?_
          refine pe_bipush (v := nI 31) d_Program_isInstruction_37 (by decide) ?_
          -- 39: K_isIn
          refine pe_callS d_Program_isInstruction_39 m_Program_26 s_K_isIn (c_K_isIn _ _ _) rfl rfl (by simp [Value.category]) (by decide) ?_
          intro v1 h1 z1 hq1
          obtain ⟨rfl, rfl, rfl⟩ := hq1
          change pz_E _ _ _ _ _ _ _ _ _ (_ :: _) _ _ _
          refine pe_zret d_Program_isInstruction_42 rfl (pb_and _) ?_
          exact ⟨congrArg (fun b => some (Value.int (pb b))) (by simp_all [insOk]), rfl, rfl⟩
      · refine pe_iload_n d_Program_isInstruction_21 rfl ?_
        refine pe_iconst (v := nI 0) d_Program_isInstruction_22 (by decide) ?_
        refine pe_bipush (v := nI 63) d_Program_isInstruction_23 (by decide) ?_
        -- 25: K_isIn
        refine pe_callS d_Program_isInstruction_25 m_Program_26 s_K_isIn (c_K_isIn _ _ _) rfl rfl (by simp [Value.category]) (by decide) ?_
        intro v1 h1 z1 hq1
        obtain ⟨rfl, rfl, rfl⟩ := hq1
        change pz_E _ _ _ _ _ _ _ _ _ (_ :: _) _ _ _
        refine pe_zret d_Program_isInstruction_28 rfl (pb_and _) ?_
        exact ⟨congrArg (fun b => some (Value.int (pb b))) (by simp_all [insOk]), rfl, rfl⟩
  · have c_7 := pb_0.mp c_7
    refine pe_iconst (v := nI 0) d_Program_isInstruction_10 (by decide) ?_
    refine pe_zret d_Program_isInstruction_11 rfl (by decide) ?_
    exact ⟨by rw [show insOk c k y n = false from by simp_all [insOk]]; rfl, rfl, rfl⟩
theorem i32_of {x : Int32} {n : Nat} (hn : n < 2147483648) (h : x.toInt = (n : Int)) : x = nI n := Int32.toInt_inj.mp (by rw [nI_toInt hn]; exact h)
def rck (c A k : Int32) : Int32 := if c = nI 4 then A + k else if c = nI 5 then A &&& k else if c = nI 6 then (A.toUInt32 >>> (k.toUInt32 &&& Int32.toUInt32 31)).toInt32 else A
theorem rck_4 {c A k : Int32} (h : c.toInt = 4) : rck c A k = A + k := by rw [i32_of (n := 4) (by decide) h]; rfl
theorem rck_5 {c A k : Int32} (h : c.toInt = 5) : rck c A k = A &&& k := by rw [i32_of (n := 5) (by decide) h]; rfl
theorem rck_6 {c A k : Int32} (h : c.toInt = 6) : rck c A k = (A.toUInt32 >>> (k.toUInt32 &&& Int32.toUInt32 31)).toInt32 := by rw [i32_of (n := 6) (by decide) h]; rfl
theorem rck_o {c A k : Int32} (h : c.toInt < 4 ∨ 6 < c.toInt) : rck c A k = A := by
  unfold rck
  have e4 : (nI 4).toInt = 4 := by decide
  have e5 : (nI 5).toInt = 5 := by decide
  have e6 : (nI 6).toInt = 6 := by decide
  rw [if_neg (fun q => by rw [q, e4] at h; omega), if_neg (fun q => by rw [q, e5] at h; omega), if_neg (fun q => by rw [q, e6] at h; omega)]
theorem hld_7 {c A k : Int32} (h : c.toInt = 7) : hld c A k = decide (A = k) := by rw [i32_of (n := 7) (by decide) h]; rfl
theorem hld_8 {c A k : Int32} (h : c.toInt = 8) : hld c A k = decide (k < A) := by rw [i32_of (n := 8) (by decide) h]; rfl
theorem hld_9 {c A k : Int32} (h : c.toInt = 9) : hld c A k = !decide (A &&& k = 0) := by rw [i32_of (n := 9) (by decide) h]; rfl
theorem hld_o {c A k : Int32} (h : c.toInt < 7 ∨ 9 < c.toInt) : hld c A k = false := by
  unfold hld
  have e4 : (nI 7).toInt = 7 := by decide
  have e5 : (nI 8).toInt = 8 := by decide
  have e6 : (nI 9).toInt = 9 := by decide
  rw [if_neg (fun q => by rw [q, e4] at h; omega), if_neg (fun q => by rw [q, e5] at h; omega), if_neg (fun q => by rw [q, e6] at h; omega)]
set_option maxHeartbeats 4000000 in
set_option maxRecDepth 20000 in
theorem c_Program_reckon {l : Launch} {L : Nat} {xs : Nat → Int32} {h : pz_H} {z : Nat} (c A k : Int32) : pz_K l L xs M_Program_reckon 0 0 0 [.int c, .int A, .int k] h z (fun v h' z' => v = some (.int (rck c A k)) ∧ h = h' ∧ z = z') := by
  refine pz_K.of rfl (Nat.le_of_ble_eq_true rfl) ?_
  change pz_E l L xs M_Program_reckon 0 0 0 0 [some (.int c), some (.int A), some (.int k)] [] h z _
  refine pe_iload_n d_Program_reckon_0 rfl ?_
  by_cases sw_1i : (c : Int32).toInt < 4 ∨ 6 < (c : Int32).toInt
  · refine pe_tableOut (tgt := 40) d_Program_reckon_1 sw_1i (by decide) ?_
    refine pe_iload_n d_Program_reckon_40 rfl ?_
    refine pe_iret d_Program_reckon_41 rfl ?_
    exact ⟨by rw [rck_o sw_1i], rfl, rfl⟩
  have sw_1r : (c : Int32).toInt = 4 ∨ (c : Int32).toInt = 5 ∨ (c : Int32).toInt = 6 := by omega
  rcases sw_1r with sw_1 | sw_1 | sw_1
  · refine pe_tableIn (tgt := 28) d_Program_reckon_1 (by omega) (by omega) (by rw [sw_1]; rfl) (by decide) ?_
    refine pe_iload_n d_Program_reckon_28 rfl ?_
    refine pe_iload_n d_Program_reckon_29 rfl ?_
    refine pe_iadd d_Program_reckon_30 ?_
    refine pe_iret d_Program_reckon_31 rfl ?_
    exact ⟨by rw [rck_4 sw_1], rfl, rfl⟩
  · refine pe_tableIn (tgt := 32) d_Program_reckon_1 (by omega) (by omega) (by rw [sw_1]; rfl) (by decide) ?_
    refine pe_iload_n d_Program_reckon_32 rfl ?_
    refine pe_iload_n d_Program_reckon_33 rfl ?_
    refine pe_iand d_Program_reckon_34 ?_
    refine pe_iret d_Program_reckon_35 rfl ?_
    exact ⟨by rw [rck_5 sw_1], rfl, rfl⟩
  · refine pe_tableIn (tgt := 36) d_Program_reckon_1 (by omega) (by omega) (by rw [sw_1]; rfl) (by decide) ?_
    refine pe_iload_n d_Program_reckon_36 rfl ?_
    refine pe_iload_n d_Program_reckon_37 rfl ?_
    refine pe_iushr d_Program_reckon_38 rfl ?_
    refine pe_iret d_Program_reckon_39 rfl ?_
    exact ⟨by rw [rck_6 sw_1], rfl, rfl⟩
set_option maxHeartbeats 4000000 in
set_option maxRecDepth 20000 in
theorem c_Program_holds {l : Launch} {L : Nat} {xs : Nat → Int32} {h : pz_H} {z : Nat} (c A k : Int32) : pz_K l L xs M_Program_holds 0 0 0 [.int c, .int A, .int k] h z (fun v h' z' => v = some (.int (pb (hld c A k))) ∧ h = h' ∧ z = z') := by
  refine pz_K.of rfl (Nat.le_of_ble_eq_true rfl) ?_
  change pz_E l L xs M_Program_holds 0 0 0 0 [some (.int c), some (.int A), some (.int k)] [] h z _
  refine pe_iload_n d_Program_holds_0 rfl ?_
  by_cases sw_1i : (c : Int32).toInt < 7 ∨ 9 < (c : Int32).toInt
  · refine pe_tableOut (tgt := 62) d_Program_holds_1 sw_1i (by decide) ?_
    refine pe_iconst (v := nI 0) d_Program_holds_62 (by decide) ?_
    refine pe_zret d_Program_holds_63 rfl (by decide) ?_
    exact ⟨by rw [hld_o sw_1i]; rfl, rfl, rfl⟩
  have sw_1r : (c : Int32).toInt = 7 ∨ (c : Int32).toInt = 8 ∨ (c : Int32).toInt = 9 := by omega
  rcases sw_1r with sw_1 | sw_1 | sw_1
  · refine pe_tableIn (tgt := 28) d_Program_holds_1 (by omega) (by omega) (by rw [sw_1]; rfl) (by decide) ?_
    refine pe_iload_n d_Program_holds_28 rfl ?_
    refine pe_iload_n d_Program_holds_29 rfl ?_
    refine pe_icmp_ne (tgt := 37) d_Program_holds_30 (by decide) (fun c_30 => ?_) (fun c_30 => ?_)
    · refine pe_iconst (v := nI 0) d_Program_holds_37 (by decide) ?_
      refine pe_zret d_Program_holds_38 rfl (by decide) ?_
      exact ⟨by rw [hld_7 sw_1]; rw [show decide (A = k) = false from by simp_all]; rfl, rfl, rfl⟩
    · refine pe_iconst (v := nI 1) d_Program_holds_33 (by decide) ?_
      refine pe_goto (tgt := 38) d_Program_holds_34 (by decide) ?_
      refine pe_zret d_Program_holds_38 rfl (by decide) ?_
      exact ⟨by rw [hld_7 sw_1]; rw [show decide (A = k) = true from by simp_all]; rfl, rfl, rfl⟩
  · refine pe_tableIn (tgt := 39) d_Program_holds_1 (by omega) (by omega) (by rw [sw_1]; rfl) (by decide) ?_
    refine pe_iload_n d_Program_holds_39 rfl ?_
    refine pe_iload_n d_Program_holds_40 rfl ?_
    refine pe_icmp_le (tgt := 48) d_Program_holds_41 (by decide) (fun c_41 => ?_) (fun c_41 => ?_)
    · refine pe_iconst (v := nI 0) d_Program_holds_48 (by decide) ?_
      refine pe_zret d_Program_holds_49 rfl (by decide) ?_
      exact ⟨by rw [hld_8 sw_1]; rw [show decide (k < A) = false from by simp_all]; rfl, rfl, rfl⟩
    · refine pe_iconst (v := nI 1) d_Program_holds_44 (by decide) ?_
      refine pe_goto (tgt := 49) d_Program_holds_45 (by decide) ?_
      refine pe_zret d_Program_holds_49 rfl (by decide) ?_
      exact ⟨by rw [hld_8 sw_1]; rw [show decide (k < A) = true from by simp_all]; rfl, rfl, rfl⟩
  · refine pe_tableIn (tgt := 50) d_Program_holds_1 (by omega) (by omega) (by rw [sw_1]; rfl) (by decide) ?_
    refine pe_iload_n d_Program_holds_50 rfl ?_
    refine pe_iload_n d_Program_holds_51 rfl ?_
    refine pe_iand d_Program_holds_52 ?_
    refine pe_if_eq (tgt := 60) d_Program_holds_53 (by decide) (fun c_53 => ?_) (fun c_53 => ?_)
    · refine pe_iconst (v := nI 0) d_Program_holds_60 (by decide) ?_
      refine pe_zret d_Program_holds_61 rfl (by decide) ?_
      exact ⟨by rw [hld_9 sw_1]; rw [show (!decide (A &&& k = 0)) = false from by simp_all]; rfl, rfl, rfl⟩
    · refine pe_iconst (v := nI 1) d_Program_holds_56 (by decide) ?_
      refine pe_goto (tgt := 61) d_Program_holds_57 (by decide) ?_
      refine pe_zret d_Program_holds_61 rfl (by decide) ?_
      exact ⟨by rw [hld_9 sw_1]; rw [show (!decide (A &&& k = 0)) = true from by simp_all]; rfl, rfl, rfl⟩
set_option maxHeartbeats 4000000 in
set_option maxRecDepth 20000 in
theorem c_Program_isFull {l : Launch} {L : Nat} {xs : Nat → Int32} {h : pz_H} {z : Nat}  {a : Nat} {gc go gy gn : Nat → Int32} {gl : Nat} (hp : PRG a h gc go gy gn gl) : pz_K l L xs M_Program_isFull 0 0 0 [.ref a] h z (fun v h' z' => v = some (.int (pb (decide (gl = 16)))) ∧ h = h' ∧ z = z') := by
  obtain ⟨hGO, hGC, hGK, hGY, hGN, hgl⟩ := id hp
  refine pz_K.of rfl (Nat.le_of_ble_eq_true rfl) ?_
  change pz_E l L xs M_Program_isFull 0 0 0 0 [some (.ref a)] [] h z _
  refine pe_aload_n d_Program_isFull_0 rfl ?_
  refine pe_getf d_Program_isFull_1 f_Program_22 hGO rfl ?_
  refine pe_bipush (v := nI 16) d_Program_isFull_4 (by decide) ?_
  refine pe_icmpN_ne (tgt := 13) d_Program_isFull_6 (by decide) (by omega) (by omega) (fun c_6 => ?_) (fun c_6 => ?_)
  · refine pe_iconst (v := nI 0) d_Program_isFull_13 (by decide) ?_
    refine pe_zret d_Program_isFull_14 rfl (by decide) ?_
    exact ⟨pb_no (fun q => by first | exact c_6 q), rfl, rfl⟩
  · refine pe_iconst (v := nI 1) d_Program_isFull_9 (by decide) ?_
    refine pe_goto (tgt := 14) d_Program_isFull_10 (by decide) ?_
    refine pe_zret d_Program_isFull_14 rfl (by decide) ?_
    exact ⟨pb_yes c_6, rfl, rfl⟩
set_option maxHeartbeats 4000000 in
set_option maxRecDepth 20000 in
theorem c_Program_clear {l : Launch} {L : Nat} {xs : Nat → Int32} {h : pz_H} {z : Nat}  {a : Nat} {gc go gy gn : Nat → Int32} {gl : Nat} (hp : PRG a h gc go gy gn gl) : pz_K l L xs M_Program_clear 0 0 0 [.ref a] h z (fun v h' z' => v = none ∧ z = z' ∧ PRG a h' gc go gy gn 0 ∧ frm a (a + 5) h h') := by
  obtain ⟨hGO, hGC, hGK, hGY, hGN, hgl⟩ := id hp
  have hf : frm a (a + 5) h h := frm.rf
  refine pz_K.of rfl (Nat.le_of_ble_eq_true rfl) ?_
  change pz_E l L xs M_Program_clear 0 0 0 0 [some (.ref a)] [] h z _
  refine pe_aload_n d_Program_clear_0 rfl ?_
  refine pe_iconst (v := nI 0) d_Program_clear_1 (by decide) ?_
  refine pe_put d_Program_clear_2 g_Program_22 hGO (Nat.le_of_ble_eq_true rfl) rfl ?_
  refine pe_pu (fun h2 e2 o2 => ?_)
  have hGO := e2
  have hGC := (o2 (a + 1) (by omega)).trans hGC
  have hGK := (o2 (a + 2) (by omega)).trans hGK
  have hGY := (o2 (a + 3) (by omega)).trans hGY
  have hGN := (o2 (a + 4) (by omega)).trans hGN
  have hf := hf.st o2 (by omega) (by omega)
  refine pe_vret d_Program_clear_5 rfl ?_
  exact ⟨rfl, rfl, ⟨hGO, hGC, hGK, hGY, hGN, by omega⟩, hf⟩
set_option maxHeartbeats 4000000 in
set_option maxRecDepth 20000 in
theorem c_Program_append_t {l : Launch} {L : Nat} {xs : Nat → Int32} {h : pz_H} {z : Nat}  {a : Nat} {gc go gy gn : Nat → Int32} {gl : Nat} (hp : PRG a h gc go gy gn gl) (c k y n : Int32) (hlt : gl < 16) (ht : tst c = true) : pz_K l L xs M_Program_append 2 0 0 [.ref a, .int c, .int k, .int y, .int n] h z (fun v h' z' => v = none ∧ z = z' ∧ PRG a h' (upd gc gl c) (upd go gl k) (upd gy gl y) (upd gn gl n) (gl + 1) ∧ frm a (a + 5) h h') := by
  obtain ⟨hGO, hGC, hGK, hGY, hGN, hgl⟩ := id hp
  have hf : frm a (a + 5) h h := frm.rf
  refine pz_K.of rfl (Nat.le_of_ble_eq_true rfl) ?_
  change pz_E l L xs M_Program_append 2 0 0 0 [some (.ref a), some (.int c), some (.int k), some (.int y), some (.int n)] [] h z _
  refine pe_aload_n d_Program_append_0 rfl ?_
  refine pe_getf d_Program_append_1 f_Program_9 hGO rfl ?_
  refine pe_aload_n d_Program_append_4 rfl ?_
  refine pe_getf d_Program_append_5 f_Program_22 hGO rfl ?_
  refine pe_iload_n d_Program_append_8 rfl ?_
  refine pe_iastN d_Program_append_9 hGC (by omega) (by omega) ?_
  refine pe_pu (fun h2 e2 o2 => ?_)
  have hGO := (o2 (a) (by omega)).trans hGO
  have hGC := e2
  have hGK := (o2 (a + 2) (by omega)).trans hGK
  have hGY := (o2 (a + 3) (by omega)).trans hGY
  have hGN := (o2 (a + 4) (by omega)).trans hGN
  have hf := hf.st o2 (by omega) (by omega)
  refine pe_aload_n d_Program_append_10 rfl ?_
  refine pe_getf d_Program_append_11 f_Program_13 hGO rfl ?_
  refine pe_aload_n d_Program_append_14 rfl ?_
  refine pe_getf d_Program_append_15 f_Program_22 hGO rfl ?_
  refine pe_iload_n d_Program_append_18 rfl ?_
  refine pe_iastN d_Program_append_19 hGK (by omega) (by omega) ?_
  refine pe_pu (fun h2 e2 o2 => ?_)
  have hGO := (o2 (a) (by omega)).trans hGO
  have hGC := (o2 (a + 1) (by omega)).trans hGC
  have hGK := e2
  have hGY := (o2 (a + 3) (by omega)).trans hGY
  have hGN := (o2 (a + 4) (by omega)).trans hGN
  have hf := hf.st o2 (by omega) (by omega)
  refine pe_aload_n d_Program_append_20 rfl ?_
  refine pe_getf d_Program_append_21 f_Program_16 hGO rfl ?_
  refine pe_aload_n d_Program_append_24 rfl ?_
  refine pe_getf d_Program_append_25 f_Program_22 hGO rfl ?_
  refine pe_iload_n d_Program_append_28 rfl ?_
  -- 29: Program_isTest
  refine pe_callS d_Program_append_29 m_Program_32 s_Program_isTest (c_Program_isTest _) rfl rfl (by simp [Value.category]) (by decide) ?_
  intro v1 h1 z1 hq1
  obtain ⟨rfl, rfl, rfl⟩ := hq1
  change pz_E _ _ _ _ _ _ _ _ _ (_ :: _) _ _ _
  refine pe_if_eq (tgt := 39) d_Program_append_32 (by decide) (fun c_32 => ?_) (fun c_32 => ?_)
  · have c_32 := pb_0.mp c_32
    exact absurd (c_32.symm.trans ht) (by decide)
  · have c_32 := pb_n0.mp c_32
    refine pe_iload_n d_Program_append_35 rfl ?_
    refine pe_goto (tgt := 40) d_Program_append_36 (by decide) ?_
    refine pe_iastN d_Program_append_40 hGY (by omega) (by omega) ?_
    refine pe_pu (fun h2 e2 o2 => ?_)
    have hGO := (o2 (a) (by omega)).trans hGO
    have hGC := (o2 (a + 1) (by omega)).trans hGC
    have hGK := (o2 (a + 2) (by omega)).trans hGK
    have hGY := e2
    have hGN := (o2 (a + 4) (by omega)).trans hGN
    have hf := hf.st o2 (by omega) (by omega)
    refine pe_aload_n d_Program_append_41 rfl ?_
    refine pe_getf d_Program_append_42 f_Program_19 hGO rfl ?_
    refine pe_aload_n d_Program_append_45 rfl ?_
    refine pe_getf d_Program_append_46 f_Program_22 hGO rfl ?_
    refine pe_iload_n d_Program_append_49 rfl ?_
    -- 50: Program_isTest
    refine pe_callS d_Program_append_50 m_Program_32 s_Program_isTest (c_Program_isTest _) rfl rfl (by simp [Value.category]) (by decide) ?_
    intro v1 h1 z1 hq1
    obtain ⟨rfl, rfl, rfl⟩ := hq1
    change pz_E _ _ _ _ _ _ _ _ _ (_ :: _) _ _ _
    refine pe_if_eq (tgt := 61) d_Program_append_53 (by decide) (fun c_53 => ?_) (fun c_53 => ?_)
    · have c_53 := pb_0.mp c_53
      exact absurd (c_53.symm.trans ht) (by decide)
    · have c_53 := pb_n0.mp c_53
      refine pe_iload d_Program_append_56 rfl ?_
      refine pe_goto (tgt := 62) d_Program_append_58 (by decide) ?_
      refine pe_iastN d_Program_append_62 hGN (by omega) (by omega) ?_
      refine pe_pu (fun h2 e2 o2 => ?_)
      have hGO := (o2 (a) (by omega)).trans hGO
      have hGC := (o2 (a + 1) (by omega)).trans hGC
      have hGK := (o2 (a + 2) (by omega)).trans hGK
      have hGY := (o2 (a + 3) (by omega)).trans hGY
      have hGN := e2
      have hf := hf.st o2 (by omega) (by omega)
      refine pe_aload_n d_Program_append_63 rfl ?_
      refine pe_dup d_Program_append_64 rfl ?_
      refine pe_getf d_Program_append_65 f_Program_22 hGO rfl ?_
      refine pe_iconst (v := nI 1) d_Program_append_68 (by decide) ?_
      refine pe_iaddN d_Program_append_69 ?_
      refine pe_put d_Program_append_70 g_Program_22 hGO (Nat.le_of_ble_eq_true rfl) rfl ?_
      refine pe_pu (fun h2 e2 o2 => ?_)
      have hGO := e2
      have hGC := (o2 (a + 1) (by omega)).trans hGC
      have hGK := (o2 (a + 2) (by omega)).trans hGK
      have hGY := (o2 (a + 3) (by omega)).trans hGY
      have hGN := (o2 (a + 4) (by omega)).trans hGN
      have hf := hf.st o2 (by omega) (by omega)
      refine pe_vret d_Program_append_73 rfl ?_
      exact ⟨rfl, rfl, ⟨hGO, hGC, hGK, hGY, hGN, by omega⟩, hf⟩
set_option maxHeartbeats 4000000 in
set_option maxRecDepth 20000 in
theorem c_Program_append_f {l : Launch} {L : Nat} {xs : Nat → Int32} {h : pz_H} {z : Nat}  {a : Nat} {gc go gy gn : Nat → Int32} {gl : Nat} (hp : PRG a h gc go gy gn gl) (c k y n : Int32) (hlt : gl < 16) (ht : tst c = false) : pz_K l L xs M_Program_append 2 0 0 [.ref a, .int c, .int k, .int y, .int n] h z (fun v h' z' => v = none ∧ z = z' ∧ PRG a h' (upd gc gl c) (upd go gl k) (upd gy gl (nI 0)) (upd gn gl (nI 0)) (gl + 1) ∧ frm a (a + 5) h h') := by
  obtain ⟨hGO, hGC, hGK, hGY, hGN, hgl⟩ := id hp
  have hf : frm a (a + 5) h h := frm.rf
  refine pz_K.of rfl (Nat.le_of_ble_eq_true rfl) ?_
  change pz_E l L xs M_Program_append 2 0 0 0 [some (.ref a), some (.int c), some (.int k), some (.int y), some (.int n)] [] h z _
  refine pe_aload_n d_Program_append_0 rfl ?_
  refine pe_getf d_Program_append_1 f_Program_9 hGO rfl ?_
  refine pe_aload_n d_Program_append_4 rfl ?_
  refine pe_getf d_Program_append_5 f_Program_22 hGO rfl ?_
  refine pe_iload_n d_Program_append_8 rfl ?_
  refine pe_iastN d_Program_append_9 hGC (by omega) (by omega) ?_
  refine pe_pu (fun h2 e2 o2 => ?_)
  have hGO := (o2 (a) (by omega)).trans hGO
  have hGC := e2
  have hGK := (o2 (a + 2) (by omega)).trans hGK
  have hGY := (o2 (a + 3) (by omega)).trans hGY
  have hGN := (o2 (a + 4) (by omega)).trans hGN
  have hf := hf.st o2 (by omega) (by omega)
  refine pe_aload_n d_Program_append_10 rfl ?_
  refine pe_getf d_Program_append_11 f_Program_13 hGO rfl ?_
  refine pe_aload_n d_Program_append_14 rfl ?_
  refine pe_getf d_Program_append_15 f_Program_22 hGO rfl ?_
  refine pe_iload_n d_Program_append_18 rfl ?_
  refine pe_iastN d_Program_append_19 hGK (by omega) (by omega) ?_
  refine pe_pu (fun h2 e2 o2 => ?_)
  have hGO := (o2 (a) (by omega)).trans hGO
  have hGC := (o2 (a + 1) (by omega)).trans hGC
  have hGK := e2
  have hGY := (o2 (a + 3) (by omega)).trans hGY
  have hGN := (o2 (a + 4) (by omega)).trans hGN
  have hf := hf.st o2 (by omega) (by omega)
  refine pe_aload_n d_Program_append_20 rfl ?_
  refine pe_getf d_Program_append_21 f_Program_16 hGO rfl ?_
  refine pe_aload_n d_Program_append_24 rfl ?_
  refine pe_getf d_Program_append_25 f_Program_22 hGO rfl ?_
  refine pe_iload_n d_Program_append_28 rfl ?_
  -- 29: Program_isTest
  refine pe_callS d_Program_append_29 m_Program_32 s_Program_isTest (c_Program_isTest _) rfl rfl (by simp [Value.category]) (by decide) ?_
  intro v1 h1 z1 hq1
  obtain ⟨rfl, rfl, rfl⟩ := hq1
  change pz_E _ _ _ _ _ _ _ _ _ (_ :: _) _ _ _
  refine pe_if_eq (tgt := 39) d_Program_append_32 (by decide) (fun c_32 => ?_) (fun c_32 => ?_)
  · have c_32 := pb_0.mp c_32
    refine pe_iconst (v := nI 0) d_Program_append_39 (by decide) ?_
    refine pe_iastN d_Program_append_40 hGY (by omega) (by omega) ?_
    refine pe_pu (fun h2 e2 o2 => ?_)
    have hGO := (o2 (a) (by omega)).trans hGO
    have hGC := (o2 (a + 1) (by omega)).trans hGC
    have hGK := (o2 (a + 2) (by omega)).trans hGK
    have hGY := e2
    have hGN := (o2 (a + 4) (by omega)).trans hGN
    have hf := hf.st o2 (by omega) (by omega)
    refine pe_aload_n d_Program_append_41 rfl ?_
    refine pe_getf d_Program_append_42 f_Program_19 hGO rfl ?_
    refine pe_aload_n d_Program_append_45 rfl ?_
    refine pe_getf d_Program_append_46 f_Program_22 hGO rfl ?_
    refine pe_iload_n d_Program_append_49 rfl ?_
    -- 50: Program_isTest
    refine pe_callS d_Program_append_50 m_Program_32 s_Program_isTest (c_Program_isTest _) rfl rfl (by simp [Value.category]) (by decide) ?_
    intro v1 h1 z1 hq1
    obtain ⟨rfl, rfl, rfl⟩ := hq1
    change pz_E _ _ _ _ _ _ _ _ _ (_ :: _) _ _ _
    refine pe_if_eq (tgt := 61) d_Program_append_53 (by decide) (fun c_53 => ?_) (fun c_53 => ?_)
    · have c_53 := pb_0.mp c_53
      refine pe_iconst (v := nI 0) d_Program_append_61 (by decide) ?_
      refine pe_iastN d_Program_append_62 hGN (by omega) (by omega) ?_
      refine pe_pu (fun h2 e2 o2 => ?_)
      have hGO := (o2 (a) (by omega)).trans hGO
      have hGC := (o2 (a + 1) (by omega)).trans hGC
      have hGK := (o2 (a + 2) (by omega)).trans hGK
      have hGY := (o2 (a + 3) (by omega)).trans hGY
      have hGN := e2
      have hf := hf.st o2 (by omega) (by omega)
      refine pe_aload_n d_Program_append_63 rfl ?_
      refine pe_dup d_Program_append_64 rfl ?_
      refine pe_getf d_Program_append_65 f_Program_22 hGO rfl ?_
      refine pe_iconst (v := nI 1) d_Program_append_68 (by decide) ?_
      refine pe_iaddN d_Program_append_69 ?_
      refine pe_put d_Program_append_70 g_Program_22 hGO (Nat.le_of_ble_eq_true rfl) rfl ?_
      refine pe_pu (fun h2 e2 o2 => ?_)
      have hGO := e2
      have hGC := (o2 (a + 1) (by omega)).trans hGC
      have hGK := (o2 (a + 2) (by omega)).trans hGK
      have hGY := (o2 (a + 3) (by omega)).trans hGY
      have hGN := (o2 (a + 4) (by omega)).trans hGN
      have hf := hf.st o2 (by omega) (by omega)
      refine pe_vret d_Program_append_73 rfl ?_
      exact ⟨rfl, rfl, ⟨hGO, hGC, hGK, hGY, hGN, by omega⟩, hf⟩
    · have c_53 := pb_n0.mp c_53
      exact absurd (c_53.symm.trans ht) (by decide)
  · have c_32 := pb_n0.mp c_32
    exact absurd (c_32.symm.trans ht) (by decide)
/-- an instruction that one of its followers isn't there for -/
def bad (gc : Nat → Int32) (yy nn : Nat → Nat) (gl j : Nat) : Bool := !decide (nI 9 < gc j) && !decide (j + 1 + (if yy j < nn j then nn j else yy j) < gl)
set_option maxHeartbeats 4000000 in
set_option maxRecDepth 20000 in
theorem c_Program_isSound {l : Launch} {L : Nat} {xs : Nat → Int32} {h : pz_H} {z : Nat}  {a : Nat} {gc go gy gn : Nat → Int32} {gl : Nat} (hp : PRG a h gc go gy gn gl) {yy nn : Nat → Nat} (hyy : ∀ j, j < gl → gy j = nI (yy j) ∧ yy j ≤ 15) (hnn : ∀ j, j < gl → gn j = nI (nn j) ∧ nn j ≤ 15) : pz_K l L xs M_Program_isSound 1 0 0 [.ref a] h z (fun v h' z' => v = some (.int (pb (decide (¬ ff (bad gc yy nn gl) (gl - 0) 0 < gl)))) ∧ h = h' ∧ z = z') := by
  obtain ⟨hGO, hGC, hGK, hGY, hGN, hgl⟩ := id hp
  refine pz_K.of rfl (Nat.le_of_ble_eq_true rfl) ?_
  have loop : ∀ (n : Nat) (i : Nat), i ≤ gl → gl + 1 ≤ i + n → pz_E l L xs M_Program_isSound 1 0 0 2 [some (.ref a), some (.int (nI i)), none] [] h z (fun v h' z' => v = some (.int (pb (decide (¬ ff (bad gc yy nn gl) (gl - i) i < gl)))) ∧ h = h' ∧ z = z') := by
    intro n
    induction n with
    | zero => intros; omega
    | succ n ih =>
      intro i hi hin
      refine pe_iload_n d_Program_isSound_2 rfl ?_
      refine pe_aload_n d_Program_isSound_3 rfl ?_
      refine pe_getf d_Program_isSound_4 f_Program_22 hGO rfl ?_
      refine pe_icmpN_ge (tgt := 57) d_Program_isSound_7 (by decide) (by omega) (by omega) (fun c_7 => ?_) (fun c_7 => ?_)
      · refine pe_iconst (v := nI 1) d_Program_isSound_57 (by decide) ?_
        refine pe_zret d_Program_isSound_58 rfl (by decide) ?_
        exact ⟨pb_yes (by rw [ff_end (P := (bad gc yy nn gl)) (by omega)]; omega), rfl, rfl⟩
      · have c_7 : i < gl := by omega
        have hy1 := hyy i c_7
        have hn1 := hnn i c_7
        refine pe_iload_n d_Program_isSound_10 rfl ?_
        refine pe_iconst (v := nI 1) d_Program_isSound_11 (by decide) ?_
        refine pe_iaddN d_Program_isSound_12 ?_
        refine pe_aload_n d_Program_isSound_13 rfl ?_
        refine pe_getf d_Program_isSound_14 f_Program_16 hGO rfl ?_
        refine pe_iload_n d_Program_isSound_17 rfl ?_
        refine pe_ialdN d_Program_isSound_18 hGY (by omega) (by omega) ?_
        refine pe_aload_n d_Program_isSound_19 rfl ?_
        refine pe_getf d_Program_isSound_20 f_Program_19 hGO rfl ?_
        refine pe_iload_n d_Program_isSound_23 rfl ?_
        refine pe_ialdN d_Program_isSound_24 hGN (by omega) (by omega) ?_
        rw [hy1.1, hn1.1]
        -- 25: Math_max
        refine pe_callS d_Program_isSound_25 m_Program_36 s_Math_max (c_Math_max _ _) rfl rfl (by simp [Value.category]) (by decide) ?_
        intro v1 h1 z1 hq1
        obtain ⟨rfl, rfl, rfl⟩ := hq1
        rw [imax_N (by omega) (by omega)]
        change pz_E _ _ _ _ _ _ _ _ _ (_ :: _) _ _ _
        refine pe_iaddN d_Program_isSound_28 ?_
        refine pe_istore_n d_Program_isSound_29 (by decide) rfl ?_
        dsimp only [List.set]
        refine pe_aload_n d_Program_isSound_30 rfl ?_
        refine pe_getf d_Program_isSound_31 f_Program_9 hGO rfl ?_
        refine pe_iload_n d_Program_isSound_34 rfl ?_
        refine pe_ialdN d_Program_isSound_35 hGC (by omega) (by omega) ?_
        refine pe_bipush (v := nI 9) d_Program_isSound_36 (by decide) ?_
        refine pe_icmp_gt (tgt := 51) d_Program_isSound_38 (by decide) (fun c_38 => ?_) (fun c_38 => ?_)
        · refine pe_iincN d_Program_isSound_51 rfl (by decide) rfl ?_
          dsimp only [List.set]
          refine pe_goto (tgt := 2) d_Program_isSound_54 (by decide) ?_
          have e := ih (i + 1) (by omega) (by omega)
          rw [← ff_no (P := (bad gc yy nn gl)) c_7 (by first | (simp [bad, c_38]; done) | (simp [bad, c_46]; done))] at e
          exact pe_ls (ls' := [some (.ref a), some (.int (nI (i + 1))), none]) (fun j v hj => by match j, hj with | 0, hj => exact hj | 1, hj => exact hj | 2, hj => cases hj | j + 3, hj => cases hj) e
        · refine pe_iload_n d_Program_isSound_41 rfl ?_
          refine pe_aload_n d_Program_isSound_42 rfl ?_
          refine pe_getf d_Program_isSound_43 f_Program_22 hGO rfl ?_
          have hmx : (if yy i < nn i then nn i else yy i) ≤ 15 := by split <;> omega
          refine pe_icmpN_lt (tgt := 51) d_Program_isSound_46 (by decide) (by omega) (by omega) (fun c_46 => ?_) (fun c_46 => ?_)
          · refine pe_iincN d_Program_isSound_51 rfl (by decide) rfl ?_
            dsimp only [List.set]
            refine pe_goto (tgt := 2) d_Program_isSound_54 (by decide) ?_
            have e := ih (i + 1) (by omega) (by omega)
            rw [← ff_no (P := (bad gc yy nn gl)) c_7 (by first | (simp [bad, c_38]; done) | (simp [bad, c_46]; done))] at e
            exact pe_ls (ls' := [some (.ref a), some (.int (nI (i + 1))), none]) (fun j v hj => by match j, hj with | 0, hj => exact hj | 1, hj => exact hj | 2, hj => cases hj | j + 3, hj => cases hj) e
          · refine pe_iconst (v := nI 0) d_Program_isSound_49 (by decide) ?_
            refine pe_zret d_Program_isSound_50 rfl (by decide) ?_
            exact ⟨pb_no (by rw [ff_yes (P := (bad gc yy nn gl)) c_7 (by simp [bad, c_38, c_46])]; simpa using c_7), rfl, rfl⟩
  change pz_E l L xs M_Program_isSound 1 0 0 0 [some (.ref a), none, none] [] h z _
  refine pe_iconst (v := nI 0) d_Program_isSound_0 (by decide) ?_
  refine pe_istore_n d_Program_isSound_1 (by decide) rfl ?_
  dsimp only [List.set]
  exact loop (gl + 1) 0 (by omega) (by omega)
