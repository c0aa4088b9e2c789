/-! small ones: Math, ranges, FilterOrder, Frame, PageList -/
/-- x lies in a .. b -/
def rng (x a b : Int32) : Bool := decide (¬ x < a ∧ ¬ b < x)
def tst (c : Int32) : Bool := rng c (nI 7) (nI 9)
def imin (x y : Int32) : Int32 := if y < x then y else x
def imax (x y : Int32) : Int32 := if x < y then y else x
theorem imin_N {a b : Nat} (ha : a < 2147483648) (hb : b < 2147483648) : imin (nI a) (nI b) = nI (if b < a then b else a) := by
  unfold imin
  by_cases c : b < a
  · rw [if_pos c, if_pos ((nI_ltI hb ha).mpr c)]
  · rw [if_neg c, if_neg (fun q => c ((nI_ltI hb ha).mp q))]
theorem imax_N {a b : Nat} (ha : a < 2147483648) (hb : b < 2147483648) : imax (nI a) (nI b) = nI (if a < b then b else a) := by
  unfold imax
  by_cases c : a < b
  · rw [if_pos c, if_pos ((nI_ltI ha hb).mpr c)]
  · rw [if_neg c, if_neg (fun q => c ((nI_ltI ha hb).mp q))]
def fdv (x y : Int32) : Int32 := if ¬ (0 ≤ x ^^^ y) ∧ ¬ (x / y * y = x) then x / y - nI 1 else x / y
def fmd (x y : Int32) : Int32 := if ¬ (0 ≤ x ^^^ y) ∧ ¬ (x - x / y * y = 0) then x - x / y * y + y else x - x / y * y
set_option maxHeartbeats 4000000 in
set_option maxRecDepth 20000 in
theorem c_Math_min {l : Launch} {L : Nat} {xs : Nat → Int32} {h : pz_H} {z : Nat} (x y : Int32) : pz_K l L xs M_Math_min 0 0 0 [.int x, .int y] h z (fun v h' z' => v = some (.int (imin x y)) ∧ h = h' ∧ z = z') := by
  refine pz_K.ofF (by decide +kernel) (Nat.le_of_ble_eq_true rfl) ?_
  change pz_E l L xs M_Math_min 0 0 0 0 [some (.int x), some (.int y)] [] h z _
  refine pe_iload_n d_Math_min_0 rfl ?_
  refine pe_iload_n d_Math_min_1 rfl ?_
  refine pe_icmp_gt (tgt := 9) d_Math_min_2 (by decide) (fun c_2 => ?_) (fun c_2 => ?_)
  · refine pe_iload_n d_Math_min_9 rfl ?_
    refine pe_iret d_Math_min_10 rfl ?_
    exact ⟨by unfold imin; first | rw [if_pos c_2] | rw [if_neg c_2], rfl, rfl⟩
  · refine pe_iload_n d_Math_min_5 rfl ?_
    refine pe_goto (tgt := 10) d_Math_min_6 (by decide) ?_
    refine pe_iret d_Math_min_10 rfl ?_
    exact ⟨by unfold imin; first | rw [if_pos c_2] | rw [if_neg c_2], rfl, rfl⟩
set_option maxHeartbeats 4000000 in
set_option maxRecDepth 20000 in
theorem c_Math_max {l : Launch} {L : Nat} {xs : Nat → Int32} {h : pz_H} {z : Nat} (x y : Int32) : pz_K l L xs M_Math_max 0 0 0 [.int x, .int y] h z (fun v h' z' => v = some (.int (imax x y)) ∧ h = h' ∧ z = z') := by
  refine pz_K.ofF (by decide +kernel) (Nat.le_of_ble_eq_true rfl) ?_
  change pz_E l L xs M_Math_max 0 0 0 0 [some (.int x), some (.int y)] [] h z _
  refine pe_iload_n d_Math_max_0 rfl ?_
  refine pe_iload_n d_Math_max_1 rfl ?_
  refine pe_icmp_lt (tgt := 9) d_Math_max_2 (by decide) (fun c_2 => ?_) (fun c_2 => ?_)
  · refine pe_iload_n d_Math_max_9 rfl ?_
    refine pe_iret d_Math_max_10 rfl ?_
    exact ⟨by unfold imax; first | rw [if_pos c_2] | rw [if_neg c_2], rfl, rfl⟩
  · refine pe_iload_n d_Math_max_5 rfl ?_
    refine pe_goto (tgt := 10) d_Math_max_6 (by decide) ?_
    refine pe_iret d_Math_max_10 rfl ?_
    exact ⟨by unfold imax; first | rw [if_pos c_2] | rw [if_neg c_2], rfl, rfl⟩
set_option maxHeartbeats 4000000 in
set_option maxRecDepth 20000 in
theorem c_Math_floorDiv {l : Launch} {L : Nat} {xs : Nat → Int32} {h : pz_H} {z : Nat} (x y : Int32) (hy : ¬ y = 0) : pz_K l L xs M_Math_floorDiv 0 0 0 [.int x, .int y] h z (fun v h' z' => v = some (.int (fdv x y)) ∧ h = h' ∧ z = z') := by
  refine pz_K.ofF (by decide +kernel) (Nat.le_of_ble_eq_true rfl) ?_
  change pz_E l L xs M_Math_floorDiv 0 0 0 0 [some (.int x), some (.int y), none] [] h z _
  refine pe_iload_n d_Math_floorDiv_0 rfl ?_
  refine pe_iload_n d_Math_floorDiv_1 rfl ?_
  refine pe_idiv d_Math_floorDiv_2 hy ?_
  refine pe_istore_n d_Math_floorDiv_3 (by decide) rfl ?_
  dsimp only [List.set]
  refine pe_iload_n d_Math_floorDiv_4 rfl ?_
  refine pe_iload_n d_Math_floorDiv_5 rfl ?_
  refine pe_ixor d_Math_floorDiv_6 ?_
  refine pe_if_ge (tgt := 21) d_Math_floorDiv_7 (by decide) (fun c_7 => ?_) (fun c_7 => ?_)
  · refine pe_iload_n d_Math_floorDiv_21 rfl ?_
    refine pe_iret d_Math_floorDiv_22 rfl ?_
    exact ⟨by unfold fdv; exact congrArg (fun t => some (Value.int t)) (by first | exact (if_neg (fun q => by first | exact q.1 c_7 | exact q.2 c_14)).symm), rfl, rfl⟩
  · refine pe_iload_n d_Math_floorDiv_10 rfl ?_
    refine pe_iload_n d_Math_floorDiv_11 rfl ?_
    refine pe_imul d_Math_floorDiv_12 ?_
    refine pe_iload_n d_Math_floorDiv_13 rfl ?_
    refine pe_icmp_eq (tgt := 21) d_Math_floorDiv_14 (by decide) (fun c_14 => ?_) (fun c_14 => ?_)
    · refine pe_iload_n d_Math_floorDiv_21 rfl ?_
      refine pe_iret d_Math_floorDiv_22 rfl ?_
      exact ⟨by unfold fdv; exact congrArg (fun t => some (Value.int t)) (by first | exact (if_neg (fun q => by first | exact q.1 c_7 | exact q.2 c_14)).symm), rfl, rfl⟩
    · refine pe_iload_n d_Math_floorDiv_17 rfl ?_
      refine pe_iconst (v := nI 1) d_Math_floorDiv_18 (by decide) ?_
      refine pe_isub d_Math_floorDiv_19 ?_
      refine pe_iret d_Math_floorDiv_20 rfl ?_
      exact ⟨by unfold fdv; exact congrArg (fun t => some (Value.int t)) (by first | exact (if_pos ⟨c_7, c_14⟩).symm), rfl, rfl⟩
set_option maxHeartbeats 4000000 in
set_option maxRecDepth 20000 in
theorem c_Math_floorMod {l : Launch} {L : Nat} {xs : Nat → Int32} {h : pz_H} {z : Nat} (x y : Int32) (hy : ¬ y = 0) : pz_K l L xs M_Math_floorMod 0 0 0 [.int x, .int y] h z (fun v h' z' => v = some (.int (fmd x y)) ∧ h = h' ∧ z = z') := by
  refine pz_K.ofF (by decide +kernel) (Nat.le_of_ble_eq_true rfl) ?_
  change pz_E l L xs M_Math_floorMod 0 0 0 0 [some (.int x), some (.int y), none] [] h z _
  refine pe_iload_n d_Math_floorMod_0 rfl ?_
  refine pe_iload_n d_Math_floorMod_1 rfl ?_
  refine pe_irem d_Math_floorMod_2 hy ?_
  refine pe_istore_n d_Math_floorMod_3 (by decide) rfl ?_
  dsimp only [List.set]
  refine pe_iload_n d_Math_floorMod_4 rfl ?_
  refine pe_iload_n d_Math_floorMod_5 rfl ?_
  refine pe_ixor d_Math_floorMod_6 ?_
  refine pe_if_ge (tgt := 18) d_Math_floorMod_7 (by decide) (fun c_7 => ?_) (fun c_7 => ?_)
  · refine pe_iload_n d_Math_floorMod_18 rfl ?_
    refine pe_iret d_Math_floorMod_19 rfl ?_
    exact ⟨by unfold fmd; exact congrArg (fun t => some (Value.int t)) (by first | exact (if_neg (fun q => by first | exact q.1 c_7 | exact q.2 c_11)).symm), rfl, rfl⟩
  · refine pe_iload_n d_Math_floorMod_10 rfl ?_
    refine pe_if_eq (tgt := 18) d_Math_floorMod_11 (by decide) (fun c_11 => ?_) (fun c_11 => ?_)
    · refine pe_iload_n d_Math_floorMod_18 rfl ?_
      refine pe_iret d_Math_floorMod_19 rfl ?_
      exact ⟨by unfold fmd; exact congrArg (fun t => some (Value.int t)) (by first | exact (if_neg (fun q => by first | exact q.1 c_7 | exact q.2 c_11)).symm), rfl, rfl⟩
    · refine pe_iload_n d_Math_floorMod_14 rfl ?_
      refine pe_iload_n d_Math_floorMod_15 rfl ?_
      refine pe_iadd d_Math_floorMod_16 ?_
      refine pe_iret d_Math_floorMod_17 rfl ?_
      exact ⟨by unfold fmd; exact congrArg (fun t => some (Value.int t)) (by first | exact (if_pos ⟨c_7, c_11⟩).symm), rfl, rfl⟩
set_option maxHeartbeats 4000000 in
set_option maxRecDepth 20000 in
theorem c_K_isIn {l : Launch} {L : Nat} {xs : Nat → Int32} {h : pz_H} {z : Nat} (x a b : Int32) : pz_K l L xs M_K_isIn 0 0 0 [.int x, .int a, .int b] h z (fun v h' z' => v = some (.int (pb (rng x a b))) ∧ h = h' ∧ z = z') := by
  refine pz_K.of rfl (Nat.le_of_ble_eq_true rfl) ?_
  change pz_E l L xs M_K_isIn 0 0 0 0 [some (.int x), some (.int a), some (.int b)] [] h z _
  refine pe_iload_n d_K_isIn_0 rfl ?_
  refine pe_iload_n d_K_isIn_1 rfl ?_
  refine pe_icmp_lt (tgt := 14) d_K_isIn_2 (by decide) (fun c_2 => ?_) (fun c_2 => ?_)
  · refine pe_iconst (v := nI 0) d_K_isIn_14 (by decide) ?_
    refine pe_zret d_K_isIn_15 rfl (by decide) ?_
    exact ⟨pb_no (fun q => by first | exact q.1 c_2 | exact q.2 c_7), rfl, rfl⟩
  · refine pe_iload_n d_K_isIn_5 rfl ?_
    refine pe_iload_n d_K_isIn_6 rfl ?_
    refine pe_icmp_gt (tgt := 14) d_K_isIn_7 (by decide) (fun c_7 => ?_) (fun c_7 => ?_)
    · refine pe_iconst (v := nI 0) d_K_isIn_14 (by decide) ?_
      refine pe_zret d_K_isIn_15 rfl (by decide) ?_
      exact ⟨pb_no (fun q => by first | exact q.1 c_2 | exact q.2 c_7), rfl, rfl⟩
    · refine pe_iconst (v := nI 1) d_K_isIn_10 (by decide) ?_
      refine pe_goto (tgt := 15) d_K_isIn_11 (by decide) ?_
      refine pe_zret d_K_isIn_15 rfl (by decide) ?_
      exact ⟨pb_yes ⟨c_2, c_7⟩, rfl, rfl⟩
set_option maxHeartbeats 4000000 in
set_option maxRecDepth 20000 in
theorem c_K_isApp {l : Launch} {L : Nat} {xs : Nat → Int32} {h : pz_H} {z : Nat} (x : Int32) : pz_K l L xs M_K_isApp 1 0 0 [.int x] h z (fun v h' z' => v = some (.int (pb (rng x (nI 0) (nI 5)))) ∧ h = h' ∧ z = z') := by
  refine pz_K.of rfl (Nat.le_of_ble_eq_true rfl) ?_
  change pz_E l L xs M_K_isApp 1 0 0 0 [some (.int x)] [] h z _
  refine pe_iload_n d_K_isApp_0 rfl ?_
  refine pe_iconst (v := nI 0) d_K_isApp_1 (by decide) ?_
  refine pe_iconst (v := nI 5) d_K_isApp_2 (by decide) ?_
  -- 3: K_isIn
  refine pe_callS d_K_isApp_3 m_K_108 s_K_isIn (c_K_isIn _ _ _) rfl rfl (by simp [Value.category]) (by decide) ?_
  intro v1 h1 z1 hq1
  obtain ⟨rfl, rfl, rfl⟩ := hq1
  change pz_E _ _ _ _ _ _ _ _ _ (_ :: _) _ _ _
  refine pe_zret d_K_isApp_6 rfl (pb_and _) ?_
  exact ⟨rfl, rfl, rfl⟩
set_option maxHeartbeats 4000000 in
set_option maxRecDepth 20000 in
theorem c_K_isLayout {l : Launch} {L : Nat} {xs : Nat → Int32} {h : pz_H} {z : Nat} (x y : Int32) : pz_K l L xs M_K_isLayout 1 0 0 [.int x, .int y] h z (fun v h' z' => v = some (.int (pb (rng x (nI 0) (nI 7) && rng y (nI 0) (nI 8 - x)))) ∧ h = h' ∧ z = z') := by
  refine pz_K.of rfl (Nat.le_of_ble_eq_true rfl) ?_
  change pz_E l L xs M_K_isLayout 1 0 0 0 [some (.int x), some (.int y)] [] h z _
  refine pe_iload_n d_K_isLayout_0 rfl ?_
  refine pe_iconst (v := nI 0) d_K_isLayout_1 (by decide) ?_
  refine pe_bipush (v := nI 7) d_K_isLayout_2 (by decide) ?_
  -- 4: K_isIn
  refine pe_callS d_K_isLayout_4 m_K_108 s_K_isIn (c_K_isIn _ _ _) rfl rfl (by simp [Value.category]) (by decide) ?_
  intro v1 h1 z1 hq1
  obtain ⟨rfl, rfl, rfl⟩ := hq1
  change pz_E _ _ _ _ _ _ _ _ _ (_ :: _) _ _ _
  refine pe_if_eq (tgt := 26) d_K_isLayout_7 (by decide) (fun c_7 => ?_) (fun c_7 => ?_)
  · have c_7 := pb_0.mp c_7
    refine pe_iconst (v := nI 0) d_K_isLayout_26 (by decide) ?_
    refine pe_zret d_K_isLayout_27 rfl (by decide) ?_
    exact ⟨by first | (rw [c_7]; rfl) | (rw [c_19, Bool.and_false]; rfl), rfl, rfl⟩
  · have c_7 := pb_n0.mp c_7
    refine pe_iload_n d_K_isLayout_10 rfl ?_
    refine pe_iconst (v := nI 0) d_K_isLayout_11 (by decide) ?_
    refine pe_bipush (v := nI 8) d_K_isLayout_12 (by decide) ?_
    refine pe_iload_n d_K_isLayout_14 rfl ?_
    refine pe_isub d_K_isLayout_15 ?_
    -- 16: K_isIn
    refine pe_callS d_K_isLayout_16 m_K_108 s_K_isIn (c_K_isIn _ _ _) rfl rfl (by simp [Value.category]) (by decide) ?_
    intro v1 h1 z1 hq1
    obtain ⟨rfl, rfl, rfl⟩ := hq1
    change pz_E _ _ _ _ _ _ _ _ _ (_ :: _) _ _ _
    refine pe_if_eq (tgt := 26) d_K_isLayout_19 (by decide) (fun c_19 => ?_) (fun c_19 => ?_)
    · have c_19 := pb_0.mp c_19
      refine pe_iconst (v := nI 0) d_K_isLayout_26 (by decide) ?_
      refine pe_zret d_K_isLayout_27 rfl (by decide) ?_
      exact ⟨by first | (rw [c_7]; rfl) | (rw [c_19, Bool.and_false]; rfl), rfl, rfl⟩
    · have c_19 := pb_n0.mp c_19
      refine pe_iconst (v := nI 1) d_K_isLayout_22 (by decide) ?_
      refine pe_goto (tgt := 27) d_K_isLayout_23 (by decide) ?_
      refine pe_zret d_K_isLayout_27 rfl (by decide) ?_
      exact ⟨by rw [c_7, c_19]; rfl, rfl, rfl⟩
set_option maxHeartbeats 4000000 in
set_option maxRecDepth 20000 in
theorem c_Program_isTest {l : Launch} {L : Nat} {xs : Nat → Int32} {h : pz_H} {z : Nat} (x : Int32) : pz_K l L xs M_Program_isTest 1 0 0 [.int x] h z (fun v h' z' => v = some (.int (pb (tst x))) ∧ h = h' ∧ z = z') := by
  refine pz_K.of rfl (Nat.le_of_ble_eq_true rfl) ?_
  change pz_E l L xs M_Program_isTest 1 0 0 0 [some (.int x)] [] h z _
  refine pe_iload_n d_Program_isTest_0 rfl ?_
  refine pe_bipush (v := nI 7) d_Program_isTest_1 (by decide) ?_
  refine pe_bipush (v := nI 9) d_Program_isTest_3 (by decide) ?_
  -- 5: K_isIn
  refine pe_callS d_Program_isTest_5 m_Program_26 s_K_isIn (c_K_isIn _ _ _) rfl rfl (by simp [Value.category]) (by decide) ?_
  intro v1 h1 z1 hq1
  obtain ⟨rfl, rfl, rfl⟩ := hq1
  change pz_E _ _ _ _ _ _ _ _ _ (_ :: _) _ _ _
  refine pe_zret d_Program_isTest_8 rfl (pb_and _) ?_
  exact ⟨rfl, rfl, rfl⟩
set_option maxHeartbeats 4000000 in
set_option maxRecDepth 20000 in
theorem c_FilterOrder_placeOf {l : Launch} {L : Nat} {xs : Nat → Int32} {h : pz_H} {z : Nat}  {os : Nat → Int32} {ol : Nat} (ho : ORD h os ol) (x : Int32) : pz_K l L xs M_FilterOrder_placeOf 0 0 0 [.ref 11, .int x] h z (fun v h' z' => v = some (.int (orm ol (ff (fun j => decide (os j = x)) (ol - 0) 0))) ∧ h = h' ∧ z = z') := by
  obtain ⟨hOO, hOA, hol⟩ := id ho
  refine pz_K.of rfl (Nat.le_of_ble_eq_true rfl) ?_
  have loop : ∀ (n : Nat) (i : Nat), i ≤ ol → ol + 1 ≤ i + n → pz_E l L xs M_FilterOrder_placeOf 0 0 0 2 [some (.ref 11), some (.int x), some (.int (nI i))] [] h z (fun v h' z' => v = some (.int (orm ol (ff (fun j => decide (os j = x)) (ol - i) i))) ∧ h = h' ∧ z = z') := by
    intro n
    induction n with
    | zero => intros; omega
    | succ n ih =>
      intro i hi hin
      refine pe_iload_n d_FilterOrder_placeOf_2 rfl ?_
      refine pe_aload_n d_FilterOrder_placeOf_3 rfl ?_
      refine pe_getf d_FilterOrder_placeOf_4 f_FilterOrder_15 hOO rfl ?_
      refine pe_icmpN_ge (tgt := 28) d_FilterOrder_placeOf_7 (by decide) (by omega) (by omega) (fun c_7 => ?_) (fun c_7 => ?_)
      · refine pe_iconst (v := -1) d_FilterOrder_placeOf_28 (by decide) ?_
        refine pe_iret d_FilterOrder_placeOf_29 rfl ?_
        exact ⟨by rw [ff_end (by omega), orm_ge (by omega)], rfl, rfl⟩
      · have c_7 : i < ol := by omega
        refine pe_aload_n d_FilterOrder_placeOf_10 rfl ?_
        refine pe_getf d_FilterOrder_placeOf_11 f_FilterOrder_9 hOO rfl ?_
        refine pe_iload_n d_FilterOrder_placeOf_14 rfl ?_
        refine pe_ialdN d_FilterOrder_placeOf_15 hOA (by omega) (by omega) ?_
        refine pe_iload_n d_FilterOrder_placeOf_16 rfl ?_
        refine pe_icmp_ne (tgt := 22) d_FilterOrder_placeOf_17 (by decide) (fun c_17 => ?_) (fun c_17 => ?_)
        · refine pe_iincN d_FilterOrder_placeOf_22 rfl (by decide) rfl ?_
          dsimp only [List.set]
          refine pe_goto (tgt := 2) d_FilterOrder_placeOf_25 (by decide) ?_
          have e := ih (i + 1) (by omega) (by omega)
          rw [← ff_no c_7 (by simpa using c_17)] at e
          exact e
        · refine pe_iload_n d_FilterOrder_placeOf_20 rfl ?_
          refine pe_iret d_FilterOrder_placeOf_21 rfl ?_
          exact ⟨by rw [ff_yes c_7 (decide_eq_true c_17), orm_lt c_7], rfl, rfl⟩
  change pz_E l L xs M_FilterOrder_placeOf 0 0 0 0 [some (.ref 11), some (.int x), none] [] h z _
  refine pe_iconst (v := nI 0) d_FilterOrder_placeOf_0 (by decide) ?_
  refine pe_istore_n d_FilterOrder_placeOf_1 (by decide) rfl ?_
  dsimp only [List.set]
  exact loop (ol + 1) 0 (by omega) (by omega)
set_option maxHeartbeats 4000000 in
set_option maxRecDepth 20000 in
theorem c_FilterOrder_appAt {l : Launch} {L : Nat} {xs : Nat → Int32} {h : pz_H} {z : Nat}  {os : Nat → Int32} {ol : Nat} (ho : ORD h os ol) {q : Nat} (hq : q < 6) : pz_K l L xs M_FilterOrder_appAt 0 0 0 [.ref 11, .int (nI q)] h z (fun v h' z' => v = some (.int (os q)) ∧ h = h' ∧ z = z') := by
  obtain ⟨hOO, hOA, hol⟩ := id ho
  refine pz_K.of rfl (Nat.le_of_ble_eq_true rfl) ?_
  change pz_E l L xs M_FilterOrder_appAt 0 0 0 0 [some (.ref 11), some (.int (nI q))] [] h z _
  refine pe_aload_n d_FilterOrder_appAt_0 rfl ?_
  refine pe_getf d_FilterOrder_appAt_1 f_FilterOrder_9 hOO rfl ?_
  refine pe_iload_n d_FilterOrder_appAt_4 rfl ?_
  refine pe_ialdN d_FilterOrder_appAt_5 hOA (by omega) (by omega) ?_
  refine pe_iret d_FilterOrder_appAt_6 rfl ?_
  exact ⟨rfl, rfl, rfl⟩
set_option maxHeartbeats 4000000 in
set_option maxRecDepth 20000 in
theorem c_FilterOrder_append {l : Launch} {L : Nat} {xs : Nat → Int32} {h : pz_H} {z : Nat}  {os : Nat → Int32} {ol : Nat} (ho : ORD h os ol) (x : Int32) (hlt : ol < 6) : pz_K l L xs M_FilterOrder_append 0 0 0 [.ref 11, .int x] h z (fun v h' z' => v = none ∧ z = z' ∧ ORD h' (upd os ol x) (ol + 1) ∧ frm 11 13 h h') := by
  obtain ⟨hOO, hOA, hol⟩ := id ho
  have hf : frm 11 13 h h := frm.rf
  refine pz_K.of rfl (Nat.le_of_ble_eq_true rfl) ?_
  change pz_E l L xs M_FilterOrder_append 0 0 0 0 [some (.ref 11), some (.int x)] [] h z _
  refine pe_aload_n d_FilterOrder_append_0 rfl ?_
  refine pe_getf d_FilterOrder_append_1 f_FilterOrder_9 hOO rfl ?_
  refine pe_aload_n d_FilterOrder_append_4 rfl ?_
  refine pe_getf d_FilterOrder_append_5 f_FilterOrder_15 hOO rfl ?_
  refine pe_iload_n d_FilterOrder_append_8 rfl ?_
  refine pe_iastN d_FilterOrder_append_9 hOA (by omega) (by omega) ?_
  refine pe_pu (fun h2 e2 o2 => ?_)
  have hOO := (o2 (11) (by omega)).trans hOO
  have hOA := e2
  have hf := hf.st o2 (by omega) (by omega)
  refine pe_aload_n d_FilterOrder_append_10 rfl ?_
  refine pe_dup d_FilterOrder_append_11 rfl ?_
  refine pe_getf d_FilterOrder_append_12 f_FilterOrder_15 hOO rfl ?_
  refine pe_iconst (v := nI 1) d_FilterOrder_append_15 (by decide) ?_
  refine pe_iaddN d_FilterOrder_append_16 ?_
  refine pe_put d_FilterOrder_append_17 g_FilterOrder_15 hOO (Nat.le_of_ble_eq_true rfl) rfl ?_
  refine pe_pu (fun h2 e2 o2 => ?_)
  have hOO := e2
  have hOA := (o2 (12) (by omega)).trans hOA
  have hf := hf.st o2 (by omega) (by omega)
  refine pe_vret d_FilterOrder_append_20 rfl ?_
  exact ⟨rfl, rfl, ⟨hOO, hOA, by omega⟩, hf⟩
/-- the order without x: what stood behind it moves down -/
def dro (os : Nat → Int32) (ol : Nat) (x : Int32) : Nat → Int32 := if ff (fun j => decide (os j = x)) ol 0 < ol then fil os (fun j => os (j + 1)) (ff (fun j => decide (os j = x)) ol 0) (ol - 1 - ff (fun j => decide (os j = x)) ol 0) else os
def drl (os : Nat → Int32) (ol : Nat) (x : Int32) : Nat := if ff (fun j => decide (os j = x)) ol 0 < ol then ol - 1 else ol
set_option maxHeartbeats 4000000 in
set_option maxRecDepth 20000 in
theorem c_FilterOrder_drop {l : Launch} {L : Nat} {xs : Nat → Int32} {h : pz_H} {z : Nat}  {os : Nat → Int32} {ol : Nat} (ho : ORD h os ol) (x : Int32) : pz_K l L xs M_FilterOrder_drop 1 0 0 [.ref 11, .int x] h z (fun v h' z' => v = none ∧ z = z' ∧ ORD h' (dro os ol x) (drl os ol x) ∧ frm 11 13 h h') := by
  obtain ⟨hOO, hOA, hol⟩ := id ho
  have hf : frm 11 13 h h := frm.rf
  refine pz_K.of rfl (Nat.le_of_ble_eq_true rfl) ?_
  change pz_E l L xs M_FilterOrder_drop 1 0 0 0 [some (.ref 11), some (.int x), none, none] [] h z _
  refine pe_aload_n d_FilterOrder_drop_0 rfl ?_
  refine pe_iload_n d_FilterOrder_drop_1 rfl ?_
  -- 2: FilterOrder_placeOf
  refine pe_callV d_FilterOrder_drop_2 m_FilterOrder_19 j_FilterOrder_placeOf v_FilterOrder_placeOf (c_FilterOrder_placeOf ho x) rfl rfl (by simp [Value.category]) (by decide) hOO rfl rfl ?_
  intro v1 h1 z1 hq1
  obtain ⟨rfl, rfl, rfl⟩ := hq1
  rw [Nat.sub_zero]
  obtain ⟨p, hpe⟩ : ∃ p, p = ff (fun j => decide (os j = x)) ol 0 := ⟨_, rfl⟩
  rw [← hpe]
  rcases Nat.lt_or_ge p ol with hp | hp9
  rotate_left
  · have hp : ¬ p < ol := Nat.not_lt.mpr hp9
    rw [orm_ge hp]
    refine pe_istore_n d_FilterOrder_drop_5 (by decide) rfl ?_
    refine pe_iload_n d_FilterOrder_drop_6 rfl ?_
    refine pe_iconst (v := -1) d_FilterOrder_drop_7 (by decide) ?_
    refine pe_icmp_ne (tgt := 12) d_FilterOrder_drop_8 (by decide) (fun c => absurd rfl c) (fun c => ?_)
    refine pe_vret d_FilterOrder_drop_11 rfl ?_
    refine ⟨rfl, rfl, ?_, hf⟩
    unfold dro drl
    rw [if_neg (by rw [← hpe]; exact hp), if_neg (by rw [← hpe]; exact hp)]
    exact ho
  rw [orm_lt hp]
  have loop : ∀ (n : Nat) (k : Nat) (g : pz_H), p + k ≤ ol - 1 → ol ≤ p + k + n → ORD g (fil os (fun j => os (j + 1)) p k) (ol - 1) → frm 11 13 h g → pz_E l L xs M_FilterOrder_drop 1 0 0 24 [some (.ref 11), some (.int x), some (.int (nI p)), some (.int (nI (p + k)))] [] g z (fun v h' z' => v = none ∧ z = z' ∧ ORD h' (dro os ol x) (drl os ol x) ∧ frm 11 13 h h') := by
    intro n
    induction n with
    | zero => intros; omega
    | succ n ih =>
      intro k g hi hin ho hf
      obtain ⟨hOO, hOA, hol⟩ := id ho
      refine pe_iload_n d_FilterOrder_drop_24 rfl ?_
      refine pe_aload_n d_FilterOrder_drop_25 rfl ?_
      refine pe_getf d_FilterOrder_drop_26 f_FilterOrder_15 hOO rfl ?_
      refine pe_icmpN_ge (tgt := 52) d_FilterOrder_drop_29 (by decide) (by omega) (by omega) (fun c_29 => ?_) (fun c_29 => ?_)
      · refine pe_vret d_FilterOrder_drop_52 rfl ?_
        have e : k = ol - 1 - p := by omega
        subst e
        refine ⟨rfl, rfl, ?_, hf⟩
        unfold dro drl
        rw [if_pos (by rw [← hpe]; exact hp), if_pos (by rw [← hpe]; exact hp), ← hpe]
        exact ho
      · refine pe_aload_n d_FilterOrder_drop_32 rfl ?_
        refine pe_getf d_FilterOrder_drop_33 f_FilterOrder_9 hOO rfl ?_
        refine pe_iload_n d_FilterOrder_drop_36 rfl ?_
        refine pe_aload_n d_FilterOrder_drop_37 rfl ?_
        refine pe_getf d_FilterOrder_drop_38 f_FilterOrder_9 hOO rfl ?_
        refine pe_iload_n d_FilterOrder_drop_41 rfl ?_
        refine pe_iconst (v := nI 1) d_FilterOrder_drop_42 (by decide) ?_
        refine pe_iaddN d_FilterOrder_drop_43 ?_
        refine pe_ialdN d_FilterOrder_drop_44 hOA (by omega) (by omega) ?_
        rw [show fil os (fun j => os (j + 1)) p k (p + k + 1) = (fun j => os (j + 1)) (p + k) from by unfold fil; rw [if_neg (by omega)]]
        refine pe_iastN d_FilterOrder_drop_45 hOA (by omega) (by omega) ?_
        refine pe_pu (fun h2 e2 o2 => ?_)
        have hOO := (o2 (11) (by omega)).trans hOO
        have hOA := e2
        have hf := hf.st o2 (by omega) (by omega)
        refine pe_iincN d_FilterOrder_drop_46 rfl (by decide) rfl ?_
        dsimp only [List.set]
        refine pe_goto (tgt := 24) d_FilterOrder_drop_49 (by decide) ?_
        rw [fil_s] at hOA
        exact ih (k + 1) _ (by omega) (by omega) ⟨hOO, hOA, hol⟩ hf
  change pz_E _ _ _ _ _ _ _ _ _ (_ :: _) _ _ _
  refine pe_istore_n d_FilterOrder_drop_5 (by decide) rfl ?_
  dsimp only [List.set]
  refine pe_iload_n d_FilterOrder_drop_6 rfl ?_
  refine pe_iconst (v := -1) d_FilterOrder_drop_7 (by decide) ?_
  refine pe_icmp_ne (tgt := 12) d_FilterOrder_drop_8 (by decide) (fun c_8 => ?_) (fun c_8 => ?_)
  · refine pe_aload_n d_FilterOrder_drop_12 rfl ?_
    refine pe_dup d_FilterOrder_drop_13 rfl ?_
    refine pe_getf d_FilterOrder_drop_14 f_FilterOrder_15 hOO rfl ?_
    refine pe_iconst (v := nI 1) d_FilterOrder_drop_17 (by decide) ?_
    refine pe_isubN d_FilterOrder_drop_18 (by omega) ?_
    refine pe_put d_FilterOrder_drop_19 g_FilterOrder_15 hOO (Nat.le_of_ble_eq_true rfl) rfl ?_
    refine pe_pu (fun h2 e2 o2 => ?_)
    have hOO := e2
    have hOA := (o2 (12) (by omega)).trans hOA
    have hf := hf.st o2 (by omega) (by omega)
    refine pe_iload_n d_FilterOrder_drop_22 rfl ?_
    refine pe_istore_n d_FilterOrder_drop_23 (by decide) rfl ?_
    dsimp only [List.set]
    exact loop (ol + 1) 0 _ (by omega) (by omega) (by rw [fil_0]; exact ⟨hOO, hOA, by omega⟩) hf
  · exact absurd c_8 (nI_nem1 (by omega))
set_option maxHeartbeats 4000000 in
set_option maxRecDepth 20000 in
theorem c_Frame_isFull {l : Launch} {L : Nat} {xs : Nat → Int32} {h : pz_H} {z : Nat}  {a : Nat} {fb : Nat → Int32} {fl : Nat} (hr : FRA a h fb fl) : pz_K l L xs M_Frame_isFull 0 0 0 [.ref a] h z (fun v h' z' => v = some (.int (pb (decide (fl = 16)))) ∧ h = h' ∧ z = z') := by
  obtain ⟨hFO, hFB, hfl⟩ := id hr
  refine pz_K.of rfl (Nat.le_of_ble_eq_true rfl) ?_
  change pz_E l L xs M_Frame_isFull 0 0 0 0 [some (.ref a)] [] h z _
  refine pe_aload_n d_Frame_isFull_0 rfl ?_
  refine pe_getf d_Frame_isFull_1 f_Frame_13 hFO rfl ?_
  refine pe_bipush (v := nI 16) d_Frame_isFull_4 (by decide) ?_
  refine pe_icmpN_ne (tgt := 13) d_Frame_isFull_6 (by decide) (by omega) (by omega) (fun c_6 => ?_) (fun c_6 => ?_)
  · refine pe_iconst (v := nI 0) d_Frame_isFull_13 (by decide) ?_
    refine pe_zret d_Frame_isFull_14 rfl (by decide) ?_
    exact ⟨pb_no (fun q => by first | exact c_6 q), rfl, rfl⟩
  · refine pe_iconst (v := nI 1) d_Frame_isFull_9 (by decide) ?_
    refine pe_goto (tgt := 14) d_Frame_isFull_10 (by decide) ?_
    refine pe_zret d_Frame_isFull_14 rfl (by decide) ?_
    exact ⟨pb_yes c_6, rfl, rfl⟩
set_option maxHeartbeats 4000000 in
set_option maxRecDepth 20000 in
theorem c_Frame_clear {l : Launch} {L : Nat} {xs : Nat → Int32} {h : pz_H} {z : Nat}  {a : Nat} {fb : Nat → Int32} {fl : Nat} (hr : FRA a h fb fl) : pz_K l L xs M_Frame_clear 0 0 0 [.ref a] h z (fun v h' z' => v = none ∧ z = z' ∧ FRA a h' fb 0 ∧ frm a (a + 2) h h') := by
  obtain ⟨hFO, hFB, hfl⟩ := id hr
  have hf : frm a (a + 2) h h := frm.rf
  refine pz_K.of rfl (Nat.le_of_ble_eq_true rfl) ?_
  change pz_E l L xs M_Frame_clear 0 0 0 0 [some (.ref a)] [] h z _
  refine pe_aload_n d_Frame_clear_0 rfl ?_
  refine pe_iconst (v := nI 0) d_Frame_clear_1 (by decide) ?_
  refine pe_put d_Frame_clear_2 g_Frame_13 hFO (Nat.le_of_ble_eq_true rfl) rfl ?_
  refine pe_pu (fun h2 e2 o2 => ?_)
  have hFO := e2
  have hFB := (o2 (a + 1) (by omega)).trans hFB
  have hf := hf.st o2 (by omega) (by omega)
  refine pe_vret d_Frame_clear_5 rfl ?_
  exact ⟨rfl, rfl, ⟨hFO, hFB, by omega⟩, hf⟩
set_option maxHeartbeats 4000000 in
set_option maxRecDepth 20000 in
theorem c_Frame_append {l : Launch} {L : Nat} {xs : Nat → Int32} {h : pz_H} {z : Nat}  {a : Nat} {fb : Nat → Int32} {fl : Nat} (hr : FRA a h fb fl) (x : Int32) (hlt : fl < 16) : pz_K l L xs M_Frame_append 0 0 0 [.ref a, .int x] h z (fun v h' z' => v = none ∧ z = z' ∧ FRA a h' (upd fb fl x) (fl + 1) ∧ frm a (a + 2) h h') := by
  obtain ⟨hFO, hFB, hfl⟩ := id hr
  have hf : frm a (a + 2) h h := frm.rf
  refine pz_K.of rfl (Nat.le_of_ble_eq_true rfl) ?_
  change pz_E l L xs M_Frame_append 0 0 0 0 [some (.ref a), some (.int x)] [] h z _
  refine pe_aload_n d_Frame_append_0 rfl ?_
  refine pe_getf d_Frame_append_1 f_Frame_9 hFO rfl ?_
  refine pe_aload_n d_Frame_append_4 rfl ?_
  refine pe_getf d_Frame_append_5 f_Frame_13 hFO rfl ?_
  refine pe_iload_n d_Frame_append_8 rfl ?_
  refine pe_iastN d_Frame_append_9 hFB (by omega) (by omega) ?_
  refine pe_pu (fun h2 e2 o2 => ?_)
  have hFO := (o2 (a) (by omega)).trans hFO
  have hFB := e2
  have hf := hf.st o2 (by omega) (by omega)
  refine pe_aload_n d_Frame_append_10 rfl ?_
  refine pe_dup d_Frame_append_11 rfl ?_
  refine pe_getf d_Frame_append_12 f_Frame_13 hFO rfl ?_
  refine pe_iconst (v := nI 1) d_Frame_append_15 (by decide) ?_
  refine pe_iaddN d_Frame_append_16 ?_
  refine pe_put d_Frame_append_17 g_Frame_13 hFO (Nat.le_of_ble_eq_true rfl) rfl ?_
  refine pe_pu (fun h2 e2 o2 => ?_)
  have hFO := e2
  have hFB := (o2 (a + 1) (by omega)).trans hFB
  have hf := hf.st o2 (by omega) (by omega)
  refine pe_vret d_Frame_append_20 rfl ?_
  exact ⟨rfl, rfl, ⟨hFO, hFB, by omega⟩, hf⟩
set_option maxHeartbeats 4000000 in
set_option maxRecDepth 20000 in
theorem c_Frame_byteAt {l : Launch} {L : Nat} {xs : Nat → Int32} {h : pz_H} {z : Nat}  {a : Nat} {fb : Nat → Int32} {fl : Nat} (hr : FRA a h fb fl) {q : Nat} (hq : q < 16) : pz_K l L xs M_Frame_byteAt 0 0 0 [.ref a, .int (nI q)] h z (fun v h' z' => v = some (.int (fb q)) ∧ h = h' ∧ z = z') := by
  obtain ⟨hFO, hFB, hfl⟩ := id hr
  refine pz_K.of rfl (Nat.le_of_ble_eq_true rfl) ?_
  change pz_E l L xs M_Frame_byteAt 0 0 0 0 [some (.ref a), some (.int (nI q))] [] h z _
  refine pe_aload_n d_Frame_byteAt_0 rfl ?_
  refine pe_getf d_Frame_byteAt_1 f_Frame_9 hFO rfl ?_
  refine pe_iload_n d_Frame_byteAt_4 rfl ?_
  refine pe_ialdN d_Frame_byteAt_5 hFB (by omega) (by omega) ?_
  refine pe_iret d_Frame_byteAt_6 rfl ?_
  exact ⟨rfl, rfl, rfl⟩
set_option maxHeartbeats 4000000 in
set_option maxRecDepth 20000 in
theorem c_Frame_hasByte {l : Launch} {L : Nat} {xs : Nat → Int32} {h : pz_H} {z : Nat}  {a : Nat} {fb : Nat → Int32} {fl : Nat} (hr : FRA a h fb fl) (y : Int64) : pz_K l L xs M_Frame_hasByte 0 0 0 [.ref a, .long y] h z (fun v h' z' => v = some (.int (pb (decide (¬ lg_cmp y 0 < 0 ∧ ¬ 0 ≤ lg_cmp y (nI fl).toInt64)))) ∧ h = h' ∧ z = z') := by
  obtain ⟨hFO, hFB, hfl⟩ := id hr
  refine pz_K.of rfl (Nat.le_of_ble_eq_true rfl) ?_
  change pz_E l L xs M_Frame_hasByte 0 0 0 0 [some (.ref a), some (.long y), none] [] h z _
  refine pe_lload_n d_Frame_hasByte_0 rfl ?_
  refine pe_lconst (v := 0) d_Frame_hasByte_1 (by decide) ?_
  refine pe_lcmp d_Frame_hasByte_2 ?_
  refine pe_if_lt (tgt := 20) d_Frame_hasByte_3 (by decide) (fun c_3 => ?_) (fun c_3 => ?_)
  · refine pe_iconst (v := nI 0) d_Frame_hasByte_20 (by decide) ?_
    refine pe_zret d_Frame_hasByte_21 rfl (by decide) ?_
    exact ⟨pb_no (fun q => by first | exact q.1 c_3 | exact q.2 c_13), rfl, rfl⟩
  · refine pe_lload_n d_Frame_hasByte_6 rfl ?_
    refine pe_aload_n d_Frame_hasByte_7 rfl ?_
    refine pe_getf d_Frame_hasByte_8 f_Frame_13 hFO rfl ?_
    refine pe_i2l d_Frame_hasByte_11 ?_
    refine pe_lcmp d_Frame_hasByte_12 ?_
    refine pe_if_ge (tgt := 20) d_Frame_hasByte_13 (by decide) (fun c_13 => ?_) (fun c_13 => ?_)
    · refine pe_iconst (v := nI 0) d_Frame_hasByte_20 (by decide) ?_
      refine pe_zret d_Frame_hasByte_21 rfl (by decide) ?_
      exact ⟨pb_no (fun q => by first | exact q.1 c_3 | exact q.2 c_13), rfl, rfl⟩
    · refine pe_iconst (v := nI 1) d_Frame_hasByte_16 (by decide) ?_
      refine pe_goto (tgt := 21) d_Frame_hasByte_17 (by decide) ?_
      refine pe_zret d_Frame_hasByte_21 rfl (by decide) ?_
      exact ⟨pb_yes ⟨c_3, c_13⟩, rfl, rfl⟩
set_option maxHeartbeats 4000000 in
set_option maxRecDepth 20000 in
theorem c_PageList_clear {l : Launch} {L : Nat} {xs : Nat → Int32} {h : pz_H} {z : Nat}  {a : Nat} {pp : Nat → Int32} {pl pe : Nat} (hg : PGL a h pp pl pe) : pz_K l L xs M_PageList_clear 0 0 0 [.ref a] h z (fun v h' z' => v = none ∧ z = z' ∧ PGL a h' pp 0 0 ∧ frm a (a + 2) h h') := by
  obtain ⟨hPO, hPP, hpl, hpe⟩ := id hg
  have hf : frm a (a + 2) h h := frm.rf
  refine pz_K.of rfl (Nat.le_of_ble_eq_true rfl) ?_
  change pz_E l L xs M_PageList_clear 0 0 0 0 [some (.ref a)] [] h z _
  refine pe_aload_n d_PageList_clear_0 rfl ?_
  refine pe_iconst (v := nI 0) d_PageList_clear_1 (by decide) ?_
  refine pe_put d_PageList_clear_2 g_PageList_13 hPO (Nat.le_of_ble_eq_true rfl) rfl ?_
  refine pe_pu (fun h2 e2 o2 => ?_)
  have hPO := e2
  have hPP := (o2 (a + 1) (by omega)).trans hPP
  have hf := hf.st o2 (by omega) (by omega)
  refine pe_aload_n d_PageList_clear_5 rfl ?_
  refine pe_iconst (v := nI 0) d_PageList_clear_6 (by decide) ?_
  refine pe_put d_PageList_clear_7 g_PageList_17 hPO (Nat.le_of_ble_eq_true rfl) rfl ?_
  refine pe_pu (fun h2 e2 o2 => ?_)
  have hPO := e2
  have hPP := (o2 (a + 1) (by omega)).trans hPP
  have hf := hf.st o2 (by omega) (by omega)
  refine pe_vret d_PageList_clear_10 rfl ?_
  exact ⟨rfl, rfl, ⟨hPO, hPP, by omega, by omega⟩, hf⟩
set_option maxHeartbeats 4000000 in
set_option maxRecDepth 20000 in
theorem c_PageList_append {l : Launch} {L : Nat} {xs : Nat → Int32} {h : pz_H} {z : Nat}  {a : Nat} {pp : Nat → Int32} {pl pe : Nat} (hg : PGL a h pp pl pe) (x : Int32) : pz_K l L xs M_PageList_append 1 0 0 [.ref a, .int x] h z (fun v h' z' => v = none ∧ z = z' ∧ PGL a h' (upd pp pe x) (if pl + 1 < 8 then pl + 1 else 8) ((pe + 1) % 8) ∧ frm a (a + 2) h h') := by
  obtain ⟨hPO, hPP, hpl, hpe⟩ := id hg
  have hf : frm a (a + 2) h h := frm.rf
  refine pz_K.of rfl (Nat.le_of_ble_eq_true rfl) ?_
  change pz_E l L xs M_PageList_append 1 0 0 0 [some (.ref a), some (.int x)] [] h z _
  refine pe_aload_n d_PageList_append_0 rfl ?_
  refine pe_getf d_PageList_append_1 f_PageList_9 hPO rfl ?_
  refine pe_aload_n d_PageList_append_4 rfl ?_
  refine pe_getf d_PageList_append_5 f_PageList_17 hPO rfl ?_
  refine pe_iload_n d_PageList_append_8 rfl ?_
  refine pe_iastN d_PageList_append_9 hPP (by omega) (by omega) ?_
  refine pe_pu (fun h2 e2 o2 => ?_)
  have hPO := (o2 (a) (by omega)).trans hPO
  have hPP := e2
  have hf := hf.st o2 (by omega) (by omega)
  refine pe_aload_n d_PageList_append_10 rfl ?_
  refine pe_aload_n d_PageList_append_11 rfl ?_
  refine pe_getf d_PageList_append_12 f_PageList_17 hPO rfl ?_
  refine pe_iconst (v := nI 1) d_PageList_append_15 (by decide) ?_
  refine pe_iaddN d_PageList_append_16 ?_
  refine pe_bipush (v := nI 8) d_PageList_append_17 (by decide) ?_
  refine pe_iremN d_PageList_append_19 (by omega) (by omega) (by omega) ?_
  refine pe_put d_PageList_append_20 g_PageList_17 hPO (Nat.le_of_ble_eq_true rfl) rfl ?_
  refine pe_pu (fun h2 e2 o2 => ?_)
  have hPO := e2
  have hPP := (o2 (a + 1) (by omega)).trans hPP
  have hf := hf.st o2 (by omega) (by omega)
  refine pe_aload_n d_PageList_append_23 rfl ?_
  refine pe_bipush (v := nI 8) d_PageList_append_24 (by decide) ?_
  refine pe_aload_n d_PageList_append_26 rfl ?_
  refine pe_getf d_PageList_append_27 f_PageList_13 hPO rfl ?_
  refine pe_iconst (v := nI 1) d_PageList_append_30 (by decide) ?_
  refine pe_iaddN d_PageList_append_31 ?_
  -- 32: Math_min
  refine pe_callS d_PageList_append_32 m_PageList_20 s_Math_min (c_Math_min _ _) rfl rfl (by simp [Value.category]) (by decide) ?_
  intro v1 h1 z1 hq1
  obtain ⟨rfl, rfl, rfl⟩ := hq1
  rw [imin_N (by omega) (by omega)]
  change pz_E _ _ _ _ _ _ _ _ _ (_ :: _) _ _ _
  refine pe_put d_PageList_append_35 g_PageList_13 hPO (Nat.le_of_ble_eq_true rfl) rfl ?_
  refine pe_pu (fun h2 e2 o2 => ?_)
  have hPO := e2
  have hPP := (o2 (a + 1) (by omega)).trans hPP
  have hf := hf.st o2 (by omega) (by omega)
  refine pe_vret d_PageList_append_38 rfl ?_
  exact ⟨rfl, rfl, ⟨hPO, hPP, by split <;> omega, by omega⟩, hf⟩
set_option maxHeartbeats 4000000 in
set_option maxRecDepth 20000 in
theorem c_PageList_keeps {l : Launch} {L : Nat} {xs : Nat → Int32} {h : pz_H} {z : Nat}  {a : Nat} {pp : Nat → Int32} {pl pe : Nat} (hg : PGL a h pp pl pe) (x : Int32) : pz_K l L xs M_PageList_keeps 0 0 0 [.ref a, .int x] h z (fun v h' z' => v = some (.int (pb (decide (¬ x < 0 ∧ ¬ nI pl ≤ x)))) ∧ h = h' ∧ z = z') := by
  obtain ⟨hPO, hPP, hpl, hpe⟩ := id hg
  refine pz_K.of rfl (Nat.le_of_ble_eq_true rfl) ?_
  change pz_E l L xs M_PageList_keeps 0 0 0 0 [some (.ref a), some (.int x)] [] h z _
  refine pe_iload_n d_PageList_keeps_0 rfl ?_
  refine pe_if_lt (tgt := 16) d_PageList_keeps_1 (by decide) (fun c_1 => ?_) (fun c_1 => ?_)
  · refine pe_iconst (v := nI 0) d_PageList_keeps_16 (by decide) ?_
    refine pe_zret d_PageList_keeps_17 rfl (by decide) ?_
    exact ⟨pb_no (fun q => by first | exact q.1 c_1 | exact q.2 c_9), rfl, rfl⟩
  · refine pe_iload_n d_PageList_keeps_4 rfl ?_
    refine pe_aload_n d_PageList_keeps_5 rfl ?_
    refine pe_getf d_PageList_keeps_6 f_PageList_13 hPO rfl ?_
    refine pe_icmp_ge (tgt := 16) d_PageList_keeps_9 (by decide) (fun c_9 => ?_) (fun c_9 => ?_)
    · refine pe_iconst (v := nI 0) d_PageList_keeps_16 (by decide) ?_
      refine pe_zret d_PageList_keeps_17 rfl (by decide) ?_
      exact ⟨pb_no (fun q => by first | exact q.1 c_1 | exact q.2 c_9), rfl, rfl⟩
    · refine pe_iconst (v := nI 1) d_PageList_keeps_12 (by decide) ?_
      refine pe_goto (tgt := 17) d_PageList_keeps_13 (by decide) ?_
      refine pe_zret d_PageList_keeps_17 rfl (by decide) ?_
      exact ⟨pb_yes ⟨c_1, c_9⟩, rfl, rfl⟩
set_option maxHeartbeats 4000000 in
set_option maxRecDepth 20000 in
theorem c_PageList_beforeLast {l : Launch} {L : Nat} {xs : Nat → Int32} {h : pz_H} {z : Nat}  {a : Nat} {pp : Nat → Int32} {pl pe : Nat} (hg : PGL a h pp pl pe) {q : Nat} (hq : q < 8) : pz_K l L xs M_PageList_beforeLast 0 0 0 [.ref a, .int (nI q)] h z (fun v h' z' => v = some (.int (pp ((pe + 8 - 1 - q) % 8))) ∧ h = h' ∧ z = z') := by
  obtain ⟨hPO, hPP, hpl, hpe⟩ := id hg
  refine pz_K.of rfl (Nat.le_of_ble_eq_true rfl) ?_
  change pz_E l L xs M_PageList_beforeLast 0 0 0 0 [some (.ref a), some (.int (nI q))] [] h z _
  refine pe_aload_n d_PageList_beforeLast_0 rfl ?_
  refine pe_getf d_PageList_beforeLast_1 f_PageList_9 hPO rfl ?_
  refine pe_aload_n d_PageList_beforeLast_4 rfl ?_
  refine pe_getf d_PageList_beforeLast_5 f_PageList_17 hPO rfl ?_
  refine pe_bipush (v := nI 8) d_PageList_beforeLast_8 (by decide) ?_
  refine pe_iaddN d_PageList_beforeLast_10 ?_
  refine pe_iconst (v := nI 1) d_PageList_beforeLast_11 (by decide) ?_
  refine pe_isubN d_PageList_beforeLast_12 (by omega) ?_
  refine pe_iload_n d_PageList_beforeLast_13 rfl ?_
  refine pe_isubN d_PageList_beforeLast_14 (by omega) ?_
  refine pe_bipush (v := nI 8) d_PageList_beforeLast_15 (by decide) ?_
  refine pe_iremN d_PageList_beforeLast_17 (by omega) (by omega) (by omega) ?_
  refine pe_ialdN d_PageList_beforeLast_18 hPP (by omega) (by omega) ?_
  refine pe_iret d_PageList_beforeLast_19 rfl ?_
  exact ⟨rfl, rfl, rfl⟩
