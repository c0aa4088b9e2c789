/-! the kernel: contracts of BindingKernel, fifth part: revoke, tick, arrive -/
/-- the pages that may be named: x's, not named -/
def cNm (mo : Nat → Int32) (mn : Nat → Bool) (x : Int32) : Nat → Bool := fun j => decide (mo j = x) && !mn j
def lTk (mt : Nat → Int32) : Nat → Nat → Bool := fun i l => !decide (mt i ≤ mt l)
def pgn (np : Nat) (mo mt : Nat → Int32) (mn : Nat → Bool) (x : Int32) : Option Nat := if 2 < cnt (cNm mo mn x) np 0 then sel (cNm mo mn x) (lTk mt) np 0 none else none
theorem pgn_e (np : Nat) (mo mt : Nat → Int32) (mn : Nat → Bool) (x : Int32) : (if 2 < cnt (cNm mo mn x) np 0 then omi (sel (cNm mo mn x) (lTk mt) np 0 none) else -1) = omi (pgn np mo mt mn x) := by
  unfold pgn
  split <;> rfl
theorem pgn_lt {np : Nat} {mo mt : Nat → Int32} {mn : Nat → Bool} {x : Int32} {q : Nat} (h : pgn np mo mt mn x = some q) : q < np ∧ cNm mo mn x q = true := by
  unfold pgn at h
  split at h
  · have := sel_in np 0 none (fun _ e => by cases e) q h
    exact ⟨by omega, this.2⟩
  · cases h
/-- naming, k times at most: how many, which are named then, their deadlines -/
def rvk (np : Nat) (mo mt : Nat → Int32) (x dv : Int32) : Nat → (Nat → Bool) → (Nat → Int32) → Nat × (Nat → Bool) × (Nat → Int32)
  | 0, mn, md => (0, mn, md)
  | k + 1, mn, md => match pgn np mo mt mn x with
    | none => (0, mn, md)
    | some q => ((rvk np mo mt x dv k (updB mn q true) (upd md q dv)).1 + 1, (rvk np mo mt x dv k (updB mn q true) (upd md q dv)).2)
theorem rvk_n {np : Nat} {mo mt : Nat → Int32} {x dv : Int32} {k : Nat} {mn : Nat → Bool} {md : Nat → Int32} (h : pgn np mo mt mn x = none) : rvk np mo mt x dv k mn md = (0, mn, md) := by
  cases k with
  | zero => rfl
  | succ k => simp only [rvk, h]
theorem rvk_s {np : Nat} {mo mt : Nat → Int32} {x dv : Int32} {n i : Nat} {mn : Nat → Bool} {md : Nat → Int32} {q : Nat} (hi : i < n) (h : pgn np mo mt mn x = some q) : rvk np mo mt x dv (n - i) mn md = ((rvk np mo mt x dv (n - (i + 1)) (updB mn q true) (upd md q dv)).1 + 1, (rvk np mo mt x dv (n - (i + 1)) (updB mn q true) (upd md q dv)).2) := by
  rw [show n - i = (n - (i + 1)) + 1 by omega]
  simp only [rvk, h]
/-- the pages that are due -/
def cDu (mn : Nat → Bool) (md : Nat → Int32) (ck : Nat) : Nat → Bool := fun j => mn j && !decide (nI ck < md j)
def lDu (md : Nat → Int32) : Nat → Nat → Bool := fun i l => !decide (md l ≤ md i)
/-- which pages are taken away, in order, k at most -/
def tks (np : Nat) (md : Nat → Int32) (ck : Nat) : Nat → (Nat → Bool) → List Nat
  | 0, _ => []
  | k + 1, mn => match sel (cDu mn md ck) (lDu md) np 0 none with
    | none => []
    | some q => q :: tks np md ck k (updB mn q false)
abbrev TS : Type := (Nat → Int32) × (Nat → Int32) × (Nat → Bool) × (Nat → Nat → Int32) × (Nat → Nat) × (Nat → Nat)
/-- page q is taken from its owner -/
def tst1 (s : TS) (q : Nat) : TS := (upd s.1 q (-1), fil s.2.1 (fun _ => 0) (q * 6) 6, updB s.2.2.1 q false, va_up s.2.2.2.1 (s.1 q).toNatClampNeg (upd (s.2.2.2.1 (s.1 q).toNatClampNeg) (s.2.2.2.2.2 (s.1 q).toNatClampNeg) (nI q)), va_up s.2.2.2.2.1 (s.1 q).toNatClampNeg (if s.2.2.2.2.1 (s.1 q).toNatClampNeg + 1 < 8 then s.2.2.2.2.1 (s.1 q).toNatClampNeg + 1 else 8), va_up s.2.2.2.2.2 (s.1 q).toNatClampNeg ((s.2.2.2.2.2 (s.1 q).toNatClampNeg + 1) % 8))
def tsF (s : TS) (l : List Nat) : TS := l.foldl tst1 s
theorem tks_n {np : Nat} {md : Nat → Int32} {ck k : Nat} {mn : Nat → Bool} (h : sel (cDu mn md ck) (lDu md) np 0 none = none) : tks np md ck k mn = [] := by
  cases k with
  | zero => rfl
  | succ k => simp only [tks, h]
theorem tks_s {np : Nat} {md : Nat → Int32} {ck n i : Nat} {mn : Nat → Bool} {q : Nat} (hi : i < n) (h : sel (cDu mn md ck) (lDu md) np 0 none = some q) : tks np md ck (n - i) mn = q :: tks np md ck (n - (i + 1)) (updB mn q false) := by
  rw [show n - i = (n - (i + 1)) + 1 by omega]
  simp only [tks, h]
set_option maxHeartbeats 4000000 in
set_option maxRecDepth 20000 in
theorem c_K_revoke_no {l : Launch} {L : Nat} {xs : Nat → Int32} {h : pz_H} {z : Nat} {lost : Nat} (hK : KOB h lost) {dr fl : Nat → Nat} {op mp : Nat → Bool} {fi lk : Nat → Nat} (hap : ∀ i, i < 6 → AOB (16 + 25 * i) h (dr i) (fl i) (op i) (mp i) (fi i) (lk i)) (x n dl : Int32) (hno : (opn op x && (rng n (nI 1) (nI 8) && rng dl (nI 1) (nI 20))) = false) : pz_K l L xs M_K_revoke 3 0 0 [.ref 0, .int x, .int n, .int dl] h z (fun v h' z' => v = some (.int (-1)) ∧ h = h' ∧ z = z') := by
  refine pz_K.of rfl (Nat.le_of_ble_eq_true rfl) ?_
  change pz_E l L xs M_K_revoke 3 0 0 0 [some (.ref 0), some (.int x), some (.int n), some (.int dl), none, none] [] h z _
  refine pe_aload_n d_K_revoke_0 rfl ?_
  refine pe_iload_n d_K_revoke_1 rfl ?_
  -- 2: K_isOpen
  refine pe_callV d_K_revoke_2 m_K_84 j_K_isOpen v_K_isOpen (c_K_isOpen hK hap _) rfl rfl (by simp [Value.category]) (by decide) hK.1 rfl rfl ?_
  intro v1 h1 z1 hq1
  obtain ⟨rfl, rfl, rfl⟩ := hq1
  change pz_E _ _ _ _ _ _ _ _ _ (_ :: _) _ _ _
  refine pe_if_eq (tgt := 28) d_K_revoke_5 (by decide) (fun c_5 => ?_) (fun c_5 => ?_)
  · have c_5 := pb_0.mp c_5
    refine pe_iconst (v := -1) d_K_revoke_28 (by decide) ?_
    refine pe_iret d_K_revoke_29 rfl ?_
    exact ⟨rfl, rfl, rfl⟩
  · have c_5 := pb_n0.mp c_5
    refine pe_iload_n d_K_revoke_8 rfl ?_
    refine pe_iconst (v := nI 1) d_K_revoke_9 (by decide) ?_
    refine pe_bipush (v := nI 8) d_K_revoke_10 (by decide) ?_
    -- 12: K_isIn
    refine pe_callS d_K_revoke_12 m_K_108 s_K_isIn (c_K_isIn _ _ _) rfl rfl (by simp [Value.category]) (by decide) ?_
    intro v1 h1 z1 hq1
    obtain ⟨rfl, rfl, rfl⟩ := hq1
    change pz_E _ _ _ _ _ _ _ _ _ (_ :: _) _ _ _
    refine pe_if_eq (tgt := 28) d_K_revoke_15 (by decide) (fun c_15 => ?_) (fun c_15 => ?_)
    · have c_15 := pb_0.mp c_15
      refine pe_iconst (v := -1) d_K_revoke_28 (by decide) ?_
      refine pe_iret d_K_revoke_29 rfl ?_
      exact ⟨rfl, rfl, rfl⟩
    · have c_15 := pb_n0.mp c_15
      refine pe_iload_n d_K_revoke_18 rfl ?_
      refine pe_iconst (v := nI 1) d_K_revoke_19 (by decide) ?_
      refine pe_bipush (v := nI 20) d_K_revoke_20 (by decide) ?_
      -- 22: K_isIn
      refine pe_callS d_K_revoke_22 m_K_108 s_K_isIn (c_K_isIn _ _ _) rfl rfl (by simp [Value.category]) (by decide) ?_
      intro v1 h1 z1 hq1
      obtain ⟨rfl, rfl, rfl⟩ := hq1
      change pz_E _ _ _ _ _ _ _ _ _ (_ :: _) _ _ _
      refine pe_if_ne (tgt := 30) d_K_revoke_25 (by decide) (fun c_25 => ?_) (fun c_25 => ?_)
      · have c_25 := pb_n0.mp c_25
        exfalso; simp_all
      · have c_25 := pb_0.mp c_25
        refine pe_iconst (v := -1) d_K_revoke_28 (by decide) ?_
        refine pe_iret d_K_revoke_29 rfl ?_
        exact ⟨rfl, rfl, rfl⟩
set_option maxHeartbeats 4000000 in
set_option maxRecDepth 20000 in
theorem c_K_revoke_ok {l : Launch} {L : Nat} {xs : Nat → Int32} {h : pz_H} {z : Nat} {lost : Nat} (hK : KOB h lost) {dr fl : Nat → Nat} {op mp : Nat → Bool} {fi lk : Nat → Nat} (hap : ∀ i, i < 6 → AOB (16 + 25 * i) h (dr i) (fl i) (op i) (mp i) (fi i) (lk i)) {np : Nat} {mw mo mr mt : Nat → Int32} {mn : Nat → Bool} {md : Nat → Int32} {ts ck : Nat} (hm : MEM h np mw mo mr mt mn md ts ck) {a n dl : Nat} (ha : a < 6) (hyes : opn op (nI a) = true) (hn1 : 1 ≤ n) (hn8 : n ≤ 8) (hd1 : 1 ≤ dl) (hd20 : dl ≤ 20) : pz_K l L xs M_K_revoke 3 0 0 [.ref 0, .int (nI a), .int (nI n), .int (nI dl)] h z (fun v h' z' => v = some (.int (nI (rvk np mo mt (nI a) (nI (ck + dl)) n mn md).1)) ∧ z = z' ∧ MEM h' np mw mo mr mt (rvk np mo mt (nI a) (nI (ck + dl)) n mn md).2.1 (rvk np mo mt (nI a) (nI (ck + dl)) n mn md).2.2 ts ck ∧ frm 1 8 h h') := by
  refine pz_K.of rfl (Nat.le_of_ble_eq_true rfl) ?_
  have loop : ∀ (n9 : Nat) (i : Nat) (mn : Nat → Bool) (md : Nat → Int32) (g : pz_H), i ≤ n → n + 1 ≤ i + n9 → KOB g lost → MEM g np mw mo mr mt mn md ts ck → frm 1 8 h g → pz_E l L xs M_K_revoke 3 0 0 33 [some (.ref 0), some (.int (nI a)), some (.int (nI n)), some (.int (nI dl)), some (.int (nI i)), none] [] g z (fun v h' z' => v = some (.int (nI (i + (rvk np mo mt (nI a) (nI (ck + dl)) (n - i) mn md).1))) ∧ z = z' ∧ MEM h' np mw mo mr mt (rvk np mo mt (nI a) (nI (ck + dl)) (n - i) mn md).2.1 (rvk np mo mt (nI a) (nI (ck + dl)) (n - i) mn md).2.2 ts ck ∧ frm 1 8 h h') := by
    intro n9
    induction n9 with
    | zero => intros; omega
    | succ n9 ih =>
      intro i mn md g hi hin hK hm hf
      refine pe_iload d_K_revoke_33 rfl ?_
      refine pe_iload_n d_K_revoke_35 rfl ?_
      refine pe_icmpN_ge (tgt := 74) d_K_revoke_36 (by decide) (by omega) (by omega) (fun c_36 => ?_) (fun c_36 => ?_)
      · refine pe_iload_n d_K_revoke_74 rfl ?_
        refine pe_iret d_K_revoke_75 rfl ?_
        exact ⟨by rw [show n - i = 0 by omega]; show _ = some (Value.int (nI (i + 0))); rw [show i + 0 = n by omega], rfl, by rw [show n - i = 0 by omega]; exact hm, hf⟩
      · have c_36 : i < n := by omega
        refine pe_aload_n d_K_revoke_39 rfl ?_
        refine pe_getf d_K_revoke_40 f_K_18 hK.1 rfl ?_
        refine pe_iload_n d_K_revoke_43 rfl ?_
        -- 44: Memory_pageToName
        refine pe_callV d_K_revoke_44 m_K_129 j_Memory_pageToName v_Memory_pageToName (c_Memory_pageToName hm _) rfl rfl (by simp [Value.category]) (by decide) hm.1 rfl rfl ?_
        intro v1 h1 z1 hq1
        obtain ⟨rfl, rfl, rfl⟩ := hq1
        rw [Nat.sub_zero]
        have e9 := pgn_e np mo mt mn (nI a)
        unfold cNm lTk at e9
        rw [e9]
        change pz_E _ _ _ _ _ _ _ _ _ (_ :: _) _ _ _
        have hn2 := hm.2.2.2.2.2.2.2.2
        cases hpg : pgn np mo mt mn (nI a) with
        | none =>
          change pz_E _ _ _ _ _ _ _ _ _ [.int (-1)] _ _ _
          refine pe_istore d_K_revoke_47 (by decide) rfl ?_
          dsimp only [List.set]
          refine pe_iload d_K_revoke_49 rfl ?_
          refine pe_iconst (v := -1) d_K_revoke_51 (by decide) ?_
          refine pe_icmp_ne (tgt := 58) d_K_revoke_52 (by decide) (fun c_52 => ?_) (fun c_52 => ?_)
          · exact absurd rfl c_52
          · refine pe_iload d_K_revoke_55 rfl ?_
            refine pe_iret d_K_revoke_57 rfl ?_
            exact ⟨by rw [rvk_n hpg]; rfl, rfl, by rw [rvk_n hpg]; exact hm, hf⟩
        | some q =>
          obtain ⟨hq1, hq2⟩ := pgn_lt hpg
          change pz_E _ _ _ _ _ _ _ _ _ [.int (nI q)] _ _ _
          refine pe_istore d_K_revoke_47 (by decide) rfl ?_
          dsimp only [List.set]
          refine pe_iload d_K_revoke_49 rfl ?_
          refine pe_iconst (v := -1) d_K_revoke_51 (by decide) ?_
          refine pe_icmp_ne (tgt := 58) d_K_revoke_52 (by decide) (fun c_52 => ?_) (fun c_52 => ?_)
          · refine pe_aload_n d_K_revoke_58 rfl ?_
            refine pe_getf d_K_revoke_59 f_K_18 hK.1 rfl ?_
            refine pe_iload d_K_revoke_62 rfl ?_
            refine pe_iload_n d_K_revoke_64 rfl ?_
            -- 65: Memory_nameAfter
            refine pe_callV d_K_revoke_65 m_K_132 j_Memory_nameAfter v_Memory_nameAfter (c_Memory_nameAfter hm (p := q) hq1) rfl rfl (by simp [Value.category]) (by decide) hm.1 rfl rfl ?_
            intro v1 h1 z1 hq1
            obtain ⟨rfl, rfl, hm, hf1⟩ := hq1
            have hK := hK.on (hf1.on (by omega)) (hf1.on (by omega))
            have hf := hf.tr hf1
            change pz_E _ _ _ _ _ _ _ _ _ _ _ _ _
            refine pe_iincN d_K_revoke_68 rfl (by decide) rfl ?_
            dsimp only [List.set]
            refine pe_goto (tgt := 33) d_K_revoke_71 (by decide) ?_
            have e := ih (i + 1) _ _ _ (by omega) (by omega) hK hm hf
            rw [rvk_s c_36 hpg]
            exact pe_ls (ls' := [some (.ref 0), some (.int (nI a)), some (.int (nI n)), some (.int (nI dl)), some (.int (nI (i + 1))), none]) (fun j v hj => by match j, hj with | 0, hj => exact hj | 1, hj => exact hj | 2, hj => exact hj | 3, hj => exact hj | 4, hj => exact hj | 5, hj => cases hj | j + 6, hj => cases hj) (by rw [← Nat.add_assoc, Nat.add_right_comm i _ 1]; exact e)
          · exact absurd c_52 (nI_nem1 (by omega))
  change pz_E l L xs M_K_revoke 3 0 0 0 [some (.ref 0), some (.int (nI a)), some (.int (nI n)), some (.int (nI dl)), none, none] [] h z _
  refine pe_aload_n d_K_revoke_0 rfl ?_
  refine pe_iload_n d_K_revoke_1 rfl ?_
  -- 2: K_isOpen
  refine pe_callV d_K_revoke_2 m_K_84 j_K_isOpen v_K_isOpen (c_K_isOpen hK hap _) rfl rfl (by simp [Value.category]) (by decide) hK.1 rfl rfl ?_
  intro v1 h1 z1 hq1
  obtain ⟨rfl, rfl, rfl⟩ := hq1
  change pz_E _ _ _ _ _ _ _ _ _ (_ :: _) _ _ _
  refine pe_if_eq (tgt := 28) d_K_revoke_5 (by decide) (fun c_5 => ?_) (fun c_5 => ?_)
  · have c_5 := pb_0.mp c_5
    exact absurd (c_5.symm.trans hyes) (by decide)
  · have c_5 := pb_n0.mp c_5
    refine pe_iload_n d_K_revoke_8 rfl ?_
    refine pe_iconst (v := nI 1) d_K_revoke_9 (by decide) ?_
    refine pe_bipush (v := nI 8) d_K_revoke_10 (by decide) ?_
    -- 12: K_isIn
    refine pe_callS d_K_revoke_12 m_K_108 s_K_isIn (c_K_isIn _ _ _) rfl rfl (by simp [Value.category]) (by decide) ?_
    intro v1 h1 z1 hq1
    obtain ⟨rfl, rfl, rfl⟩ := hq1
    change pz_E _ _ _ _ _ _ _ _ _ (_ :: _) _ _ _
    refine pe_if_eq (tgt := 28) d_K_revoke_15 (by decide) (fun c_15 => ?_) (fun c_15 => ?_)
    · have c_15 := pb_0.mp c_15
      exact absurd (c_15.symm.trans (rng_y (by decide) hn1 hn8)) (by decide)
    · have c_15 := pb_n0.mp c_15
      refine pe_iload_n d_K_revoke_18 rfl ?_
      refine pe_iconst (v := nI 1) d_K_revoke_19 (by decide) ?_
      refine pe_bipush (v := nI 20) d_K_revoke_20 (by decide) ?_
      -- 22: K_isIn
      refine pe_callS d_K_revoke_22 m_K_108 s_K_isIn (c_K_isIn _ _ _) rfl rfl (by simp [Value.category]) (by decide) ?_
      intro v1 h1 z1 hq1
      obtain ⟨rfl, rfl, rfl⟩ := hq1
      change pz_E _ _ _ _ _ _ _ _ _ (_ :: _) _ _ _
      refine pe_if_ne (tgt := 30) d_K_revoke_25 (by decide) (fun c_25 => ?_) (fun c_25 => ?_)
      · have c_25 := pb_n0.mp c_25
        refine pe_iconst (v := nI 0) d_K_revoke_30 (by decide) ?_
        refine pe_istore d_K_revoke_31 (by decide) rfl ?_
        dsimp only [List.set]
        have e := loop (n + 1) 0 mn md _ (by omega) (by omega) hK hm frm.rf
        rw [Nat.zero_add, Nat.sub_zero] at e
        exact e
      · have c_25 := pb_0.mp c_25
        exact absurd (c_25.symm.trans (rng_y (by decide) hd1 hd20)) (by decide)
set_option maxHeartbeats 4000000 in
set_option maxRecDepth 20000 in
theorem c_K_tick_no {l : Launch} {L : Nat} {xs : Nat → Int32} {h : pz_H} {z : Nat} {lost : Nat} (hK : KOB h lost) {dr fl : Nat → Nat} {op mp : Nat → Bool} {fi lk : Nat → Nat} (hap : ∀ i, i < 6 → AOB (16 + 25 * i) h (dr i) (fl i) (op i) (mp i) (fi i) (lk i)) (x : Int32) (hno : rng x (nI 1) (nI 100) = false) : pz_K l L xs M_K_tick 3 0 0 [.ref 0, .int x] h z (fun v h' z' => v = some (.int (-1)) ∧ h = h' ∧ z = z') := by
  refine pz_K.of rfl (Nat.le_of_ble_eq_true rfl) ?_
  change pz_E l L xs M_K_tick 3 0 0 0 [some (.ref 0), some (.int x), none, none] [] h z _
  refine pe_iload_n d_K_tick_0 rfl ?_
  refine pe_iconst (v := nI 1) d_K_tick_1 (by decide) ?_
  refine pe_bipush (v := nI 100) d_K_tick_2 (by decide) ?_
  -- 4: K_isIn
  refine pe_callS d_K_tick_4 m_K_108 s_K_isIn (c_K_isIn _ _ _) rfl rfl (by simp [Value.category]) (by decide) ?_
  intro v1 h1 z1 hq1
  obtain ⟨rfl, rfl, rfl⟩ := hq1
  change pz_E _ _ _ _ _ _ _ _ _ (_ :: _) _ _ _
  refine pe_if_ne (tgt := 12) d_K_tick_7 (by decide) (fun c_7 => ?_) (fun c_7 => ?_)
  · have c_7 := pb_n0.mp c_7
    exact absurd (c_7.symm.trans hno) (by decide)
  · have c_7 := pb_0.mp c_7
    refine pe_iconst (v := -1) d_K_tick_10 (by decide) ?_
    refine pe_iret d_K_tick_11 rfl ?_
    exact ⟨rfl, rfl, rfl⟩
set_option maxHeartbeats 4000000 in
set_option maxRecDepth 20000 in
theorem c_K_tick_ok {l : Launch} {L : Nat} {xs : Nat → Int32} {h : pz_H} {z : Nat} {lost : Nat} (hK : KOB h lost) {dr fl : Nat → Nat} {op mp : Nat → Bool} {fi lk : Nat → Nat} (hap : ∀ i, i < 6 → AOB (16 + 25 * i) h (dr i) (fl i) (op i) (mp i) (fi i) (lk i)) {np : Nat} {mw mo mr mt : Nat → Int32} {mn : Nat → Bool} {md : Nat → Int32} {ts ck : Nat} (hm : MEM h np mw mo mr mt mn md ts ck) {n : Nat} (hn1 : 1 ≤ n) (hn100 : n ≤ 100) {pp : Nat → Nat → Int32} {pl pe : Nat → Nat} (hgs : ∀ i, i < 6 → PGL (16 + 25 * i + 1) h (pp i) (pl i) (pe i)) (how : ∀ j, j < np → mn j = true → ∃ a, a < 6 ∧ mo j = nI a) : pz_K l L xs M_K_tick 3 0 0 [.ref 0, .int (nI n)] h z (fun v h' z' => v = some (.int (nI (tks np md (ck + n) np mn).length)) ∧ z = z' ∧ MEM h' np mw (tsF ((mo, mr, mn, pp, pl, pe) : TS) (tks np md (ck + n) np mn)).1 (tsF ((mo, mr, mn, pp, pl, pe) : TS) (tks np md (ck + n) np mn)).2.1 mt (tsF ((mo, mr, mn, pp, pl, pe) : TS) (tks np md (ck + n) np mn)).2.2.1 md ts (ck + n) ∧ (∀ i, i < 6 → PGL (16 + 25 * i + 1) h' ((tsF ((mo, mr, mn, pp, pl, pe) : TS) (tks np md (ck + n) np mn)).2.2.2.1 i) ((tsF ((mo, mr, mn, pp, pl, pe) : TS) (tks np md (ck + n) np mn)).2.2.2.2.1 i) ((tsF ((mo, mr, mn, pp, pl, pe) : TS) (tks np md (ck + n) np mn)).2.2.2.2.2 i)) ∧ fr2 1 8 16 166 h h') := by
  refine pz_K.of rfl (Nat.le_of_ble_eq_true rfl) ?_
  obtain ⟨ck9, hck⟩ : ∃ c, c = ck + n := ⟨_, rfl⟩
  rw [← hck]
  have loop : ∀ (n9 : Nat) (t : Nat) (s : TS) (g : pz_H), t ≤ np → np + 1 ≤ t + n9 → KOB g lost → (∀ i, i < 6 → AOB (16 + 25 * i) g (dr i) (fl i) (op i) (mp i) (fi i) (lk i)) → MEM g np mw s.1 s.2.1 mt s.2.2.1 md ts ck9 → (∀ i, i < 6 → PGL (16 + 25 * i + 1) g (s.2.2.2.1 i) (s.2.2.2.2.1 i) (s.2.2.2.2.2 i)) → (∀ j, j < np → s.2.2.1 j = true → ∃ a, a < 6 ∧ s.1 j = nI a) → fr2 1 8 16 166 h g → pz_E l L xs M_K_tick 3 0 0 22 [some (.ref 0), some (.int (nI n)), some (.int (nI t)), none] [] g z (fun v h' z' => v = some (.int (nI (t + (tks np md ck9 (np - t) s.2.2.1).length))) ∧ z = z' ∧ MEM h' np mw (tsF s (tks np md ck9 (np - t) s.2.2.1)).1 (tsF s (tks np md ck9 (np - t) s.2.2.1)).2.1 mt (tsF s (tks np md ck9 (np - t) s.2.2.1)).2.2.1 md ts ck9 ∧ (∀ i, i < 6 → PGL (16 + 25 * i + 1) h' ((tsF s (tks np md ck9 (np - t) s.2.2.1)).2.2.2.1 i) ((tsF s (tks np md ck9 (np - t) s.2.2.1)).2.2.2.2.1 i) ((tsF s (tks np md ck9 (np - t) s.2.2.1)).2.2.2.2.2 i)) ∧ fr2 1 8 16 166 h h') := by
    intro n9
    induction n9 with
    | zero => intros; omega
    | succ n9 ih =>
      intro t s g hi hin hK hap hm hgs how hf
      have hn2 := hm.2.2.2.2.2.2.2.2
      refine pe_iload_n d_K_tick_22 rfl ?_
      refine pe_aload_n d_K_tick_23 rfl ?_
      refine pe_getf d_K_tick_24 f_K_18 hK.1 rfl ?_
      refine pe_getf d_K_tick_27 f_K_138 hm.1 rfl ?_
      refine pe_icmpN_ge (tgt := 82) d_K_tick_30 (by decide) (by omega) (by omega) (fun c_30 => ?_) (fun c_30 => ?_)
      · refine pe_aload_n d_K_tick_82 rfl ?_
        refine pe_getf d_K_tick_83 f_K_18 hK.1 rfl ?_
        refine pe_getf d_K_tick_86 f_K_138 hm.1 rfl ?_
        refine pe_iret d_K_tick_89 rfl ?_
        exact ⟨by rw [show np - t = 0 by omega]; show _ = some (Value.int (nI (t + 0))); rw [show t + 0 = np by omega], rfl, by rw [show np - t = 0 by omega]; exact hm, by rw [show np - t = 0 by omega]; exact hgs, hf⟩
      · have c_30 : t < np := by omega
        refine pe_aload_n d_K_tick_33 rfl ?_
        refine pe_getf d_K_tick_34 f_K_18 hK.1 rfl ?_
        -- 37: Memory_firstDue
        refine pe_callV d_K_tick_37 m_K_141 j_Memory_firstDue v_Memory_firstDue (c_Memory_firstDue hm) rfl rfl (by simp [Value.category]) (by decide) hm.1 rfl rfl ?_
        intro v1 h1 z1 hq1
        obtain ⟨rfl, rfl, rfl⟩ := hq1
        rw [Nat.sub_zero]
        change pz_E _ _ _ _ _ _ _ _ _ [.int (omi (sel (cDu s.2.2.1 md ck9) (lDu md) np 0 none))] _ _ _
        change pz_E _ _ _ _ _ _ _ _ _ (_ :: _) _ _ _
        have hn2 := hm.2.2.2.2.2.2.2.2
        cases hpg : sel (cDu s.2.2.1 md ck9) (lDu md) np 0 none with
        | none =>
          change pz_E _ _ _ _ _ _ _ _ _ [.int (-1)] _ _ _
          refine pe_istore_n d_K_tick_40 (by decide) rfl ?_
          dsimp only [List.set]
          refine pe_iload_n d_K_tick_41 rfl ?_
          refine pe_iconst (v := -1) d_K_tick_42 (by decide) ?_
          refine pe_icmp_ne (tgt := 48) d_K_tick_43 (by decide) (fun c_43 => ?_) (fun c_43 => ?_)
          · exact absurd rfl c_43
          · refine pe_iload_n d_K_tick_46 rfl ?_
            refine pe_iret d_K_tick_47 rfl ?_
            exact ⟨by rw [tks_n hpg]; rfl, rfl, by rw [tks_n hpg]; exact hm, by rw [tks_n hpg]; exact hgs, hf⟩
        | some q =>
          obtain ⟨hq1, hq2⟩ := sel_in np 0 none (fun _ e => by cases e) q hpg
          rw [Nat.zero_add] at hq1
          unfold cDu at hq2
          rw [Bool.and_eq_true] at hq2
          obtain ⟨a, ha, hoa⟩ := how q hq1 hq2.1
          have hA := hap a ha
          have hg := hgs a ha
          change pz_E _ _ _ _ _ _ _ _ _ [.int (nI q)] _ _ _
          refine pe_istore_n d_K_tick_40 (by decide) rfl ?_
          dsimp only [List.set]
          refine pe_iload_n d_K_tick_41 rfl ?_
          refine pe_iconst (v := -1) d_K_tick_42 (by decide) ?_
          refine pe_icmp_ne (tgt := 48) d_K_tick_43 (by decide) (fun c_43 => ?_) (fun c_43 => ?_)
          · refine pe_aload_n d_K_tick_48 rfl ?_
            refine pe_getf d_K_tick_49 f_K_49 hK.1 rfl ?_
            refine pe_aload_n d_K_tick_52 rfl ?_
            refine pe_getf d_K_tick_53 f_K_18 hK.1 rfl ?_
            refine pe_iload_n d_K_tick_56 rfl ?_
            -- 57: Memory_ownerOf
            refine pe_callV d_K_tick_57 m_K_144 j_Memory_ownerOf v_Memory_ownerOf (c_Memory_ownerOf hm hq1) rfl rfl (by simp [Value.category]) (by decide) hm.1 rfl rfl ?_
            intro v1 h1 z1 hq1
            obtain ⟨rfl, rfl, rfl⟩ := hq1
            rw [hoa]
            change pz_E _ _ _ _ _ _ _ _ _ (_ :: _) _ _ _
            refine pe_aaldN d_K_tick_60 rfl hK.2 (by omega) (by omega) rfl ?_
            refine pe_getf d_K_tick_61 f_K_147 hA rfl ?_
            refine pe_iload_n d_K_tick_64 rfl ?_
            -- 65: PageList_append
            refine pe_callV d_K_tick_65 m_K_151 j_PageList_append v_PageList_append (c_PageList_append hg _) rfl rfl (by simp [Value.category]) (by decide) hg.1 rfl rfl ?_
            intro v1 h1 z1 hq1
            obtain ⟨rfl, rfl, hg, hf1⟩ := hq1
            have hK := hK.on (hf1.on (by omega)) (hf1.on (by omega))
            have hap := fun i (hi : i < 6) => (hap i hi).on (hf1.on (by omega))
            have hm := hm.on (hf1.on (by omega))
            change pz_E _ _ _ _ _ _ _ _ _ _ _ _ _
            refine pe_aload_n d_K_tick_68 rfl ?_
            refine pe_getf d_K_tick_69 f_K_18 hK.1 rfl ?_
            refine pe_iload_n d_K_tick_72 rfl ?_
            -- 73: Memory_free
            refine pe_callV d_K_tick_73 m_K_105 j_Memory_free v_Memory_free (c_Memory_free hm hq1) rfl rfl (by simp [Value.category]) (by decide) hm.1 rfl rfl ?_
            intro v2 h2 z2 hq2
            obtain ⟨rfl, rfl, hm, hf2⟩ := hq2
            have hK := hK.on (hf2.on (by omega)) (hf2.on (by omega))
            have hap := fun i (hi : i < 6) => (hap i hi).on (hf2.on (by omega))
            have hg := hg.on (hf2.on (by omega))
            change pz_E _ _ _ _ _ _ _ _ _ _ _ _ _
            refine pe_iincN d_K_tick_76 rfl (by decide) rfl ?_
            dsimp only [List.set]
            refine pe_goto (tgt := 22) d_K_tick_79 (by decide) ?_
            have hcl : (s.1 q).toNatClampNeg = a := by rw [hoa, nI_clamp (by omega)]
            have hgs : ∀ i, i < 6 → PGL (16 + 25 * i + 1) h2 ((tst1 s q).2.2.2.1 i) ((tst1 s q).2.2.2.2.1 i) ((tst1 s q).2.2.2.2.2 i) := by
              intro i hi
              by_cases e : i = a
              · subst e; simp only [tst1, hcl, va_up, if_pos]; exact hg
              · simp only [tst1, hcl, va_up, if_neg e]; exact ((hgs i hi).on (hf1.on (by omega))).on (hf2.on (by omega))
            have hm : MEM h2 np mw (tst1 s q).1 (tst1 s q).2.1 mt (tst1 s q).2.2.1 md ts ck9 := hm
            have how : ∀ j, j < np → (tst1 s q).2.2.1 j = true → ∃ a, a < 6 ∧ (tst1 s q).1 j = nI a := by
              intro j hj hn
              by_cases e : j = q
              · subst e; simp only [tst1, updB_eq] at hn; cases hn
              · simp only [tst1, updB_ne e] at hn; simp only [tst1, upd_ne e]; exact how j hj hn
            have hf := (hf.r (hf1.wd (lo' := 16) (hi' := 166) (by omega) (by omega))).l hf2
            have e := ih (t + 1) (tst1 s q) _ (by omega) (by omega) hK hap hm hgs how hf
            rw [tks_s c_30 hpg]
            exact pe_ls (ls' := [some (.ref 0), some (.int (nI n)), some (.int (nI (t + 1))), none]) (fun j v hj => by match j, hj with | 0, hj => exact hj | 1, hj => exact hj | 2, hj => exact hj | 3, hj => cases hj | j + 4, hj => cases hj) (by rw [List.length_cons, ← Nat.add_assoc, Nat.add_right_comm t _ 1]; exact e)
          · exact absurd c_43 (nI_nem1 (by omega))
  change pz_E l L xs M_K_tick 3 0 0 0 [some (.ref 0), some (.int (nI n)), none, none] [] h z _
  refine pe_iload_n d_K_tick_0 rfl ?_
  refine pe_iconst (v := nI 1) d_K_tick_1 (by decide) ?_
  refine pe_bipush (v := nI 100) d_K_tick_2 (by decide) ?_
  -- 4: K_isIn
  refine pe_callS d_K_tick_4 m_K_108 s_K_isIn (c_K_isIn _ _ _) rfl rfl (by simp [Value.category]) (by decide) ?_
  intro v1 h1 z1 hq1
  obtain ⟨rfl, rfl, rfl⟩ := hq1
  change pz_E _ _ _ _ _ _ _ _ _ (_ :: _) _ _ _
  refine pe_if_ne (tgt := 12) d_K_tick_7 (by decide) (fun c_7 => ?_) (fun c_7 => ?_)
  · have c_7 := pb_n0.mp c_7
    refine pe_aload_n d_K_tick_12 rfl ?_
    refine pe_getf d_K_tick_13 f_K_18 hK.1 rfl ?_
    refine pe_iload_n d_K_tick_16 rfl ?_
    -- 17: Memory_passTime
    refine pe_callV d_K_tick_17 m_K_135 j_Memory_passTime v_Memory_passTime (c_Memory_passTime hm) rfl rfl (by simp [Value.category]) (by decide) hm.1 rfl rfl ?_
    intro v1 h1 z1 hq1
    obtain ⟨rfl, rfl, hm, hf1⟩ := hq1
    rw [← hck] at hm
    have hK := hK.on (hf1.on (by omega)) (hf1.on (by omega))
    have hap := fun i (hi : i < 6) => (hap i hi).on (hf1.on (by omega))
    have hgs := fun i (hi : i < 6) => (hgs i hi).on (hf1.on (by omega))
    have hf := (fr2.rf (lo := 1) (hi := 8) (lo2 := 16) (hi2 := 166) (h := h)).l hf1
    change pz_E _ _ _ _ _ _ _ _ _ _ _ _ _
    refine pe_iconst (v := nI 0) d_K_tick_20 (by decide) ?_
    refine pe_istore_n d_K_tick_21 (by decide) rfl ?_
    dsimp only [List.set]
    have e := loop (np + 1) 0 ((mo, mr, mn, pp, pl, pe) : TS) _ (by omega) (by omega) hK hap hm hgs how hf
    rw [Nat.zero_add, Nat.sub_zero] at e
    exact e
  · have c_7 := pb_0.mp c_7
    exact absurd (c_7.symm.trans (rng_y (by decide) hn1 hn100)) (by decide)
