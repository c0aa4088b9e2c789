/-! the run of a filter, applications: contracts of Program.accepts, Application -/
section ACC
variable {gc go : Nat → Int32} {yy nn : Nat → Nat} {gl : Nat} {fb : Nat → Int32} {fl s i : Nat} {A X : Int32}
theorem acc_o1 (h : ¬ s < 16) : acc gc go yy nn gl fb fl (16 - s) i A X = false := by rw [show 16 - s = 0 by omega]; rfl
theorem acc_u (h : s < 16) (hi : i < gl) : acc gc go yy nn gl fb fl (16 - s) i A X = (if gc i = nI 10 then !decide (go i = 0) else if gc i = nI 11 then !decide (A = 0) else
      match stp fb fl (gc i) (go i) A X with
      | none => false
      | some (A', X') => acc gc go yy nn gl fb fl (16 - (s + 1)) (i + (1 + if hld (gc i) A' (go i) = true then yy i else nn i)) A' X') := by
  rw [show 16 - s = (16 - (s + 1)) + 1 by omega]
  show (if i < gl then _ else false) = _
  rw [if_pos hi]
  rfl
theorem acc_o2 (hi : ¬ i < gl) : acc gc go yy nn gl fb fl (16 - s) i A X = false := by
  by_cases h : s < 16
  · rw [show 16 - s = (16 - (s + 1)) + 1 by omega]
    show (if i < gl then _ else false) = _
    rw [if_neg hi]
  · exact acc_o1 h
theorem acc_10 (h : s < 16) (hi : i < gl) (h1 : gc i = nI 10) : acc gc go yy nn gl fb fl (16 - s) i A X = !decide (go i = 0) := by rw [acc_u h hi, if_pos h1]
theorem acc_11 (h : s < 16) (hi : i < gl) (h0 : ¬ gc i = nI 10) (h1 : gc i = nI 11) : acc gc go yy nn gl fb fl (16 - s) i A X = !decide (A = 0) := by rw [acc_u h hi, if_neg h0, if_pos h1]
theorem acc_n (h : s < 16) (hi : i < gl) (h0 : ¬ gc i = nI 10) (h1 : ¬ gc i = nI 11) (h2 : stp fb fl (gc i) (go i) A X = none) : acc gc go yy nn gl fb fl (16 - s) i A X = false := by rw [acc_u h hi, if_neg h0, if_neg h1, h2]
theorem acc_s {A' X' : Int32} (h : s < 16) (hi : i < gl) (h0 : ¬ gc i = nI 10) (h1 : ¬ gc i = nI 11) (h2 : stp fb fl (gc i) (go i) A X = some (A', X')) : acc gc go yy nn gl fb fl (16 - s) i A X = acc gc go yy nn gl fb fl (16 - (s + 1)) (i + (1 + if hld (gc i) A' (go i) = true then yy i else nn i)) A' X' := by rw [acc_u h hi, if_neg h0, if_neg h1, h2]
theorem stp_rck {c k : Int32} (h0 : ¬ c = 0) (h1 : ¬ c = nI 1) (h2 : ¬ c = nI 2) (h3 : ¬ c = nI 3) : stp fb fl c k A X = some (rck c A k, X) := by
  unfold stp rck
  rw [if_neg h0, if_neg h1, if_neg h2, if_neg h3]
  by_cases e4 : c = nI 4
  · rw [if_pos e4, if_pos e4]
  · rw [if_neg e4, if_neg e4]
    by_cases e5 : c = nI 5
    · rw [if_pos e5, if_pos e5]
    · rw [if_neg e5, if_neg e5]
      by_cases e6 : c = nI 6
      · rw [if_pos e6, if_pos e6]
      · rw [if_neg e6, if_neg e6]
end ACC
set_option maxHeartbeats 4000000 in
set_option maxRecDepth 20000 in
theorem c_Program_accepts {l : Launch} {L : Nat} {xs : Nat → Int32} {h : pz_H} {z : Nat}  {a : Nat} {gc go gy gn : Nat → Int32} {gl : Nat} {b : Nat} {fb : Nat → Int32} {fl : Nat} (hp : PRG a h gc go gy gn gl) (hr : FRA b h fb fl) {yy nn : Nat → Nat} (hyy : ∀ j, j < gl → gy j = nI (yy j) ∧ yy j ≤ 15) (hnn : ∀ j, j < gl → gn j = nI (nn j) ∧ nn j ≤ 15) : pz_K l L xs M_Program_accepts 1 0 0 [.ref a, .ref b] h z (fun v h' z' => v = some (.int (pb (acc gc go yy nn gl fb fl (16 - 0) 0 (nI 0) (nI 0)))) ∧ h = h' ∧ z = z') := by
  obtain ⟨hGO, hGC, hGK, hGY, hGN, hgl⟩ := id hp
  obtain ⟨hFO, hFB, hfl⟩ := id hr
  refine pz_K.of rfl (Nat.le_of_ble_eq_true rfl) ?_
  have loop : ∀ (n : Nat) (i s : Nat) (A X : Int32), s ≤ 16 → i ≤ 16 * s → 17 ≤ s + n → pz_E l L xs M_Program_accepts 1 0 0 10 [some (.ref a), some (.ref b), some (.int A), some (.int X), some (.int (nI i)), some (.int (nI s)), none, none, none, none] [] h z (fun v h' z' => v = some (.int (pb (acc gc go yy nn gl fb fl (16 - s) i A X))) ∧ h = h' ∧ z = z') := by
    intro n
    induction n with
    | zero => intros; omega
    | succ n ih =>
      intro i s A X hs16 hib hin
      refine pe_iload d_Program_accepts_10 rfl ?_
      refine pe_bipush (v := nI 16) d_Program_accepts_12 (by decide) ?_
      refine pe_icmpN_ge (tgt := 206) d_Program_accepts_14 (by decide) (by omega) (by omega) (fun c_14 => ?_) (fun c_14 => ?_)
      · refine pe_iconst (v := nI 0) d_Program_accepts_206 (by decide) ?_
        refine pe_zret d_Program_accepts_207 rfl (by decide) ?_
        exact ⟨by rw [acc_o1 (by omega)]; rfl, rfl, rfl⟩
      · refine pe_iload d_Program_accepts_17 rfl ?_
        refine pe_aload_n d_Program_accepts_19 rfl ?_
        refine pe_getf d_Program_accepts_20 f_Program_22 hGO rfl ?_
        refine pe_icmpN_ge (tgt := 206) d_Program_accepts_23 (by decide) (by omega) (by omega) (fun c_23 => ?_) (fun c_23 => ?_)
        · refine pe_iconst (v := nI 0) d_Program_accepts_206 (by decide) ?_
          refine pe_zret d_Program_accepts_207 rfl (by decide) ?_
          exact ⟨by rw [acc_o2 (by omega)]; rfl, rfl, rfl⟩
        · have hs : s < 16 := by omega
          have hi : i < gl := by omega
          have hy1 := hyy i hi
          have hn1 := hnn i hi
          have tail : ¬ gc i = nI 10 → ¬ gc i = nI 11 → ∀ (A' X' : Int32) (w8 : Option Value), stp fb fl (gc i) (go i) A X = some (A', X') → pz_E l L xs M_Program_accepts 1 0 0 165 [some (.ref a), some (.ref b), some (.int A'), some (.int X'), some (.int (nI i)), some (.int (nI s)), some (.int (gc i)), some (.int (go i)), w8, none] [] h z (fun v h' z' => v = some (.int (pb (acc gc go yy nn gl fb fl (16 - s) i A X))) ∧ h = h' ∧ z = z') := by
            intro c_48 c_66 A' X' w8 hst
            refine pe_iload d_Program_accepts_165 rfl ?_
            refine pe_iconst (v := nI 1) d_Program_accepts_167 (by decide) ?_
            refine pe_iload d_Program_accepts_168 rfl ?_
            refine pe_iload_n d_Program_accepts_170 rfl ?_
            refine pe_iload d_Program_accepts_171 rfl ?_
            -- 173: Program_holds
            refine pe_callS d_Program_accepts_173 m_Program_57 s_Program_holds (c_Program_holds _ _ _) rfl rfl (by simp [Value.category]) (by decide) ?_
            intro v1 h1 z1 hq1
            obtain ⟨rfl, rfl, rfl⟩ := hq1
            change pz_E _ _ _ _ _ _ _ _ _ (_ :: _) _ _ _
            refine pe_if_eq (tgt := 189) d_Program_accepts_176 (by decide) (fun c_176 => ?_) (fun c_176 => ?_)
            · have c_176 := pb_0.mp c_176
              refine pe_aload_n d_Program_accepts_189 rfl ?_
              refine pe_getf d_Program_accepts_190 f_Program_19 hGO rfl ?_
              refine pe_iload d_Program_accepts_193 rfl ?_
              refine pe_ialdN d_Program_accepts_195 hGN (by omega) (by omega) ?_
              rw [hn1.1]
              refine pe_iaddN d_Program_accepts_196 ?_
              refine pe_iaddN d_Program_accepts_197 ?_
              refine pe_istore d_Program_accepts_198 (by decide) rfl ?_
              dsimp only [List.set]
              refine pe_iincN d_Program_accepts_200 rfl (by decide) rfl ?_
              dsimp only [List.set]
              refine pe_goto (tgt := 10) d_Program_accepts_203 (by decide) ?_
              rw [acc_s hs hi c_48 c_66 hst, show (if hld (gc i) A' (go i) = true then yy i else nn i) = nn i from by simp [c_176]]
              exact pe_ls (ls' := [some (.ref a), some (.ref b), some (.int A'), some (.int X'), some (.int (nI (i + (1 + nn i)))), some (.int (nI (s + 1))), none, none, none, none]) (fun j v hj => by match j, hj with | 0, hj => exact hj | 1, hj => exact hj | 2, hj => exact hj | 3, hj => exact hj | 4, hj => exact hj | 5, hj => exact hj | 6, hj => cases hj | 7, hj => cases hj | 8, hj => cases hj | 9, hj => cases hj | j + 10, hj => cases hj) (ih _ _ _ _ (by omega) (by omega) (by omega))
            · have c_176 := pb_n0.mp c_176
              refine pe_aload_n d_Program_accepts_179 rfl ?_
              refine pe_getf d_Program_accepts_180 f_Program_16 hGO rfl ?_
              refine pe_iload d_Program_accepts_183 rfl ?_
              refine pe_ialdN d_Program_accepts_185 hGY (by omega) (by omega) ?_
              rw [hy1.1]
              refine pe_goto (tgt := 196) d_Program_accepts_186 (by decide) ?_
              skip
              refine pe_iaddN d_Program_accepts_196 ?_
              refine pe_iaddN d_Program_accepts_197 ?_
              refine pe_istore d_Program_accepts_198 (by decide) rfl ?_
              dsimp only [List.set]
              refine pe_iincN d_Program_accepts_200 rfl (by decide) rfl ?_
              dsimp only [List.set]
              refine pe_goto (tgt := 10) d_Program_accepts_203 (by decide) ?_
              rw [acc_s hs hi c_48 c_66 hst, show (if hld (gc i) A' (go i) = true then yy i else nn i) = yy i from by simp [c_176]]
              exact pe_ls (ls' := [some (.ref a), some (.ref b), some (.int A'), some (.int X'), some (.int (nI (i + (1 + yy i)))), some (.int (nI (s + 1))), none, none, none, none]) (fun j v hj => by match j, hj with | 0, hj => exact hj | 1, hj => exact hj | 2, hj => exact hj | 3, hj => exact hj | 4, hj => exact hj | 5, hj => exact hj | 6, hj => cases hj | 7, hj => cases hj | 8, hj => cases hj | 9, hj => cases hj | j + 10, hj => cases hj) (ih _ _ _ _ (by omega) (by omega) (by omega))
          refine pe_aload_n d_Program_accepts_26 rfl ?_
          refine pe_getf d_Program_accepts_27 f_Program_9 hGO rfl ?_
          refine pe_iload d_Program_accepts_30 rfl ?_
          refine pe_ialdN d_Program_accepts_32 hGC (by omega) (by omega) ?_
          refine pe_istore d_Program_accepts_33 (by decide) rfl ?_
          dsimp only [List.set]
          refine pe_aload_n d_Program_accepts_35 rfl ?_
          refine pe_getf d_Program_accepts_36 f_Program_13 hGO rfl ?_
          refine pe_iload d_Program_accepts_39 rfl ?_
          refine pe_ialdN d_Program_accepts_41 hGK (by omega) (by omega) ?_
          refine pe_istore d_Program_accepts_42 (by decide) rfl ?_
          dsimp only [List.set]
          refine pe_iload d_Program_accepts_44 rfl ?_
          refine pe_bipush (v := nI 10) d_Program_accepts_46 (by decide) ?_
          refine pe_icmp_ne (tgt := 62) d_Program_accepts_48 (by decide) (fun c_48 => ?_) (fun c_48 => ?_)
          · refine pe_iload d_Program_accepts_62 rfl ?_
            refine pe_bipush (v := nI 11) d_Program_accepts_64 (by decide) ?_
            refine pe_icmp_ne (tgt := 79) d_Program_accepts_66 (by decide) (fun c_66 => ?_) (fun c_66 => ?_)
            · refine pe_iload d_Program_accepts_79 rfl ?_
              refine pe_if_eq (tgt := 90) d_Program_accepts_81 (by decide) (fun c_81 => ?_) (fun c_81 => ?_)
              · refine pe_iload d_Program_accepts_90 rfl ?_
                refine pe_if_ne (tgt := 101) d_Program_accepts_92 (by decide) (fun c_92 => ?_) (fun c_92 => ?_)
                · exact absurd c_81 c_92
                · refine pe_iload d_Program_accepts_95 rfl ?_
                  refine pe_i2l d_Program_accepts_97 ?_
                  refine pe_goto (tgt := 107) d_Program_accepts_98 (by decide) ?_
                  refine pe_lstore d_Program_accepts_107 (by decide) rfl ?_
                  dsimp only [List.set]
                  refine pe_aload_n d_Program_accepts_109 rfl ?_
                  refine pe_lload d_Program_accepts_110 rfl ?_
                  -- 112: Frame_hasByte
                  refine pe_callV d_Program_accepts_112 m_Program_42 j_Frame_hasByte v_Frame_hasByte (c_Frame_hasByte hr _) rfl rfl (by simp [Value.category]) (by decide) hFO rfl rfl ?_
                  intro v1 h1 z1 hq1
                  obtain ⟨rfl, rfl, rfl⟩ := hq1
                  change pz_E _ _ _ _ _ _ _ _ _ (_ :: _) _ _ _
                  refine pe_if_ne (tgt := 120) d_Program_accepts_115 (by decide) (fun c_115 => ?_) (fun c_115 => ?_)
                  · have c_115 := pb_n0.mp c_115
                    obtain ⟨q, hq, hqe, hpe⟩ := inb_spec hfl (show inb _ fl = true from c_115)
                    refine pe_aload_n d_Program_accepts_120 rfl ?_
                    refine pe_lload d_Program_accepts_121 rfl ?_
                    refine pe_l2i d_Program_accepts_123 ?_
                    rw [hpe]
                    -- 124: Frame_byteAt
                    refine pe_callV d_Program_accepts_124 m_Program_48 j_Frame_byteAt v_Frame_byteAt (c_Frame_byteAt hr (q := q) (by omega)) rfl rfl (by simp [Value.category]) (by decide) hFO rfl rfl ?_
                    intro v1 h1 z1 hq1
                    obtain ⟨rfl, rfl, rfl⟩ := hq1
                    change pz_E _ _ _ _ _ _ _ _ _ (_ :: _) _ _ _
                    refine pe_istore_n d_Program_accepts_127 (by decide) rfl ?_
                    dsimp only [List.set]
                    refine pe_goto (tgt := 165) d_Program_accepts_128 (by decide) ?_
                    exact tail c_48 c_66 _ _ _ (by unfold stp; rw [if_pos c_81, if_pos (show inb _ fl = true from c_115), hpe, nI_clamp (by omega)])
                  · have c_115 := pb_0.mp c_115
                    refine pe_iconst (v := nI 0) d_Program_accepts_118 (by decide) ?_
                    refine pe_zret d_Program_accepts_119 rfl (by decide) ?_
                    exact ⟨by rw [acc_n hs hi c_48 c_66 (by unfold stp; rw [if_pos c_81, if_neg (by rw [show inb _ fl = false from c_115]; decide)])]; rfl, rfl, rfl⟩
              · refine pe_iload d_Program_accepts_84 rfl ?_
                refine pe_iconst (v := nI 1) d_Program_accepts_86 (by decide) ?_
                refine pe_icmp_ne (tgt := 131) d_Program_accepts_87 (by decide) (fun c_87 => ?_) (fun c_87 => ?_)
                · refine pe_iload d_Program_accepts_131 rfl ?_
                  refine pe_iconst (v := nI 2) d_Program_accepts_133 (by decide) ?_
                  refine pe_icmp_ne (tgt := 145) d_Program_accepts_134 (by decide) (fun c_134 => ?_) (fun c_134 => ?_)
                  · refine pe_iload d_Program_accepts_145 rfl ?_
                    refine pe_iconst (v := nI 3) d_Program_accepts_147 (by decide) ?_
                    refine pe_icmp_ne (tgt := 156) d_Program_accepts_148 (by decide) (fun c_148 => ?_) (fun c_148 => ?_)
                    · refine pe_iload d_Program_accepts_156 rfl ?_
                      refine pe_iload_n d_Program_accepts_158 rfl ?_
                      refine pe_iload d_Program_accepts_159 rfl ?_
                      -- 161: Program_reckon
                      refine pe_callS d_Program_accepts_161 m_Program_53 s_Program_reckon (c_Program_reckon _ _ _) rfl rfl (by simp [Value.category]) (by decide) ?_
                      intro v1 h1 z1 hq1
                      obtain ⟨rfl, rfl, rfl⟩ := hq1
                      change pz_E _ _ _ _ _ _ _ _ _ (_ :: _) _ _ _
                      refine pe_istore_n d_Program_accepts_164 (by decide) rfl ?_
                      dsimp only [List.set]
                      exact tail c_48 c_66 _ _ _ (by exact stp_rck c_81 c_87 c_134 c_148)
                    · refine pe_iload_n d_Program_accepts_151 rfl ?_
                      refine pe_istore_n d_Program_accepts_152 (by decide) rfl ?_
                      dsimp only [List.set]
                      refine pe_goto (tgt := 165) d_Program_accepts_153 (by decide) ?_
                      exact tail c_48 c_66 _ _ _ (by unfold stp; rw [if_neg c_81, if_neg c_87, if_neg c_134, if_pos c_148])
                  · refine pe_aload_n d_Program_accepts_137 rfl ?_
                    refine pe_getf d_Program_accepts_138 f_Program_52 hFO rfl ?_
                    refine pe_istore_n d_Program_accepts_141 (by decide) rfl ?_
                    dsimp only [List.set]
                    refine pe_goto (tgt := 165) d_Program_accepts_142 (by decide) ?_
                    exact tail c_48 c_66 _ _ _ (by unfold stp; rw [if_neg c_81, if_neg c_87, if_pos c_134])
                · refine pe_iload d_Program_accepts_90 rfl ?_
                  refine pe_if_ne (tgt := 101) d_Program_accepts_92 (by decide) (fun c_92 => ?_) (fun c_92 => ?_)
                  · refine pe_iload_n d_Program_accepts_101 rfl ?_
                    refine pe_i2l d_Program_accepts_102 ?_
                    refine pe_iload d_Program_accepts_103 rfl ?_
                    refine pe_i2l d_Program_accepts_105 ?_
                    refine pe_ladd d_Program_accepts_106 ?_
                    refine pe_lstore d_Program_accepts_107 (by decide) rfl ?_
                    dsimp only [List.set]
                    refine pe_aload_n d_Program_accepts_109 rfl ?_
                    refine pe_lload d_Program_accepts_110 rfl ?_
                    -- 112: Frame_hasByte
                    refine pe_callV d_Program_accepts_112 m_Program_42 j_Frame_hasByte v_Frame_hasByte (c_Frame_hasByte hr _) rfl rfl (by simp [Value.category]) (by decide) hFO rfl rfl ?_
                    intro v1 h1 z1 hq1
                    obtain ⟨rfl, rfl, rfl⟩ := hq1
                    change pz_E _ _ _ _ _ _ _ _ _ (_ :: _) _ _ _
                    refine pe_if_ne (tgt := 120) d_Program_accepts_115 (by decide) (fun c_115 => ?_) (fun c_115 => ?_)
                    · have c_115 := pb_n0.mp c_115
                      obtain ⟨q, hq, hqe, hpe⟩ := inb_spec hfl (show inb _ fl = true from c_115)
                      refine pe_aload_n d_Program_accepts_120 rfl ?_
                      refine pe_lload d_Program_accepts_121 rfl ?_
                      refine pe_l2i d_Program_accepts_123 ?_
                      rw [hpe]
                      -- 124: Frame_byteAt
                      refine pe_callV d_Program_accepts_124 m_Program_48 j_Frame_byteAt v_Frame_byteAt (c_Frame_byteAt hr (q := q) (by omega)) rfl rfl (by simp [Value.category]) (by decide) hFO rfl rfl ?_
                      intro v1 h1 z1 hq1
                      obtain ⟨rfl, rfl, rfl⟩ := hq1
                      change pz_E _ _ _ _ _ _ _ _ _ (_ :: _) _ _ _
                      refine pe_istore_n d_Program_accepts_127 (by decide) rfl ?_
                      dsimp only [List.set]
                      refine pe_goto (tgt := 165) d_Program_accepts_128 (by decide) ?_
                      exact tail c_48 c_66 _ _ _ (by unfold stp; rw [if_neg c_81, if_pos c_87, if_pos (show inb _ fl = true from c_115), hpe, nI_clamp (by omega)])
                    · have c_115 := pb_0.mp c_115
                      refine pe_iconst (v := nI 0) d_Program_accepts_118 (by decide) ?_
                      refine pe_zret d_Program_accepts_119 rfl (by decide) ?_
                      exact ⟨by rw [acc_n hs hi c_48 c_66 (by unfold stp; rw [if_neg c_81, if_pos c_87, if_neg (by rw [show inb _ fl = false from c_115]; decide)])]; rfl, rfl, rfl⟩
                  · exact absurd c_92 c_81
            · refine pe_iload_n d_Program_accepts_69 rfl ?_
              refine pe_if_eq (tgt := 77) d_Program_accepts_70 (by decide) (fun c_70 => ?_) (fun c_70 => ?_)
              · refine pe_iconst (v := nI 0) d_Program_accepts_77 (by decide) ?_
                refine pe_zret d_Program_accepts_78 rfl (by decide) ?_
                exact ⟨by rw [acc_11 hs hi c_48 c_66, show (!decide (A = 0)) = false from by simp [c_70]]; rfl, rfl, rfl⟩
              · refine pe_iconst (v := nI 1) d_Program_accepts_73 (by decide) ?_
                refine pe_goto (tgt := 78) d_Program_accepts_74 (by decide) ?_
                refine pe_zret d_Program_accepts_78 rfl (by decide) ?_
                exact ⟨by rw [acc_11 hs hi c_48 c_66, show (!decide (A = 0)) = true from by simp [c_70]]; rfl, rfl, rfl⟩
          · refine pe_iload d_Program_accepts_51 rfl ?_
            refine pe_if_eq (tgt := 60) d_Program_accepts_53 (by decide) (fun c_53 => ?_) (fun c_53 => ?_)
            · refine pe_iconst (v := nI 0) d_Program_accepts_60 (by decide) ?_
              refine pe_zret d_Program_accepts_61 rfl (by decide) ?_
              exact ⟨by rw [acc_10 hs hi c_48, show (!decide (go i = 0)) = false from by simp [c_53]]; rfl, rfl, rfl⟩
            · refine pe_iconst (v := nI 1) d_Program_accepts_56 (by decide) ?_
              refine pe_goto (tgt := 61) d_Program_accepts_57 (by decide) ?_
              refine pe_zret d_Program_accepts_61 rfl (by decide) ?_
              exact ⟨by rw [acc_10 hs hi c_48, show (!decide (go i = 0)) = true from by simp [c_53]]; rfl, rfl, rfl⟩
  change pz_E l L xs M_Program_accepts 1 0 0 0 [some (.ref a), some (.ref b), none, none, none, none, none, none, none, none] [] h z _
  refine pe_iconst (v := nI 0) d_Program_accepts_0 (by decide) ?_
  refine pe_istore_n d_Program_accepts_1 (by decide) rfl ?_
  dsimp only [List.set]
  refine pe_iconst (v := nI 0) d_Program_accepts_2 (by decide) ?_
  refine pe_istore_n d_Program_accepts_3 (by decide) rfl ?_
  dsimp only [List.set]
  refine pe_iconst (v := nI 0) d_Program_accepts_4 (by decide) ?_
  refine pe_istore d_Program_accepts_5 (by decide) rfl ?_
  dsimp only [List.set]
  refine pe_iconst (v := nI 0) d_Program_accepts_7 (by decide) ?_
  refine pe_istore d_Program_accepts_8 (by decide) rfl ?_
  dsimp only [List.set]
  exact loop 17 0 0 (nI 0) (nI 0) (by omega) (by omega) (by omega)
