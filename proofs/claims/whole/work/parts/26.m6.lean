/-! the reference: contracts of BindingKernelModel, sixth part: the run of a filter, arrive -/
set_option maxHeartbeats 4000000 in
set_option maxRecDepth 20000 in
theorem c_Mo_plain_f {l : Launch} {L : Nat} {xs : Nat → Int32} {h : pz_H} {z : Nat} {np nb now tkg lst flt byt : Nat} {sa sx : Int32} (hMo : MOB h np nb now tkg lst flt byt sa sx) (hnp : np ≤ 32) (hnb : nb ≤ 32) {Mfm : Nat → Int32} (hFm : AI h 181 16 Mfm) (hb16 : byt ≤ 16) {fb : Nat → Int32} (hfb : ∀ q, q < byt → Mfm q = fb q) {c0 : Nat} (hc0 : c0 ≤ 6) (k : Int32) (hs : stp fb byt (nI c0) k sa sx = none) : pz_K l L xs M_Mo_plain 0 0 0 [.ref 166, .int (nI c0), .int k] h z (fun v h' z' => v = some (.int (pb false)) ∧ h = h' ∧ z = z') := by
  refine pz_K.of rfl (Nat.le_of_ble_eq_true rfl) ?_
  match c0, hc0, hs with
  | 0, _, hs =>
    have hs : (if inb k.toInt64 byt = true then some (fb k.toInt64.toInt32.toNatClampNeg, sx) else none) = none := hs
    have hinb : inb k.toInt64 byt = false := by
      rcases Bool.eq_false_or_eq_true (inb k.toInt64 byt) with q | q
      · rw [if_pos q] at hs; cases hs
      · exact q
    change pz_E l L xs M_Mo_plain 0 0 0 0 [some (.ref 166), some (.int (nI 0)), some (.int k), none, none] [] h z _
    refine pe_iload_n d_Mo_plain_0 rfl ?_
    refine pe_if_ne (tgt := 9) d_Mo_plain_1 (by decide) (fun c_1 => ?_) (fun c_1 => ?_)
    · first | (exfalso; omega) | exact absurd c_1 (by decide) | exact absurd (by decide) c_1
    · refine pe_iload_n d_Mo_plain_4 rfl ?_
      refine pe_i2l d_Mo_plain_5 ?_
      refine pe_goto (tgt := 17) d_Mo_plain_6 (by decide) ?_
      refine pe_lstore_n d_Mo_plain_17 (by decide) rfl ?_
      dsimp only [List.set]
      refine pe_iload_n d_Mo_plain_18 rfl ?_
      refine pe_iconst (v := nI 2) d_Mo_plain_19 (by decide) ?_
      refine pe_icmpN_ge (tgt := 41) d_Mo_plain_20 (by decide) (by omega) (by omega) (fun c_20 => ?_) (fun c_20 => ?_)
      · first | (exfalso; omega) | exact absurd c_20 (by decide) | exact absurd (by decide) c_20
      · refine pe_lload_n d_Mo_plain_23 rfl ?_
        refine pe_lconst (v := 0) d_Mo_plain_24 (by decide) ?_
        refine pe_lcmp d_Mo_plain_25 ?_
        refine pe_if_lt (tgt := 39) d_Mo_plain_26 (by decide) (fun c_26 => ?_) (fun c_26 => ?_)
        · refine pe_iconst (v := nI 0) d_Mo_plain_39 (by decide) ?_
          refine pe_zret d_Mo_plain_40 rfl (by decide) ?_
          exact ⟨rfl, rfl, rfl⟩
        · refine pe_lload_n d_Mo_plain_29 rfl ?_
          refine pe_aload_n d_Mo_plain_30 rfl ?_
          refine pe_getf d_Mo_plain_31 f_Mo_66 hMo rfl ?_
          refine pe_i2l d_Mo_plain_34 ?_
          refine pe_lcmp d_Mo_plain_35 ?_
          refine pe_if_lt (tgt := 41) d_Mo_plain_36 (by decide) (fun c_36 => ?_) (fun c_36 => ?_)
          · exact absurd (show inb k.toInt64 byt = true from decide_eq_true ⟨c_26, Int32.not_le.mpr c_36⟩) (by rw [hinb]; decide)
          · refine pe_iconst (v := nI 0) d_Mo_plain_39 (by decide) ?_
            refine pe_zret d_Mo_plain_40 rfl (by decide) ?_
            exact ⟨rfl, rfl, rfl⟩
  | 1, _, hs =>
    have hs : (if inb (sx.toInt64 + k.toInt64) byt = true then some (fb (sx.toInt64 + k.toInt64).toInt32.toNatClampNeg, sx) else none) = none := hs
    have hinb : inb (sx.toInt64 + k.toInt64) byt = false := by
      rcases Bool.eq_false_or_eq_true (inb (sx.toInt64 + k.toInt64) byt) with q | q
      · rw [if_pos q] at hs; cases hs
      · exact q
    change pz_E l L xs M_Mo_plain 0 0 0 0 [some (.ref 166), some (.int (nI 1)), some (.int k), none, none] [] h z _
    refine pe_iload_n d_Mo_plain_0 rfl ?_
    refine pe_if_ne (tgt := 9) d_Mo_plain_1 (by decide) (fun c_1 => ?_) (fun c_1 => ?_)
    · refine pe_aload_n d_Mo_plain_9 rfl ?_
      refine pe_getf d_Mo_plain_10 f_Mo_84 hMo rfl ?_
      refine pe_i2l d_Mo_plain_13 ?_
      refine pe_iload_n d_Mo_plain_14 rfl ?_
      refine pe_i2l d_Mo_plain_15 ?_
      refine pe_ladd d_Mo_plain_16 ?_
      refine pe_lstore_n d_Mo_plain_17 (by decide) rfl ?_
      dsimp only [List.set]
      refine pe_iload_n d_Mo_plain_18 rfl ?_
      refine pe_iconst (v := nI 2) d_Mo_plain_19 (by decide) ?_
      refine pe_icmpN_ge (tgt := 41) d_Mo_plain_20 (by decide) (by omega) (by omega) (fun c_20 => ?_) (fun c_20 => ?_)
      · first | (exfalso; omega) | exact absurd c_20 (by decide) | exact absurd (by decide) c_20
      · refine pe_lload_n d_Mo_plain_23 rfl ?_
        refine pe_lconst (v := 0) d_Mo_plain_24 (by decide) ?_
        refine pe_lcmp d_Mo_plain_25 ?_
        refine pe_if_lt (tgt := 39) d_Mo_plain_26 (by decide) (fun c_26 => ?_) (fun c_26 => ?_)
        · refine pe_iconst (v := nI 0) d_Mo_plain_39 (by decide) ?_
          refine pe_zret d_Mo_plain_40 rfl (by decide) ?_
          exact ⟨rfl, rfl, rfl⟩
        · refine pe_lload_n d_Mo_plain_29 rfl ?_
          refine pe_aload_n d_Mo_plain_30 rfl ?_
          refine pe_getf d_Mo_plain_31 f_Mo_66 hMo rfl ?_
          refine pe_i2l d_Mo_plain_34 ?_
          refine pe_lcmp d_Mo_plain_35 ?_
          refine pe_if_lt (tgt := 41) d_Mo_plain_36 (by decide) (fun c_36 => ?_) (fun c_36 => ?_)
          · exact absurd (show inb (sx.toInt64 + k.toInt64) byt = true from decide_eq_true ⟨c_26, Int32.not_le.mpr c_36⟩) (by rw [hinb]; decide)
          · refine pe_iconst (v := nI 0) d_Mo_plain_39 (by decide) ?_
            refine pe_zret d_Mo_plain_40 rfl (by decide) ?_
            exact ⟨rfl, rfl, rfl⟩
    · first | (exfalso; omega) | exact absurd c_1 (by decide) | exact absurd (by decide) c_1
  | 2, _, hs => cases hs
  | 3, _, hs => cases hs
  | 4, _, hs => cases hs
  | 5, _, hs => cases hs
  | 6, _, hs => cases hs
set_option maxHeartbeats 4000000 in
set_option maxRecDepth 20000 in
theorem c_Mo_plain_t {l : Launch} {L : Nat} {xs : Nat → Int32} {h : pz_H} {z : Nat} {np nb now tkg lst flt byt : Nat} {sa sx : Int32} (hMo : MOB h np nb now tkg lst flt byt sa sx) (hnp : np ≤ 32) (hnb : nb ≤ 32) {Mfm : Nat → Int32} (hFm : AI h 181 16 Mfm) (hb16 : byt ≤ 16) {fb : Nat → Int32} (hfb : ∀ q, q < byt → Mfm q = fb q) {c0 : Nat} (hc0 : c0 ≤ 6) (k : Int32) {A9 X9 : Int32} (hs : stp fb byt (nI c0) k sa sx = some (A9, X9)) : pz_K l L xs M_Mo_plain 0 0 0 [.ref 166, .int (nI c0), .int k] h z (fun v h' z' => v = some (.int (pb true)) ∧ z = z' ∧ MOB h' np nb now tkg lst flt byt A9 X9 ∧ frx [166] h h') := by
  refine pz_K.of rfl (Nat.le_of_ble_eq_true rfl) ?_
  have hf : frx [166] h h := frx.rf
  match c0, hc0, hs with
  | 0, _, hs =>
    have hs : (if inb k.toInt64 byt = true then some (fb k.toInt64.toInt32.toNatClampNeg, sx) else none) = some (A9, X9) := hs
    have hinb : inb k.toInt64 byt = true := by
      rcases Bool.eq_false_or_eq_true (inb k.toInt64 byt) with q | q
      · exact q
      · rw [if_neg (by rw [q]; decide)] at hs; cases hs
    rw [if_pos hinb] at hs
    cases hs
    obtain ⟨q, hq, hy, hy2⟩ := inb_spec hb16 hinb
    change pz_E l L xs M_Mo_plain 0 0 0 0 [some (.ref 166), some (.int (nI 0)), some (.int k), none, none] [] h z _
    refine pe_iload_n d_Mo_plain_0 rfl ?_
    refine pe_if_ne (tgt := 9) d_Mo_plain_1 (by decide) (fun c_1 => ?_) (fun c_1 => ?_)
    · first | (exfalso; omega) | exact absurd c_1 (by decide) | exact absurd (by decide) c_1
    · refine pe_iload_n d_Mo_plain_4 rfl ?_
      refine pe_i2l d_Mo_plain_5 ?_
      refine pe_goto (tgt := 17) d_Mo_plain_6 (by decide) ?_
      refine pe_lstore_n d_Mo_plain_17 (by decide) rfl ?_
      dsimp only [List.set]
      refine pe_iload_n d_Mo_plain_18 rfl ?_
      refine pe_iconst (v := nI 2) d_Mo_plain_19 (by decide) ?_
      refine pe_icmpN_ge (tgt := 41) d_Mo_plain_20 (by decide) (by omega) (by omega) (fun c_20 => ?_) (fun c_20 => ?_)
      · first | (exfalso; omega) | exact absurd c_20 (by decide) | exact absurd (by decide) c_20
      · refine pe_lload_n d_Mo_plain_23 rfl ?_
        refine pe_lconst (v := 0) d_Mo_plain_24 (by decide) ?_
        refine pe_lcmp d_Mo_plain_25 ?_
        refine pe_if_lt (tgt := 39) d_Mo_plain_26 (by decide) (fun c_26 => ?_) (fun c_26 => ?_)
        · exact absurd c_26 (of_decide_eq_true hinb).1
        · refine pe_lload_n d_Mo_plain_29 rfl ?_
          refine pe_aload_n d_Mo_plain_30 rfl ?_
          refine pe_getf d_Mo_plain_31 f_Mo_66 hMo rfl ?_
          refine pe_i2l d_Mo_plain_34 ?_
          refine pe_lcmp d_Mo_plain_35 ?_
          refine pe_if_lt (tgt := 41) d_Mo_plain_36 (by decide) (fun c_36 => ?_) (fun c_36 => ?_)
          · refine pe_iload_n d_Mo_plain_41 rfl ?_
            refine pe_iconst (v := nI 2) d_Mo_plain_42 (by decide) ?_
            refine pe_icmpN_ge (tgt := 57) d_Mo_plain_43 (by decide) (by omega) (by omega) (fun c_43 => ?_) (fun c_43 => ?_)
            · first | (exfalso; omega) | exact absurd c_43 (by decide) | exact absurd (by decide) c_43
            · refine pe_aload_n d_Mo_plain_46 rfl ?_
              refine pe_aload_n d_Mo_plain_47 rfl ?_
              refine pe_getf d_Mo_plain_48 f_Mo_69 hMo rfl ?_
              refine pe_lload_n d_Mo_plain_51 rfl ?_
              refine pe_l2i d_Mo_plain_52 ?_
              refine pe_top (y := .int (nI q)) (by rw [hy2]) ?_
              refine pe_ialdN d_Mo_plain_53 hFm (by omega) (by omega) ?_
              refine pe_put d_Mo_plain_54 g_Mo_81 hMo (Nat.le_of_ble_eq_true rfl) rfl ?_
              refine pe_pu (fun h2 e2 o2 => ?_)
              have hMo := e2
              have hFm := (o2 (181) (by omega)).trans hFm
              have hf := hf.st o2 (by decide)
              refine pe_iload_n d_Mo_plain_57 rfl ?_
              refine pe_iconst (v := nI 2) d_Mo_plain_58 (by decide) ?_
              refine pe_icmpN_ne (tgt := 70) d_Mo_plain_59 (by decide) (by omega) (by omega) (fun c_59 => ?_) (fun c_59 => ?_)
              · refine pe_iload_n d_Mo_plain_70 rfl ?_
                refine pe_iconst (v := nI 3) d_Mo_plain_71 (by decide) ?_
                refine pe_icmpN_ne (tgt := 83) d_Mo_plain_72 (by decide) (by omega) (by omega) (fun c_72 => ?_) (fun c_72 => ?_)
                · refine pe_iload_n d_Mo_plain_83 rfl ?_
                  refine pe_iconst (v := nI 4) d_Mo_plain_84 (by decide) ?_
                  refine pe_icmpN_ne (tgt := 98) d_Mo_plain_85 (by decide) (by omega) (by omega) (fun c_85 => ?_) (fun c_85 => ?_)
                  · refine pe_iload_n d_Mo_plain_98 rfl ?_
                    refine pe_iconst (v := nI 5) d_Mo_plain_99 (by decide) ?_
                    refine pe_icmpN_ne (tgt := 113) d_Mo_plain_100 (by decide) (by omega) (by omega) (fun c_100 => ?_) (fun c_100 => ?_)
                    · refine pe_iload_n d_Mo_plain_113 rfl ?_
                      refine pe_bipush (v := nI 6) d_Mo_plain_114 (by decide) ?_
                      refine pe_icmpN_ne (tgt := 129) d_Mo_plain_116 (by decide) (by omega) (by omega) (fun c_116 => ?_) (fun c_116 => ?_)
                      · refine pe_iconst (v := nI 1) d_Mo_plain_129 (by decide) ?_
                        refine pe_zret d_Mo_plain_130 rfl (by decide) ?_
                        exact ⟨rfl, rfl, by rw [hy2, nI_clamp (by omega), ← hfb q hq]; exact hMo, hf⟩
                      · first | (exfalso; omega) | exact absurd c_116 (by decide) | exact absurd (by decide) c_116
                    · first | (exfalso; omega) | exact absurd c_100 (by decide) | exact absurd (by decide) c_100
                  · first | (exfalso; omega) | exact absurd c_85 (by decide) | exact absurd (by decide) c_85
                · first | (exfalso; omega) | exact absurd c_72 (by decide) | exact absurd (by decide) c_72
              · first | (exfalso; omega) | exact absurd c_59 (by decide) | exact absurd (by decide) c_59
          · exact absurd (Int32.not_lt.mp c_36) (of_decide_eq_true hinb).2
  | 1, _, hs =>
    have hs : (if inb (sx.toInt64 + k.toInt64) byt = true then some (fb (sx.toInt64 + k.toInt64).toInt32.toNatClampNeg, sx) else none) = some (A9, X9) := hs
    have hinb : inb (sx.toInt64 + k.toInt64) byt = true := by
      rcases Bool.eq_false_or_eq_true (inb (sx.toInt64 + k.toInt64) byt) with q | q
      · exact q
      · rw [if_neg (by rw [q]; decide)] at hs; cases hs
    rw [if_pos hinb] at hs
    cases hs
    obtain ⟨q, hq, hy, hy2⟩ := inb_spec hb16 hinb
    change pz_E l L xs M_Mo_plain 0 0 0 0 [some (.ref 166), some (.int (nI 1)), some (.int k), none, none] [] h z _
    refine pe_iload_n d_Mo_plain_0 rfl ?_
    refine pe_if_ne (tgt := 9) d_Mo_plain_1 (by decide) (fun c_1 => ?_) (fun c_1 => ?_)
    · refine pe_aload_n d_Mo_plain_9 rfl ?_
      refine pe_getf d_Mo_plain_10 f_Mo_84 hMo rfl ?_
      refine pe_i2l d_Mo_plain_13 ?_
      refine pe_iload_n d_Mo_plain_14 rfl ?_
      refine pe_i2l d_Mo_plain_15 ?_
      refine pe_ladd d_Mo_plain_16 ?_
      refine pe_lstore_n d_Mo_plain_17 (by decide) rfl ?_
      dsimp only [List.set]
      refine pe_iload_n d_Mo_plain_18 rfl ?_
      refine pe_iconst (v := nI 2) d_Mo_plain_19 (by decide) ?_
      refine pe_icmpN_ge (tgt := 41) d_Mo_plain_20 (by decide) (by omega) (by omega) (fun c_20 => ?_) (fun c_20 => ?_)
      · first | (exfalso; omega) | exact absurd c_20 (by decide) | exact absurd (by decide) c_20
      · refine pe_lload_n d_Mo_plain_23 rfl ?_
        refine pe_lconst (v := 0) d_Mo_plain_24 (by decide) ?_
        refine pe_lcmp d_Mo_plain_25 ?_
        refine pe_if_lt (tgt := 39) d_Mo_plain_26 (by decide) (fun c_26 => ?_) (fun c_26 => ?_)
        · exact absurd c_26 (of_decide_eq_true hinb).1
        · refine pe_lload_n d_Mo_plain_29 rfl ?_
          refine pe_aload_n d_Mo_plain_30 rfl ?_
          refine pe_getf d_Mo_plain_31 f_Mo_66 hMo rfl ?_
          refine pe_i2l d_Mo_plain_34 ?_
          refine pe_lcmp d_Mo_plain_35 ?_
          refine pe_if_lt (tgt := 41) d_Mo_plain_36 (by decide) (fun c_36 => ?_) (fun c_36 => ?_)
          · refine pe_iload_n d_Mo_plain_41 rfl ?_
            refine pe_iconst (v := nI 2) d_Mo_plain_42 (by decide) ?_
            refine pe_icmpN_ge (tgt := 57) d_Mo_plain_43 (by decide) (by omega) (by omega) (fun c_43 => ?_) (fun c_43 => ?_)
            · first | (exfalso; omega) | exact absurd c_43 (by decide) | exact absurd (by decide) c_43
            · refine pe_aload_n d_Mo_plain_46 rfl ?_
              refine pe_aload_n d_Mo_plain_47 rfl ?_
              refine pe_getf d_Mo_plain_48 f_Mo_69 hMo rfl ?_
              refine pe_lload_n d_Mo_plain_51 rfl ?_
              refine pe_l2i d_Mo_plain_52 ?_
              refine pe_top (y := .int (nI q)) (by rw [hy2]) ?_
              refine pe_ialdN d_Mo_plain_53 hFm (by omega) (by omega) ?_
              refine pe_put d_Mo_plain_54 g_Mo_81 hMo (Nat.le_of_ble_eq_true rfl) rfl ?_
              refine pe_pu (fun h2 e2 o2 => ?_)
              have hMo := e2
              have hFm := (o2 (181) (by omega)).trans hFm
              have hf := hf.st o2 (by decide)
              refine pe_iload_n d_Mo_plain_57 rfl ?_
              refine pe_iconst (v := nI 2) d_Mo_plain_58 (by decide) ?_
              refine pe_icmpN_ne (tgt := 70) d_Mo_plain_59 (by decide) (by omega) (by omega) (fun c_59 => ?_) (fun c_59 => ?_)
              · refine pe_iload_n d_Mo_plain_70 rfl ?_
                refine pe_iconst (v := nI 3) d_Mo_plain_71 (by decide) ?_
                refine pe_icmpN_ne (tgt := 83) d_Mo_plain_72 (by decide) (by omega) (by omega) (fun c_72 => ?_) (fun c_72 => ?_)
                · refine pe_iload_n d_Mo_plain_83 rfl ?_
                  refine pe_iconst (v := nI 4) d_Mo_plain_84 (by decide) ?_
                  refine pe_icmpN_ne (tgt := 98) d_Mo_plain_85 (by decide) (by omega) (by omega) (fun c_85 => ?_) (fun c_85 => ?_)
                  · refine pe_iload_n d_Mo_plain_98 rfl ?_
                    refine pe_iconst (v := nI 5) d_Mo_plain_99 (by decide) ?_
                    refine pe_icmpN_ne (tgt := 113) d_Mo_plain_100 (by decide) (by omega) (by omega) (fun c_100 => ?_) (fun c_100 => ?_)
                    · refine pe_iload_n d_Mo_plain_113 rfl ?_
                      refine pe_bipush (v := nI 6) d_Mo_plain_114 (by decide) ?_
                      refine pe_icmpN_ne (tgt := 129) d_Mo_plain_116 (by decide) (by omega) (by omega) (fun c_116 => ?_) (fun c_116 => ?_)
                      · refine pe_iconst (v := nI 1) d_Mo_plain_129 (by decide) ?_
                        refine pe_zret d_Mo_plain_130 rfl (by decide) ?_
                        exact ⟨rfl, rfl, by rw [hy2, nI_clamp (by omega), ← hfb q hq]; exact hMo, hf⟩
                      · first | (exfalso; omega) | exact absurd c_116 (by decide) | exact absurd (by decide) c_116
                    · first | (exfalso; omega) | exact absurd c_100 (by decide) | exact absurd (by decide) c_100
                  · first | (exfalso; omega) | exact absurd c_85 (by decide) | exact absurd (by decide) c_85
                · first | (exfalso; omega) | exact absurd c_72 (by decide) | exact absurd (by decide) c_72
              · first | (exfalso; omega) | exact absurd c_59 (by decide) | exact absurd (by decide) c_59
          · exact absurd (Int32.not_lt.mp c_36) (of_decide_eq_true hinb).2
    · first | (exfalso; omega) | exact absurd c_1 (by decide) | exact absurd (by decide) c_1
  | 2, _, hs =>
    have hs : some (nI byt, sx) = some (A9, X9) := hs
    cases hs
    change pz_E l L xs M_Mo_plain 0 0 0 0 [some (.ref 166), some (.int (nI 2)), some (.int k), none, none] [] h z _
    refine pe_iload_n d_Mo_plain_0 rfl ?_
    refine pe_if_ne (tgt := 9) d_Mo_plain_1 (by decide) (fun c_1 => ?_) (fun c_1 => ?_)
    · refine pe_aload_n d_Mo_plain_9 rfl ?_
      refine pe_getf d_Mo_plain_10 f_Mo_84 hMo rfl ?_
      refine pe_i2l d_Mo_plain_13 ?_
      refine pe_iload_n d_Mo_plain_14 rfl ?_
      refine pe_i2l d_Mo_plain_15 ?_
      refine pe_ladd d_Mo_plain_16 ?_
      refine pe_lstore_n d_Mo_plain_17 (by decide) rfl ?_
      dsimp only [List.set]
      refine pe_iload_n d_Mo_plain_18 rfl ?_
      refine pe_iconst (v := nI 2) d_Mo_plain_19 (by decide) ?_
      refine pe_icmpN_ge (tgt := 41) d_Mo_plain_20 (by decide) (by omega) (by omega) (fun c_20 => ?_) (fun c_20 => ?_)
      · refine pe_iload_n d_Mo_plain_41 rfl ?_
        refine pe_iconst (v := nI 2) d_Mo_plain_42 (by decide) ?_
        refine pe_icmpN_ge (tgt := 57) d_Mo_plain_43 (by decide) (by omega) (by omega) (fun c_43 => ?_) (fun c_43 => ?_)
        · refine pe_iload_n d_Mo_plain_57 rfl ?_
          refine pe_iconst (v := nI 2) d_Mo_plain_58 (by decide) ?_
          refine pe_icmpN_ne (tgt := 70) d_Mo_plain_59 (by decide) (by omega) (by omega) (fun c_59 => ?_) (fun c_59 => ?_)
          · first | (exfalso; omega) | exact absurd c_59 (by decide) | exact absurd (by decide) c_59
          · refine pe_aload_n d_Mo_plain_62 rfl ?_
            refine pe_aload_n d_Mo_plain_63 rfl ?_
            refine pe_getf d_Mo_plain_64 f_Mo_66 hMo rfl ?_
            refine pe_put d_Mo_plain_67 g_Mo_81 hMo (Nat.le_of_ble_eq_true rfl) rfl ?_
            refine pe_pu (fun h2 e2 o2 => ?_)
            have hMo := e2
            have hFm := (o2 (181) (by omega)).trans hFm
            have hf := hf.st o2 (by decide)
            refine pe_iload_n d_Mo_plain_70 rfl ?_
            refine pe_iconst (v := nI 3) d_Mo_plain_71 (by decide) ?_
            refine pe_icmpN_ne (tgt := 83) d_Mo_plain_72 (by decide) (by omega) (by omega) (fun c_72 => ?_) (fun c_72 => ?_)
            · refine pe_iload_n d_Mo_plain_83 rfl ?_
              refine pe_iconst (v := nI 4) d_Mo_plain_84 (by decide) ?_
              refine pe_icmpN_ne (tgt := 98) d_Mo_plain_85 (by decide) (by omega) (by omega) (fun c_85 => ?_) (fun c_85 => ?_)
              · refine pe_iload_n d_Mo_plain_98 rfl ?_
                refine pe_iconst (v := nI 5) d_Mo_plain_99 (by decide) ?_
                refine pe_icmpN_ne (tgt := 113) d_Mo_plain_100 (by decide) (by omega) (by omega) (fun c_100 => ?_) (fun c_100 => ?_)
                · refine pe_iload_n d_Mo_plain_113 rfl ?_
                  refine pe_bipush (v := nI 6) d_Mo_plain_114 (by decide) ?_
                  refine pe_icmpN_ne (tgt := 129) d_Mo_plain_116 (by decide) (by omega) (by omega) (fun c_116 => ?_) (fun c_116 => ?_)
                  · refine pe_iconst (v := nI 1) d_Mo_plain_129 (by decide) ?_
                    refine pe_zret d_Mo_plain_130 rfl (by decide) ?_
                    exact ⟨rfl, rfl, hMo, hf⟩
                  · first | (exfalso; omega) | exact absurd c_116 (by decide) | exact absurd (by decide) c_116
                · first | (exfalso; omega) | exact absurd c_100 (by decide) | exact absurd (by decide) c_100
              · first | (exfalso; omega) | exact absurd c_85 (by decide) | exact absurd (by decide) c_85
            · first | (exfalso; omega) | exact absurd c_72 (by decide) | exact absurd (by decide) c_72
        · first | (exfalso; omega) | exact absurd c_43 (by decide) | exact absurd (by decide) c_43
      · first | (exfalso; omega) | exact absurd c_20 (by decide) | exact absurd (by decide) c_20
    · first | (exfalso; omega) | exact absurd c_1 (by decide) | exact absurd (by decide) c_1
  | 3, _, hs =>
    have hs : some (sa, sa) = some (A9, X9) := hs
    cases hs
    change pz_E l L xs M_Mo_plain 0 0 0 0 [some (.ref 166), some (.int (nI 3)), some (.int k), none, none] [] h z _
    refine pe_iload_n d_Mo_plain_0 rfl ?_
    refine pe_if_ne (tgt := 9) d_Mo_plain_1 (by decide) (fun c_1 => ?_) (fun c_1 => ?_)
    · refine pe_aload_n d_Mo_plain_9 rfl ?_
      refine pe_getf d_Mo_plain_10 f_Mo_84 hMo rfl ?_
      refine pe_i2l d_Mo_plain_13 ?_
      refine pe_iload_n d_Mo_plain_14 rfl ?_
      refine pe_i2l d_Mo_plain_15 ?_
      refine pe_ladd d_Mo_plain_16 ?_
      refine pe_lstore_n d_Mo_plain_17 (by decide) rfl ?_
      dsimp only [List.set]
      refine pe_iload_n d_Mo_plain_18 rfl ?_
      refine pe_iconst (v := nI 2) d_Mo_plain_19 (by decide) ?_
      refine pe_icmpN_ge (tgt := 41) d_Mo_plain_20 (by decide) (by omega) (by omega) (fun c_20 => ?_) (fun c_20 => ?_)
      · refine pe_iload_n d_Mo_plain_41 rfl ?_
        refine pe_iconst (v := nI 2) d_Mo_plain_42 (by decide) ?_
        refine pe_icmpN_ge (tgt := 57) d_Mo_plain_43 (by decide) (by omega) (by omega) (fun c_43 => ?_) (fun c_43 => ?_)
        · refine pe_iload_n d_Mo_plain_57 rfl ?_
          refine pe_iconst (v := nI 2) d_Mo_plain_58 (by decide) ?_
          refine pe_icmpN_ne (tgt := 70) d_Mo_plain_59 (by decide) (by omega) (by omega) (fun c_59 => ?_) (fun c_59 => ?_)
          · refine pe_iload_n d_Mo_plain_70 rfl ?_
            refine pe_iconst (v := nI 3) d_Mo_plain_71 (by decide) ?_
            refine pe_icmpN_ne (tgt := 83) d_Mo_plain_72 (by decide) (by omega) (by omega) (fun c_72 => ?_) (fun c_72 => ?_)
            · first | (exfalso; omega) | exact absurd c_72 (by decide) | exact absurd (by decide) c_72
            · refine pe_aload_n d_Mo_plain_75 rfl ?_
              refine pe_aload_n d_Mo_plain_76 rfl ?_
              refine pe_getf d_Mo_plain_77 f_Mo_81 hMo rfl ?_
              refine pe_put d_Mo_plain_80 g_Mo_84 hMo (Nat.le_of_ble_eq_true rfl) rfl ?_
              refine pe_pu (fun h2 e2 o2 => ?_)
              have hMo := e2
              have hFm := (o2 (181) (by omega)).trans hFm
              have hf := hf.st o2 (by decide)
              refine pe_iload_n d_Mo_plain_83 rfl ?_
              refine pe_iconst (v := nI 4) d_Mo_plain_84 (by decide) ?_
              refine pe_icmpN_ne (tgt := 98) d_Mo_plain_85 (by decide) (by omega) (by omega) (fun c_85 => ?_) (fun c_85 => ?_)
              · refine pe_iload_n d_Mo_plain_98 rfl ?_
                refine pe_iconst (v := nI 5) d_Mo_plain_99 (by decide) ?_
                refine pe_icmpN_ne (tgt := 113) d_Mo_plain_100 (by decide) (by omega) (by omega) (fun c_100 => ?_) (fun c_100 => ?_)
                · refine pe_iload_n d_Mo_plain_113 rfl ?_
                  refine pe_bipush (v := nI 6) d_Mo_plain_114 (by decide) ?_
                  refine pe_icmpN_ne (tgt := 129) d_Mo_plain_116 (by decide) (by omega) (by omega) (fun c_116 => ?_) (fun c_116 => ?_)
                  · refine pe_iconst (v := nI 1) d_Mo_plain_129 (by decide) ?_
                    refine pe_zret d_Mo_plain_130 rfl (by decide) ?_
                    exact ⟨rfl, rfl, hMo, hf⟩
                  · first | (exfalso; omega) | exact absurd c_116 (by decide) | exact absurd (by decide) c_116
                · first | (exfalso; omega) | exact absurd c_100 (by decide) | exact absurd (by decide) c_100
              · first | (exfalso; omega) | exact absurd c_85 (by decide) | exact absurd (by decide) c_85
          · first | (exfalso; omega) | exact absurd c_59 (by decide) | exact absurd (by decide) c_59
        · first | (exfalso; omega) | exact absurd c_43 (by decide) | exact absurd (by decide) c_43
      · first | (exfalso; omega) | exact absurd c_20 (by decide) | exact absurd (by decide) c_20
    · first | (exfalso; omega) | exact absurd c_1 (by decide) | exact absurd (by decide) c_1
  | 4, _, hs =>
    have hs : some (sa + k, sx) = some (A9, X9) := hs
    cases hs
    change pz_E l L xs M_Mo_plain 0 0 0 0 [some (.ref 166), some (.int (nI 4)), some (.int k), none, none] [] h z _
    refine pe_iload_n d_Mo_plain_0 rfl ?_
    refine pe_if_ne (tgt := 9) d_Mo_plain_1 (by decide) (fun c_1 => ?_) (fun c_1 => ?_)
    · refine pe_aload_n d_Mo_plain_9 rfl ?_
      refine pe_getf d_Mo_plain_10 f_Mo_84 hMo rfl ?_
      refine pe_i2l d_Mo_plain_13 ?_
      refine pe_iload_n d_Mo_plain_14 rfl ?_
      refine pe_i2l d_Mo_plain_15 ?_
      refine pe_ladd d_Mo_plain_16 ?_
      refine pe_lstore_n d_Mo_plain_17 (by decide) rfl ?_
      dsimp only [List.set]
      refine pe_iload_n d_Mo_plain_18 rfl ?_
      refine pe_iconst (v := nI 2) d_Mo_plain_19 (by decide) ?_
      refine pe_icmpN_ge (tgt := 41) d_Mo_plain_20 (by decide) (by omega) (by omega) (fun c_20 => ?_) (fun c_20 => ?_)
      · refine pe_iload_n d_Mo_plain_41 rfl ?_
        refine pe_iconst (v := nI 2) d_Mo_plain_42 (by decide) ?_
        refine pe_icmpN_ge (tgt := 57) d_Mo_plain_43 (by decide) (by omega) (by omega) (fun c_43 => ?_) (fun c_43 => ?_)
        · refine pe_iload_n d_Mo_plain_57 rfl ?_
          refine pe_iconst (v := nI 2) d_Mo_plain_58 (by decide) ?_
          refine pe_icmpN_ne (tgt := 70) d_Mo_plain_59 (by decide) (by omega) (by omega) (fun c_59 => ?_) (fun c_59 => ?_)
          · refine pe_iload_n d_Mo_plain_70 rfl ?_
            refine pe_iconst (v := nI 3) d_Mo_plain_71 (by decide) ?_
            refine pe_icmpN_ne (tgt := 83) d_Mo_plain_72 (by decide) (by omega) (by omega) (fun c_72 => ?_) (fun c_72 => ?_)
            · refine pe_iload_n d_Mo_plain_83 rfl ?_
              refine pe_iconst (v := nI 4) d_Mo_plain_84 (by decide) ?_
              refine pe_icmpN_ne (tgt := 98) d_Mo_plain_85 (by decide) (by omega) (by omega) (fun c_85 => ?_) (fun c_85 => ?_)
              · first | (exfalso; omega) | exact absurd c_85 (by decide) | exact absurd (by decide) c_85
              · refine pe_aload_n d_Mo_plain_88 rfl ?_
                refine pe_dup d_Mo_plain_89 rfl ?_
                refine pe_getf d_Mo_plain_90 f_Mo_81 hMo rfl ?_
                refine pe_iload_n d_Mo_plain_93 rfl ?_
                refine pe_iadd d_Mo_plain_94 ?_
                refine pe_put d_Mo_plain_95 g_Mo_81 hMo (Nat.le_of_ble_eq_true rfl) rfl ?_
                refine pe_pu (fun h2 e2 o2 => ?_)
                have hMo := e2
                have hFm := (o2 (181) (by omega)).trans hFm
                have hf := hf.st o2 (by decide)
                refine pe_iload_n d_Mo_plain_98 rfl ?_
                refine pe_iconst (v := nI 5) d_Mo_plain_99 (by decide) ?_
                refine pe_icmpN_ne (tgt := 113) d_Mo_plain_100 (by decide) (by omega) (by omega) (fun c_100 => ?_) (fun c_100 => ?_)
                · refine pe_iload_n d_Mo_plain_113 rfl ?_
                  refine pe_bipush (v := nI 6) d_Mo_plain_114 (by decide) ?_
                  refine pe_icmpN_ne (tgt := 129) d_Mo_plain_116 (by decide) (by omega) (by omega) (fun c_116 => ?_) (fun c_116 => ?_)
                  · refine pe_iconst (v := nI 1) d_Mo_plain_129 (by decide) ?_
                    refine pe_zret d_Mo_plain_130 rfl (by decide) ?_
                    exact ⟨rfl, rfl, hMo, hf⟩
                  · first | (exfalso; omega) | exact absurd c_116 (by decide) | exact absurd (by decide) c_116
                · first | (exfalso; omega) | exact absurd c_100 (by decide) | exact absurd (by decide) c_100
            · first | (exfalso; omega) | exact absurd c_72 (by decide) | exact absurd (by decide) c_72
          · first | (exfalso; omega) | exact absurd c_59 (by decide) | exact absurd (by decide) c_59
        · first | (exfalso; omega) | exact absurd c_43 (by decide) | exact absurd (by decide) c_43
      · first | (exfalso; omega) | exact absurd c_20 (by decide) | exact absurd (by decide) c_20
    · first | (exfalso; omega) | exact absurd c_1 (by decide) | exact absurd (by decide) c_1
  | 5, _, hs =>
    have hs : some (sa &&& k, sx) = some (A9, X9) := hs
    cases hs
    change pz_E l L xs M_Mo_plain 0 0 0 0 [some (.ref 166), some (.int (nI 5)), some (.int k), none, none] [] h z _
    refine pe_iload_n d_Mo_plain_0 rfl ?_
    refine pe_if_ne (tgt := 9) d_Mo_plain_1 (by decide) (fun c_1 => ?_) (fun c_1 => ?_)
    · refine pe_aload_n d_Mo_plain_9 rfl ?_
      refine pe_getf d_Mo_plain_10 f_Mo_84 hMo rfl ?_
      refine pe_i2l d_Mo_plain_13 ?_
      refine pe_iload_n d_Mo_plain_14 rfl ?_
      refine pe_i2l d_Mo_plain_15 ?_
      refine pe_ladd d_Mo_plain_16 ?_
      refine pe_lstore_n d_Mo_plain_17 (by decide) rfl ?_
      dsimp only [List.set]
      refine pe_iload_n d_Mo_plain_18 rfl ?_
      refine pe_iconst (v := nI 2) d_Mo_plain_19 (by decide) ?_
      refine pe_icmpN_ge (tgt := 41) d_Mo_plain_20 (by decide) (by omega) (by omega) (fun c_20 => ?_) (fun c_20 => ?_)
      · refine pe_iload_n d_Mo_plain_41 rfl ?_
        refine pe_iconst (v := nI 2) d_Mo_plain_42 (by decide) ?_
        refine pe_icmpN_ge (tgt := 57) d_Mo_plain_43 (by decide) (by omega) (by omega) (fun c_43 => ?_) (fun c_43 => ?_)
        · refine pe_iload_n d_Mo_plain_57 rfl ?_
          refine pe_iconst (v := nI 2) d_Mo_plain_58 (by decide) ?_
          refine pe_icmpN_ne (tgt := 70) d_Mo_plain_59 (by decide) (by omega) (by omega) (fun c_59 => ?_) (fun c_59 => ?_)
          · refine pe_iload_n d_Mo_plain_70 rfl ?_
            refine pe_iconst (v := nI 3) d_Mo_plain_71 (by decide) ?_
            refine pe_icmpN_ne (tgt := 83) d_Mo_plain_72 (by decide) (by omega) (by omega) (fun c_72 => ?_) (fun c_72 => ?_)
            · refine pe_iload_n d_Mo_plain_83 rfl ?_
              refine pe_iconst (v := nI 4) d_Mo_plain_84 (by decide) ?_
              refine pe_icmpN_ne (tgt := 98) d_Mo_plain_85 (by decide) (by omega) (by omega) (fun c_85 => ?_) (fun c_85 => ?_)
              · refine pe_iload_n d_Mo_plain_98 rfl ?_
                refine pe_iconst (v := nI 5) d_Mo_plain_99 (by decide) ?_
                refine pe_icmpN_ne (tgt := 113) d_Mo_plain_100 (by decide) (by omega) (by omega) (fun c_100 => ?_) (fun c_100 => ?_)
                · first | (exfalso; omega) | exact absurd c_100 (by decide) | exact absurd (by decide) c_100
                · refine pe_aload_n d_Mo_plain_103 rfl ?_
                  refine pe_dup d_Mo_plain_104 rfl ?_
                  refine pe_getf d_Mo_plain_105 f_Mo_81 hMo rfl ?_
                  refine pe_iload_n d_Mo_plain_108 rfl ?_
                  refine pe_iand d_Mo_plain_109 ?_
                  refine pe_put d_Mo_plain_110 g_Mo_81 hMo (Nat.le_of_ble_eq_true rfl) rfl ?_
                  refine pe_pu (fun h2 e2 o2 => ?_)
                  have hMo := e2
                  have hFm := (o2 (181) (by omega)).trans hFm
                  have hf := hf.st o2 (by decide)
                  refine pe_iload_n d_Mo_plain_113 rfl ?_
                  refine pe_bipush (v := nI 6) d_Mo_plain_114 (by decide) ?_
                  refine pe_icmpN_ne (tgt := 129) d_Mo_plain_116 (by decide) (by omega) (by omega) (fun c_116 => ?_) (fun c_116 => ?_)
                  · refine pe_iconst (v := nI 1) d_Mo_plain_129 (by decide) ?_
                    refine pe_zret d_Mo_plain_130 rfl (by decide) ?_
                    exact ⟨rfl, rfl, hMo, hf⟩
                  · first | (exfalso; omega) | exact absurd c_116 (by decide) | exact absurd (by decide) c_116
              · first | (exfalso; omega) | exact absurd c_85 (by decide) | exact absurd (by decide) c_85
            · first | (exfalso; omega) | exact absurd c_72 (by decide) | exact absurd (by decide) c_72
          · first | (exfalso; omega) | exact absurd c_59 (by decide) | exact absurd (by decide) c_59
        · first | (exfalso; omega) | exact absurd c_43 (by decide) | exact absurd (by decide) c_43
      · first | (exfalso; omega) | exact absurd c_20 (by decide) | exact absurd (by decide) c_20
    · first | (exfalso; omega) | exact absurd c_1 (by decide) | exact absurd (by decide) c_1
  | 6, _, hs =>
    have hs : some ((sa.toUInt32 >>> (k.toUInt32 &&& Int32.toUInt32 31)).toInt32, sx) = some (A9, X9) := hs
    cases hs
    change pz_E l L xs M_Mo_plain 0 0 0 0 [some (.ref 166), some (.int (nI 6)), some (.int k), none, none] [] h z _
    refine pe_iload_n d_Mo_plain_0 rfl ?_
    refine pe_if_ne (tgt := 9) d_Mo_plain_1 (by decide) (fun c_1 => ?_) (fun c_1 => ?_)
    · refine pe_aload_n d_Mo_plain_9 rfl ?_
      refine pe_getf d_Mo_plain_10 f_Mo_84 hMo rfl ?_
      refine pe_i2l d_Mo_plain_13 ?_
      refine pe_iload_n d_Mo_plain_14 rfl ?_
      refine pe_i2l d_Mo_plain_15 ?_
      refine pe_ladd d_Mo_plain_16 ?_
      refine pe_lstore_n d_Mo_plain_17 (by decide) rfl ?_
      dsimp only [List.set]
      refine pe_iload_n d_Mo_plain_18 rfl ?_
      refine pe_iconst (v := nI 2) d_Mo_plain_19 (by decide) ?_
      refine pe_icmpN_ge (tgt := 41) d_Mo_plain_20 (by decide) (by omega) (by omega) (fun c_20 => ?_) (fun c_20 => ?_)
      · refine pe_iload_n d_Mo_plain_41 rfl ?_
        refine pe_iconst (v := nI 2) d_Mo_plain_42 (by decide) ?_
        refine pe_icmpN_ge (tgt := 57) d_Mo_plain_43 (by decide) (by omega) (by omega) (fun c_43 => ?_) (fun c_43 => ?_)
        · refine pe_iload_n d_Mo_plain_57 rfl ?_
          refine pe_iconst (v := nI 2) d_Mo_plain_58 (by decide) ?_
          refine pe_icmpN_ne (tgt := 70) d_Mo_plain_59 (by decide) (by omega) (by omega) (fun c_59 => ?_) (fun c_59 => ?_)
          · refine pe_iload_n d_Mo_plain_70 rfl ?_
            refine pe_iconst (v := nI 3) d_Mo_plain_71 (by decide) ?_
            refine pe_icmpN_ne (tgt := 83) d_Mo_plain_72 (by decide) (by omega) (by omega) (fun c_72 => ?_) (fun c_72 => ?_)
            · refine pe_iload_n d_Mo_plain_83 rfl ?_
              refine pe_iconst (v := nI 4) d_Mo_plain_84 (by decide) ?_
              refine pe_icmpN_ne (tgt := 98) d_Mo_plain_85 (by decide) (by omega) (by omega) (fun c_85 => ?_) (fun c_85 => ?_)
              · refine pe_iload_n d_Mo_plain_98 rfl ?_
                refine pe_iconst (v := nI 5) d_Mo_plain_99 (by decide) ?_
                refine pe_icmpN_ne (tgt := 113) d_Mo_plain_100 (by decide) (by omega) (by omega) (fun c_100 => ?_) (fun c_100 => ?_)
                · refine pe_iload_n d_Mo_plain_113 rfl ?_
                  refine pe_bipush (v := nI 6) d_Mo_plain_114 (by decide) ?_
                  refine pe_icmpN_ne (tgt := 129) d_Mo_plain_116 (by decide) (by omega) (by omega) (fun c_116 => ?_) (fun c_116 => ?_)
                  · first | (exfalso; omega) | exact absurd c_116 (by decide) | exact absurd (by decide) c_116
                  · refine pe_aload_n d_Mo_plain_119 rfl ?_
                    refine pe_dup d_Mo_plain_120 rfl ?_
                    refine pe_getf d_Mo_plain_121 f_Mo_81 hMo rfl ?_
                    refine pe_iload_n d_Mo_plain_124 rfl ?_
                    refine pe_iushr d_Mo_plain_125 rfl ?_
                    refine pe_put d_Mo_plain_126 g_Mo_81 hMo (Nat.le_of_ble_eq_true rfl) rfl ?_
                    refine pe_pu (fun h2 e2 o2 => ?_)
                    have hMo := e2
                    have hFm := (o2 (181) (by omega)).trans hFm
                    have hf := hf.st o2 (by decide)
                    refine pe_iconst (v := nI 1) d_Mo_plain_129 (by decide) ?_
                    refine pe_zret d_Mo_plain_130 rfl (by decide) ?_
                    exact ⟨rfl, rfl, hMo, hf⟩
                · first | (exfalso; omega) | exact absurd c_100 (by decide) | exact absurd (by decide) c_100
              · first | (exfalso; omega) | exact absurd c_85 (by decide) | exact absurd (by decide) c_85
            · first | (exfalso; omega) | exact absurd c_72 (by decide) | exact absurd (by decide) c_72
          · first | (exfalso; omega) | exact absurd c_59 (by decide) | exact absurd (by decide) c_59
        · first | (exfalso; omega) | exact absurd c_43 (by decide) | exact absurd (by decide) c_43
      · first | (exfalso; omega) | exact absurd c_20 (by decide) | exact absurd (by decide) c_20
    · first | (exfalso; omega) | exact absurd c_1 (by decide) | exact absurd (by decide) c_1
theorem hld_lo {c : Nat} (h : c ≤ 6) (A k : Int32) : hld (nI c) A k = false := by
  unfold hld
  rw [if_neg (fun q => absurd (nI_inj (by omega) (by omega) q) (by omega)), if_neg (fun q => absurd (nI_inj (by omega) (by omega) q) (by omega)), if_neg (fun q => absurd (nI_inj (by omega) (by omega) q) (by omega))]
theorem stp_ts {fb : Nat → Int32} {fl c : Nat} (h : 7 ≤ c) (h9 : c ≤ 9) (k A X : Int32) : stp fb fl (nI c) k A X = some (A, X) := by
  match c, h, h9 with
  | 7, _, _ => rfl
  | 8, _, _ => rfl
  | 9, _, _ => rfl
set_option maxHeartbeats 4000000 in
set_option maxRecDepth 20000 in
theorem c_Mo_accepts {l : Launch} {L : Nat} {xs : Nat → Int32} {h : pz_H} {z : Nat} {np nb now tkg lst flt byt : Nat} {sa sx : Int32} (hMo : MOB h np nb now tkg lst flt byt sa sx) (hnp : np ≤ 32) (hnb : nb ≤ 32) {Mcd : Nat → Int32} (hCd : AI h 179 768 Mcd) {Mfm : Nat → Int32} (hFm : AI h 181 16 Mfm) {a gl : Nat} (ha : a < 6) (hb16 : byt ≤ 16) {fb : Nat → Int32} (hfb : ∀ q, q < byt → Mfm q = fb q) (hgl : gl ≤ 16) (hg0 : 0 < gl) {gc go : Nat → Int32} {cc yy nn : Nat → Nat} (hcc : ∀ j, j < gl → gc j = nI (cc j) ∧ Mcd (384 + a * 64 + j * 4) = nI (cc j) ∧ cc j ≤ 11) (hgo : ∀ j, j < gl → Mcd (384 + a * 64 + j * 4 + 1) = go j) (hyn : ∀ j, j < gl → 6 < cc j → cc j < 10 → Mcd (384 + a * 64 + j * 4 + 2) = nI (yy j) ∧ Mcd (384 + a * 64 + j * 4 + 3) = nI (nn j)) (hy0 : ∀ j, j < gl → cc j < 7 → yy j = 0 ∧ nn j = 0) (hsd : ∀ j, j < gl → cc j ≤ 9 → j + 1 + yy j < gl ∧ j + 1 + nn j < gl) : pz_K l L xs M_Mo_accepts 1 0 0 [.ref 166, .int (nI a)] h z (fun v h' z' => v = some (.int (pb (acA gc go yy nn gl fb byt))) ∧ z = z' ∧ (∃ A' X', MOB h' np nb now tkg lst flt byt A' X') ∧ frx [166] h h') := by
  refine pz_K.of rfl (Nat.le_of_ble_eq_true rfl) ?_
  have hf : frx [166] h h := frx.rf
  have loop : ∀ (n : Nat) (i s : Nat) (A X : Int32) (k : pz_H), i < gl → s ≤ i → 17 ≤ i + n → MOB k np nb now tkg lst flt byt A X → AI k 179 768 Mcd → AI k 181 16 Mfm → frx [166] h k → pz_E l L xs M_Mo_accepts 1 0 0 12 [some (.ref 166), some (.int (nI a)), some (.int (nI i)), none, none, none, none] [] k z (fun v h' z' => v = some (.int (pb (acc gc go yy nn gl fb byt (16 - s) i A X))) ∧ z = z' ∧ (∃ A' X', MOB h' np nb now tkg lst flt byt A' X') ∧ frx [166] h h') := by
    intro n
    induction n with
    | zero => intros; omega
    | succ n ih =>
      intro i s A X k hi hs hin hMo hCd hFm hf
      refine pe_iload_n d_Mo_accepts_12 rfl ?_
      refine pe_bipush (v := nI 16) d_Mo_accepts_13 (by decide) ?_
      refine pe_icmpN_ge (tgt := 201) d_Mo_accepts_15 (by decide) (by omega) (by omega) (fun c_15 => ?_) (fun c_15 => ?_)
      · exfalso; omega
      · refine pe_sipush (v := nI 384) d_Mo_accepts_18 (by decide) ?_
        refine pe_iload_n d_Mo_accepts_21 rfl ?_
        refine pe_bipush (v := nI 64) d_Mo_accepts_22 (by decide) ?_
        refine pe_imulN d_Mo_accepts_24 ?_
        refine pe_iaddN d_Mo_accepts_25 ?_
        refine pe_iload_n d_Mo_accepts_26 rfl ?_
        refine pe_iconst (v := nI 4) d_Mo_accepts_27 (by decide) ?_
        refine pe_imulN d_Mo_accepts_28 ?_
        refine pe_iaddN d_Mo_accepts_29 ?_
        refine pe_istore_n d_Mo_accepts_30 (by decide) rfl ?_
        dsimp only [List.set]
        refine pe_aload_n d_Mo_accepts_31 rfl ?_
        refine pe_getf d_Mo_accepts_32 f_Mo_57 hMo rfl ?_
        refine pe_iload_n d_Mo_accepts_35 rfl ?_
        refine pe_ialdN d_Mo_accepts_36 hCd (by omega) (by omega) ?_
        obtain ⟨hg1, hg2, hg3⟩ := hcc i hi
        refine pe_top (y := .int (nI (cc i))) (by rw [hg2]) ?_
        refine pe_istore d_Mo_accepts_37 (by decide) rfl ?_
        dsimp only [List.set]
        refine pe_aload_n d_Mo_accepts_39 rfl ?_
        refine pe_getf d_Mo_accepts_40 f_Mo_57 hMo rfl ?_
        refine pe_iload_n d_Mo_accepts_43 rfl ?_
        refine pe_iconst (v := nI 1) d_Mo_accepts_44 (by decide) ?_
        refine pe_iaddN d_Mo_accepts_45 ?_
        refine pe_ialdN d_Mo_accepts_46 hCd (by omega) (by omega) ?_
        refine pe_top (y := .int (go i)) (by rw [hgo i hi]) ?_
        refine pe_istore d_Mo_accepts_47 (by decide) rfl ?_
        dsimp only [List.set]
        refine pe_iload d_Mo_accepts_49 rfl ?_
        refine pe_bipush (v := nI 10) d_Mo_accepts_51 (by decide) ?_
        refine pe_icmpN_ne (tgt := 67) d_Mo_accepts_53 (by decide) (by omega) (by omega) (fun c_53 => ?_) (fun c_53 => ?_)
        · refine pe_iload d_Mo_accepts_67 rfl ?_
          refine pe_bipush (v := nI 11) d_Mo_accepts_69 (by decide) ?_
          refine pe_icmpN_ne (tgt := 87) d_Mo_accepts_71 (by decide) (by omega) (by omega) (fun c_71 => ?_) (fun c_71 => ?_)
          · refine pe_iload d_Mo_accepts_87 rfl ?_
            refine pe_bipush (v := nI 7) d_Mo_accepts_89 (by decide) ?_
            refine pe_icmpN_ne (tgt := 111) d_Mo_accepts_91 (by decide) (by omega) (by omega) (fun c_91 => ?_) (fun c_91 => ?_)
            · refine pe_iload d_Mo_accepts_111 rfl ?_
              refine pe_bipush (v := nI 8) d_Mo_accepts_113 (by decide) ?_
              refine pe_icmpN_ne (tgt := 135) d_Mo_accepts_115 (by decide) (by omega) (by omega) (fun c_115 => ?_) (fun c_115 => ?_)
              · refine pe_aload_n d_Mo_accepts_135 rfl ?_
                refine pe_getf d_Mo_accepts_136 f_Mo_81 hMo rfl ?_
                refine pe_iload d_Mo_accepts_139 rfl ?_
                refine pe_iand d_Mo_accepts_141 ?_
                refine pe_if_eq (tgt := 149) d_Mo_accepts_142 (by decide) (fun c_142 => ?_) (fun c_142 => ?_)
                · refine pe_iconst (v := nI 0) d_Mo_accepts_149 (by decide) ?_
                  refine pe_istore d_Mo_accepts_150 (by decide) rfl ?_
                  dsimp only [List.set]
                  refine pe_iload d_Mo_accepts_152 rfl ?_
                  refine pe_bipush (v := nI 6) d_Mo_accepts_154 (by decide) ?_
                  refine pe_icmpN_le (tgt := 182) d_Mo_accepts_156 (by decide) (by omega) (by omega) (fun c_156 => ?_) (fun c_156 => ?_)
                  · cases hst : stp fb byt (nI (cc i)) (go i) A X with
                    | none =>
                      refine pe_aload_n d_Mo_accepts_182 rfl ?_
                      refine pe_iload d_Mo_accepts_183 rfl ?_
                      refine pe_iload d_Mo_accepts_185 rfl ?_
                      -- 187: Mo_plain
                      refine pe_callV d_Mo_accepts_187 m_Mo_142 j_Mo_plain v_Mo_plain (c_Mo_plain_f hMo hnp hnb hFm hb16 hfb (by omega) _ hst) rfl rfl (by simp [Value.category]) (by decide) hMo rfl rfl ?_
                      intro v1 h1 z1 hq1
                      obtain ⟨rfl, rfl, rfl⟩ := hq1
                      change pz_E _ _ _ _ _ _ _ _ _ (_ :: _) _ _ _
                      refine pe_if_ne (tgt := 195) d_Mo_accepts_190 (by decide) (fun c_190 => ?_) (fun c_190 => ?_)
                      · have c_190 := pb_n0.mp c_190
                        exact absurd c_190 (by decide)
                      · have c_190 := pb_0.mp c_190
                        refine pe_iconst (v := nI 0) d_Mo_accepts_193 (by decide) ?_
                        refine pe_zret d_Mo_accepts_194 rfl (by decide) ?_
                        exact ⟨by rw [acc_n (by omega) hi (by rw [hg1]; exact fun q9 => c_53 (nI_inj (by omega) (by omega) q9)) (by rw [hg1]; exact fun q9 => c_71 (nI_inj (by omega) (by omega) q9)) (by rw [hg1]; exact hst)]; rfl, rfl, ⟨_, _, hMo⟩, hf⟩
                    | some AX =>
                      obtain ⟨A9, X9⟩ := AX
                      refine pe_aload_n d_Mo_accepts_182 rfl ?_
                      refine pe_iload d_Mo_accepts_183 rfl ?_
                      refine pe_iload d_Mo_accepts_185 rfl ?_
                      -- 187: Mo_plain
                      refine pe_callV d_Mo_accepts_187 m_Mo_142 j_Mo_plain v_Mo_plain (c_Mo_plain_t hMo hnp hnb hFm hb16 hfb (by omega) _ hst) rfl rfl (by simp [Value.category]) (by decide) hMo rfl rfl ?_
                      intro v1 h1 z1 hq1
                      obtain ⟨rfl, rfl, hMo, hf1⟩ := hq1
                      have hCd := (hf1 179 (by decide)).trans hCd
                      have hFm := (hf1 181 (by decide)).trans hFm
                      have hf := hf.tr hf1
                      change pz_E _ _ _ _ _ _ _ _ _ (_ :: _) _ _ _
                      refine pe_if_ne (tgt := 195) d_Mo_accepts_190 (by decide) (fun c_190 => ?_) (fun c_190 => ?_)
                      · have c_190 := pb_n0.mp c_190
                        refine pe_iincN d_Mo_accepts_195 rfl (by decide) rfl ?_
                        dsimp only [List.set]
                        refine pe_goto (tgt := 12) d_Mo_accepts_198 (by decide) ?_
                        rw [acc_s (by omega) hi (by rw [hg1]; exact fun q9 => c_53 (nI_inj (by omega) (by omega) q9)) (by rw [hg1]; exact fun q9 => c_71 (nI_inj (by omega) (by omega) q9)) (by rw [hg1]; exact hst), if_neg (by rw [hg1, hld_lo (by omega)]; decide), (hy0 i hi (by omega)).2]
                        have hsd9 := hsd i hi (by omega)
                        exact pe_ls (ls' := [some (.ref 166), some (.int (nI a)), some (.int (nI (i + 1))), none, none, none, none]) (fun j v hj => by match j, hj with | 0, hj => exact hj | 1, hj => exact hj | 2, hj => exact hj | 3, hj => cases hj | 4, hj => cases hj | 5, hj => cases hj | 6, hj => cases hj | j + 7, hj => cases hj) (ih (i + 1) (s + 1) A9 X9 _ (by omega) (by omega) (by omega) hMo hCd hFm hf)
                      · have c_190 := pb_0.mp c_190
                        exact absurd c_190 (by decide)
                  · refine pe_iload_n d_Mo_accepts_159 rfl ?_
                    refine pe_aload_n d_Mo_accepts_160 rfl ?_
                    refine pe_getf d_Mo_accepts_161 f_Mo_57 hMo rfl ?_
                    refine pe_iload_n d_Mo_accepts_164 rfl ?_
                    refine pe_iload d_Mo_accepts_165 rfl ?_
                    refine pe_if_eq (tgt := 174) d_Mo_accepts_167 (by decide) (fun c_167 => ?_) (fun c_167 => ?_)
                    · refine pe_iconst (v := nI 3) d_Mo_accepts_174 (by decide) ?_
                      refine pe_iaddN d_Mo_accepts_175 ?_
                      refine pe_ialdN d_Mo_accepts_176 hCd (by omega) (by omega) ?_
                      refine pe_top (y := .int (nI (nn i))) (by rw [(hyn i hi (by omega) (by omega)).2]) ?_
                      refine pe_iaddN d_Mo_accepts_177 ?_
                      refine pe_istore_n d_Mo_accepts_178 (by decide) rfl ?_
                      dsimp only [List.set]
                      refine pe_goto (tgt := 195) d_Mo_accepts_179 (by decide) ?_
                      refine pe_iincN d_Mo_accepts_195 rfl (by decide) rfl ?_
                      dsimp only [List.set]
                      refine pe_goto (tgt := 12) d_Mo_accepts_198 (by decide) ?_
                      have hc : cc i = 9 := by omega
                      have hh : hld (gc i) A (go i) = false := by rw [hg1, hc]; exact by show (!decide (A &&& go i = 0)) = false; rw [decide_eq_true c_142]; rfl
                      have hst : stp fb byt (gc i) (go i) A X = some (A, X) := by rw [hg1]; exact stp_ts (by omega) (by omega) _ _ _
                      rw [acc_s (by omega) hi (by rw [hg1]; exact fun q9 => c_53 (nI_inj (by omega) (by omega) q9)) (by rw [hg1]; exact fun q9 => c_71 (nI_inj (by omega) (by omega) q9)) hst, if_neg (by rw [hh]; decide), show i + (1 + nn i) = i + nn i + 1 by omega]
                      have hsd9 := hsd i hi (by omega)
                      exact pe_ls (ls' := [some (.ref 166), some (.int (nI a)), some (.int (nI (i + nn i + 1))), none, none, none, none]) (fun j v hj => by match j, hj with | 0, hj => exact hj | 1, hj => exact hj | 2, hj => exact hj | 3, hj => cases hj | 4, hj => cases hj | 5, hj => cases hj | 6, hj => cases hj | j + 7, hj => cases hj) (ih (i + nn i + 1) (s + 1) A X _ (by omega) (by omega) (by omega) hMo hCd hFm hf)
                    · exact absurd (by decide) c_167
                · refine pe_iconst (v := nI 1) d_Mo_accepts_145 (by decide) ?_
                  refine pe_goto (tgt := 150) d_Mo_accepts_146 (by decide) ?_
                  refine pe_istore d_Mo_accepts_150 (by decide) rfl ?_
                  dsimp only [List.set]
                  refine pe_iload d_Mo_accepts_152 rfl ?_
                  refine pe_bipush (v := nI 6) d_Mo_accepts_154 (by decide) ?_
                  refine pe_icmpN_le (tgt := 182) d_Mo_accepts_156 (by decide) (by omega) (by omega) (fun c_156 => ?_) (fun c_156 => ?_)
                  · cases hst : stp fb byt (nI (cc i)) (go i) A X with
                    | none =>
                      refine pe_aload_n d_Mo_accepts_182 rfl ?_
                      refine pe_iload d_Mo_accepts_183 rfl ?_
                      refine pe_iload d_Mo_accepts_185 rfl ?_
                      -- 187: Mo_plain
                      refine pe_callV d_Mo_accepts_187 m_Mo_142 j_Mo_plain v_Mo_plain (c_Mo_plain_f hMo hnp hnb hFm hb16 hfb (by omega) _ hst) rfl rfl (by simp [Value.category]) (by decide) hMo rfl rfl ?_
                      intro v1 h1 z1 hq1
                      obtain ⟨rfl, rfl, rfl⟩ := hq1
                      change pz_E _ _ _ _ _ _ _ _ _ (_ :: _) _ _ _
                      refine pe_if_ne (tgt := 195) d_Mo_accepts_190 (by decide) (fun c_190 => ?_) (fun c_190 => ?_)
                      · have c_190 := pb_n0.mp c_190
                        exact absurd c_190 (by decide)
                      · have c_190 := pb_0.mp c_190
                        refine pe_iconst (v := nI 0) d_Mo_accepts_193 (by decide) ?_
                        refine pe_zret d_Mo_accepts_194 rfl (by decide) ?_
                        exact ⟨by rw [acc_n (by omega) hi (by rw [hg1]; exact fun q9 => c_53 (nI_inj (by omega) (by omega) q9)) (by rw [hg1]; exact fun q9 => c_71 (nI_inj (by omega) (by omega) q9)) (by rw [hg1]; exact hst)]; rfl, rfl, ⟨_, _, hMo⟩, hf⟩
                    | some AX =>
                      obtain ⟨A9, X9⟩ := AX
                      refine pe_aload_n d_Mo_accepts_182 rfl ?_
                      refine pe_iload d_Mo_accepts_183 rfl ?_
                      refine pe_iload d_Mo_accepts_185 rfl ?_
                      -- 187: Mo_plain
                      refine pe_callV d_Mo_accepts_187 m_Mo_142 j_Mo_plain v_Mo_plain (c_Mo_plain_t hMo hnp hnb hFm hb16 hfb (by omega) _ hst) rfl rfl (by simp [Value.category]) (by decide) hMo rfl rfl ?_
                      intro v1 h1 z1 hq1
                      obtain ⟨rfl, rfl, hMo, hf1⟩ := hq1
                      have hCd := (hf1 179 (by decide)).trans hCd
                      have hFm := (hf1 181 (by decide)).trans hFm
                      have hf := hf.tr hf1
                      change pz_E _ _ _ _ _ _ _ _ _ (_ :: _) _ _ _
                      refine pe_if_ne (tgt := 195) d_Mo_accepts_190 (by decide) (fun c_190 => ?_) (fun c_190 => ?_)
                      · have c_190 := pb_n0.mp c_190
                        refine pe_iincN d_Mo_accepts_195 rfl (by decide) rfl ?_
                        dsimp only [List.set]
                        refine pe_goto (tgt := 12) d_Mo_accepts_198 (by decide) ?_
                        rw [acc_s (by omega) hi (by rw [hg1]; exact fun q9 => c_53 (nI_inj (by omega) (by omega) q9)) (by rw [hg1]; exact fun q9 => c_71 (nI_inj (by omega) (by omega) q9)) (by rw [hg1]; exact hst), if_neg (by rw [hg1, hld_lo (by omega)]; decide), (hy0 i hi (by omega)).2]
                        have hsd9 := hsd i hi (by omega)
                        exact pe_ls (ls' := [some (.ref 166), some (.int (nI a)), some (.int (nI (i + 1))), none, none, none, none]) (fun j v hj => by match j, hj with | 0, hj => exact hj | 1, hj => exact hj | 2, hj => exact hj | 3, hj => cases hj | 4, hj => cases hj | 5, hj => cases hj | 6, hj => cases hj | j + 7, hj => cases hj) (ih (i + 1) (s + 1) A9 X9 _ (by omega) (by omega) (by omega) hMo hCd hFm hf)
                      · have c_190 := pb_0.mp c_190
                        exact absurd c_190 (by decide)
                  · refine pe_iload_n d_Mo_accepts_159 rfl ?_
                    refine pe_aload_n d_Mo_accepts_160 rfl ?_
                    refine pe_getf d_Mo_accepts_161 f_Mo_57 hMo rfl ?_
                    refine pe_iload_n d_Mo_accepts_164 rfl ?_
                    refine pe_iload d_Mo_accepts_165 rfl ?_
                    refine pe_if_eq (tgt := 174) d_Mo_accepts_167 (by decide) (fun c_167 => ?_) (fun c_167 => ?_)
                    · exact absurd c_167 (by decide)
                    · refine pe_iconst (v := nI 2) d_Mo_accepts_170 (by decide) ?_
                      refine pe_goto (tgt := 175) d_Mo_accepts_171 (by decide) ?_
                      refine pe_iaddN d_Mo_accepts_175 ?_
                      refine pe_ialdN d_Mo_accepts_176 hCd (by omega) (by omega) ?_
                      refine pe_top (y := .int (nI (yy i))) (by rw [(hyn i hi (by omega) (by omega)).1]) ?_
                      refine pe_iaddN d_Mo_accepts_177 ?_
                      refine pe_istore_n d_Mo_accepts_178 (by decide) rfl ?_
                      dsimp only [List.set]
                      refine pe_goto (tgt := 195) d_Mo_accepts_179 (by decide) ?_
                      refine pe_iincN d_Mo_accepts_195 rfl (by decide) rfl ?_
                      dsimp only [List.set]
                      refine pe_goto (tgt := 12) d_Mo_accepts_198 (by decide) ?_
                      have hc : cc i = 9 := by omega
                      have hh : hld (gc i) A (go i) = true := by rw [hg1, hc]; exact by show (!decide (A &&& go i = 0)) = true; rw [decide_eq_false c_142]; rfl
                      have hst : stp fb byt (gc i) (go i) A X = some (A, X) := by rw [hg1]; exact stp_ts (by omega) (by omega) _ _ _
                      rw [acc_s (by omega) hi (by rw [hg1]; exact fun q9 => c_53 (nI_inj (by omega) (by omega) q9)) (by rw [hg1]; exact fun q9 => c_71 (nI_inj (by omega) (by omega) q9)) hst, if_pos hh, show i + (1 + yy i) = i + yy i + 1 by omega]
                      have hsd9 := hsd i hi (by omega)
                      exact pe_ls (ls' := [some (.ref 166), some (.int (nI a)), some (.int (nI (i + yy i + 1))), none, none, none, none]) (fun j v hj => by match j, hj with | 0, hj => exact hj | 1, hj => exact hj | 2, hj => exact hj | 3, hj => cases hj | 4, hj => cases hj | 5, hj => cases hj | 6, hj => cases hj | j + 7, hj => cases hj) (ih (i + yy i + 1) (s + 1) A X _ (by omega) (by omega) (by omega) hMo hCd hFm hf)
              · refine pe_aload_n d_Mo_accepts_118 rfl ?_
                refine pe_getf d_Mo_accepts_119 f_Mo_81 hMo rfl ?_
                refine pe_iload d_Mo_accepts_122 rfl ?_
                refine pe_icmp_le (tgt := 131) d_Mo_accepts_124 (by decide) (fun c_124 => ?_) (fun c_124 => ?_)
                · refine pe_iconst (v := nI 0) d_Mo_accepts_131 (by decide) ?_
                  refine pe_goto (tgt := 150) d_Mo_accepts_132 (by decide) ?_
                  refine pe_istore d_Mo_accepts_150 (by decide) rfl ?_
                  dsimp only [List.set]
                  refine pe_iload d_Mo_accepts_152 rfl ?_
                  refine pe_bipush (v := nI 6) d_Mo_accepts_154 (by decide) ?_
                  refine pe_icmpN_le (tgt := 182) d_Mo_accepts_156 (by decide) (by omega) (by omega) (fun c_156 => ?_) (fun c_156 => ?_)
                  · cases hst : stp fb byt (nI (cc i)) (go i) A X with
                    | none =>
                      refine pe_aload_n d_Mo_accepts_182 rfl ?_
                      refine pe_iload d_Mo_accepts_183 rfl ?_
                      refine pe_iload d_Mo_accepts_185 rfl ?_
                      -- 187: Mo_plain
                      refine pe_callV d_Mo_accepts_187 m_Mo_142 j_Mo_plain v_Mo_plain (c_Mo_plain_f hMo hnp hnb hFm hb16 hfb (by omega) _ hst) rfl rfl (by simp [Value.category]) (by decide) hMo rfl rfl ?_
                      intro v1 h1 z1 hq1
                      obtain ⟨rfl, rfl, rfl⟩ := hq1
                      change pz_E _ _ _ _ _ _ _ _ _ (_ :: _) _ _ _
                      refine pe_if_ne (tgt := 195) d_Mo_accepts_190 (by decide) (fun c_190 => ?_) (fun c_190 => ?_)
                      · have c_190 := pb_n0.mp c_190
                        exact absurd c_190 (by decide)
                      · have c_190 := pb_0.mp c_190
                        refine pe_iconst (v := nI 0) d_Mo_accepts_193 (by decide) ?_
                        refine pe_zret d_Mo_accepts_194 rfl (by decide) ?_
                        exact ⟨by rw [acc_n (by omega) hi (by rw [hg1]; exact fun q9 => c_53 (nI_inj (by omega) (by omega) q9)) (by rw [hg1]; exact fun q9 => c_71 (nI_inj (by omega) (by omega) q9)) (by rw [hg1]; exact hst)]; rfl, rfl, ⟨_, _, hMo⟩, hf⟩
                    | some AX =>
                      obtain ⟨A9, X9⟩ := AX
                      refine pe_aload_n d_Mo_accepts_182 rfl ?_
                      refine pe_iload d_Mo_accepts_183 rfl ?_
                      refine pe_iload d_Mo_accepts_185 rfl ?_
                      -- 187: Mo_plain
                      refine pe_callV d_Mo_accepts_187 m_Mo_142 j_Mo_plain v_Mo_plain (c_Mo_plain_t hMo hnp hnb hFm hb16 hfb (by omega) _ hst) rfl rfl (by simp [Value.category]) (by decide) hMo rfl rfl ?_
                      intro v1 h1 z1 hq1
                      obtain ⟨rfl, rfl, hMo, hf1⟩ := hq1
                      have hCd := (hf1 179 (by decide)).trans hCd
                      have hFm := (hf1 181 (by decide)).trans hFm
                      have hf := hf.tr hf1
                      change pz_E _ _ _ _ _ _ _ _ _ (_ :: _) _ _ _
                      refine pe_if_ne (tgt := 195) d_Mo_accepts_190 (by decide) (fun c_190 => ?_) (fun c_190 => ?_)
                      · have c_190 := pb_n0.mp c_190
                        refine pe_iincN d_Mo_accepts_195 rfl (by decide) rfl ?_
                        dsimp only [List.set]
                        refine pe_goto (tgt := 12) d_Mo_accepts_198 (by decide) ?_
                        rw [acc_s (by omega) hi (by rw [hg1]; exact fun q9 => c_53 (nI_inj (by omega) (by omega) q9)) (by rw [hg1]; exact fun q9 => c_71 (nI_inj (by omega) (by omega) q9)) (by rw [hg1]; exact hst), if_neg (by rw [hg1, hld_lo (by omega)]; decide), (hy0 i hi (by omega)).2]
                        have hsd9 := hsd i hi (by omega)
                        exact pe_ls (ls' := [some (.ref 166), some (.int (nI a)), some (.int (nI (i + 1))), none, none, none, none]) (fun j v hj => by match j, hj with | 0, hj => exact hj | 1, hj => exact hj | 2, hj => exact hj | 3, hj => cases hj | 4, hj => cases hj | 5, hj => cases hj | 6, hj => cases hj | j + 7, hj => cases hj) (ih (i + 1) (s + 1) A9 X9 _ (by omega) (by omega) (by omega) hMo hCd hFm hf)
                      · have c_190 := pb_0.mp c_190
                        exact absurd c_190 (by decide)
                  · refine pe_iload_n d_Mo_accepts_159 rfl ?_
                    refine pe_aload_n d_Mo_accepts_160 rfl ?_
                    refine pe_getf d_Mo_accepts_161 f_Mo_57 hMo rfl ?_
                    refine pe_iload_n d_Mo_accepts_164 rfl ?_
                    refine pe_iload d_Mo_accepts_165 rfl ?_
                    refine pe_if_eq (tgt := 174) d_Mo_accepts_167 (by decide) (fun c_167 => ?_) (fun c_167 => ?_)
                    · refine pe_iconst (v := nI 3) d_Mo_accepts_174 (by decide) ?_
                      refine pe_iaddN d_Mo_accepts_175 ?_
                      refine pe_ialdN d_Mo_accepts_176 hCd (by omega) (by omega) ?_
                      refine pe_top (y := .int (nI (nn i))) (by rw [(hyn i hi (by omega) (by omega)).2]) ?_
                      refine pe_iaddN d_Mo_accepts_177 ?_
                      refine pe_istore_n d_Mo_accepts_178 (by decide) rfl ?_
                      dsimp only [List.set]
                      refine pe_goto (tgt := 195) d_Mo_accepts_179 (by decide) ?_
                      refine pe_iincN d_Mo_accepts_195 rfl (by decide) rfl ?_
                      dsimp only [List.set]
                      refine pe_goto (tgt := 12) d_Mo_accepts_198 (by decide) ?_
                      have hc : cc i = 8 := by omega
                      have hh : hld (gc i) A (go i) = false := by rw [hg1, hc]; exact decide_eq_false (Int32.not_lt.mpr c_124)
                      have hst : stp fb byt (gc i) (go i) A X = some (A, X) := by rw [hg1]; exact stp_ts (by omega) (by omega) _ _ _
                      rw [acc_s (by omega) hi (by rw [hg1]; exact fun q9 => c_53 (nI_inj (by omega) (by omega) q9)) (by rw [hg1]; exact fun q9 => c_71 (nI_inj (by omega) (by omega) q9)) hst, if_neg (by rw [hh]; decide), show i + (1 + nn i) = i + nn i + 1 by omega]
                      have hsd9 := hsd i hi (by omega)
                      exact pe_ls (ls' := [some (.ref 166), some (.int (nI a)), some (.int (nI (i + nn i + 1))), none, none, none, none]) (fun j v hj => by match j, hj with | 0, hj => exact hj | 1, hj => exact hj | 2, hj => exact hj | 3, hj => cases hj | 4, hj => cases hj | 5, hj => cases hj | 6, hj => cases hj | j + 7, hj => cases hj) (ih (i + nn i + 1) (s + 1) A X _ (by omega) (by omega) (by omega) hMo hCd hFm hf)
                    · exact absurd (by decide) c_167
                · refine pe_iconst (v := nI 1) d_Mo_accepts_127 (by decide) ?_
                  refine pe_goto (tgt := 150) d_Mo_accepts_128 (by decide) ?_
                  refine pe_istore d_Mo_accepts_150 (by decide) rfl ?_
                  dsimp only [List.set]
                  refine pe_iload d_Mo_accepts_152 rfl ?_
                  refine pe_bipush (v := nI 6) d_Mo_accepts_154 (by decide) ?_
                  refine pe_icmpN_le (tgt := 182) d_Mo_accepts_156 (by decide) (by omega) (by omega) (fun c_156 => ?_) (fun c_156 => ?_)
                  · cases hst : stp fb byt (nI (cc i)) (go i) A X with
                    | none =>
                      refine pe_aload_n d_Mo_accepts_182 rfl ?_
                      refine pe_iload d_Mo_accepts_183 rfl ?_
                      refine pe_iload d_Mo_accepts_185 rfl ?_
                      -- 187: Mo_plain
                      refine pe_callV d_Mo_accepts_187 m_Mo_142 j_Mo_plain v_Mo_plain (c_Mo_plain_f hMo hnp hnb hFm hb16 hfb (by omega) _ hst) rfl rfl (by simp [Value.category]) (by decide) hMo rfl rfl ?_
                      intro v1 h1 z1 hq1
                      obtain ⟨rfl, rfl, rfl⟩ := hq1
                      change pz_E _ _ _ _ _ _ _ _ _ (_ :: _) _ _ _
                      refine pe_if_ne (tgt := 195) d_Mo_accepts_190 (by decide) (fun c_190 => ?_) (fun c_190 => ?_)
                      · have c_190 := pb_n0.mp c_190
                        exact absurd c_190 (by decide)
                      · have c_190 := pb_0.mp c_190
                        refine pe_iconst (v := nI 0) d_Mo_accepts_193 (by decide) ?_
                        refine pe_zret d_Mo_accepts_194 rfl (by decide) ?_
                        exact ⟨by rw [acc_n (by omega) hi (by rw [hg1]; exact fun q9 => c_53 (nI_inj (by omega) (by omega) q9)) (by rw [hg1]; exact fun q9 => c_71 (nI_inj (by omega) (by omega) q9)) (by rw [hg1]; exact hst)]; rfl, rfl, ⟨_, _, hMo⟩, hf⟩
                    | some AX =>
                      obtain ⟨A9, X9⟩ := AX
                      refine pe_aload_n d_Mo_accepts_182 rfl ?_
                      refine pe_iload d_Mo_accepts_183 rfl ?_
                      refine pe_iload d_Mo_accepts_185 rfl ?_
                      -- 187: Mo_plain
                      refine pe_callV d_Mo_accepts_187 m_Mo_142 j_Mo_plain v_Mo_plain (c_Mo_plain_t hMo hnp hnb hFm hb16 hfb (by omega) _ hst) rfl rfl (by simp [Value.category]) (by decide) hMo rfl rfl ?_
                      intro v1 h1 z1 hq1
                      obtain ⟨rfl, rfl, hMo, hf1⟩ := hq1
                      have hCd := (hf1 179 (by decide)).trans hCd
                      have hFm := (hf1 181 (by decide)).trans hFm
                      have hf := hf.tr hf1
                      change pz_E _ _ _ _ _ _ _ _ _ (_ :: _) _ _ _
                      refine pe_if_ne (tgt := 195) d_Mo_accepts_190 (by decide) (fun c_190 => ?_) (fun c_190 => ?_)
                      · have c_190 := pb_n0.mp c_190
                        refine pe_iincN d_Mo_accepts_195 rfl (by decide) rfl ?_
                        dsimp only [List.set]
                        refine pe_goto (tgt := 12) d_Mo_accepts_198 (by decide) ?_
                        rw [acc_s (by omega) hi (by rw [hg1]; exact fun q9 => c_53 (nI_inj (by omega) (by omega) q9)) (by rw [hg1]; exact fun q9 => c_71 (nI_inj (by omega) (by omega) q9)) (by rw [hg1]; exact hst), if_neg (by rw [hg1, hld_lo (by omega)]; decide), (hy0 i hi (by omega)).2]
                        have hsd9 := hsd i hi (by omega)
                        exact pe_ls (ls' := [some (.ref 166), some (.int (nI a)), some (.int (nI (i + 1))), none, none, none, none]) (fun j v hj => by match j, hj with | 0, hj => exact hj | 1, hj => exact hj | 2, hj => exact hj | 3, hj => cases hj | 4, hj => cases hj | 5, hj => cases hj | 6, hj => cases hj | j + 7, hj => cases hj) (ih (i + 1) (s + 1) A9 X9 _ (by omega) (by omega) (by omega) hMo hCd hFm hf)
                      · have c_190 := pb_0.mp c_190
                        exact absurd c_190 (by decide)
                  · refine pe_iload_n d_Mo_accepts_159 rfl ?_
                    refine pe_aload_n d_Mo_accepts_160 rfl ?_
                    refine pe_getf d_Mo_accepts_161 f_Mo_57 hMo rfl ?_
                    refine pe_iload_n d_Mo_accepts_164 rfl ?_
                    refine pe_iload d_Mo_accepts_165 rfl ?_
                    refine pe_if_eq (tgt := 174) d_Mo_accepts_167 (by decide) (fun c_167 => ?_) (fun c_167 => ?_)
                    · exact absurd c_167 (by decide)
                    · refine pe_iconst (v := nI 2) d_Mo_accepts_170 (by decide) ?_
                      refine pe_goto (tgt := 175) d_Mo_accepts_171 (by decide) ?_
                      refine pe_iaddN d_Mo_accepts_175 ?_
                      refine pe_ialdN d_Mo_accepts_176 hCd (by omega) (by omega) ?_
                      refine pe_top (y := .int (nI (yy i))) (by rw [(hyn i hi (by omega) (by omega)).1]) ?_
                      refine pe_iaddN d_Mo_accepts_177 ?_
                      refine pe_istore_n d_Mo_accepts_178 (by decide) rfl ?_
                      dsimp only [List.set]
                      refine pe_goto (tgt := 195) d_Mo_accepts_179 (by decide) ?_
                      refine pe_iincN d_Mo_accepts_195 rfl (by decide) rfl ?_
                      dsimp only [List.set]
                      refine pe_goto (tgt := 12) d_Mo_accepts_198 (by decide) ?_
                      have hc : cc i = 8 := by omega
                      have hh : hld (gc i) A (go i) = true := by rw [hg1, hc]; exact decide_eq_true (Int32.not_le.mp c_124)
                      have hst : stp fb byt (gc i) (go i) A X = some (A, X) := by rw [hg1]; exact stp_ts (by omega) (by omega) _ _ _
                      rw [acc_s (by omega) hi (by rw [hg1]; exact fun q9 => c_53 (nI_inj (by omega) (by omega) q9)) (by rw [hg1]; exact fun q9 => c_71 (nI_inj (by omega) (by omega) q9)) hst, if_pos hh, show i + (1 + yy i) = i + yy i + 1 by omega]
                      have hsd9 := hsd i hi (by omega)
                      exact pe_ls (ls' := [some (.ref 166), some (.int (nI a)), some (.int (nI (i + yy i + 1))), none, none, none, none]) (fun j v hj => by match j, hj with | 0, hj => exact hj | 1, hj => exact hj | 2, hj => exact hj | 3, hj => cases hj | 4, hj => cases hj | 5, hj => cases hj | 6, hj => cases hj | j + 7, hj => cases hj) (ih (i + yy i + 1) (s + 1) A X _ (by omega) (by omega) (by omega) hMo hCd hFm hf)
            · refine pe_aload_n d_Mo_accepts_94 rfl ?_
              refine pe_getf d_Mo_accepts_95 f_Mo_81 hMo rfl ?_
              refine pe_iload d_Mo_accepts_98 rfl ?_
              refine pe_icmp_ne (tgt := 107) d_Mo_accepts_100 (by decide) (fun c_100 => ?_) (fun c_100 => ?_)
              · refine pe_iconst (v := nI 0) d_Mo_accepts_107 (by decide) ?_
                refine pe_goto (tgt := 150) d_Mo_accepts_108 (by decide) ?_
                refine pe_istore d_Mo_accepts_150 (by decide) rfl ?_
                dsimp only [List.set]
                refine pe_iload d_Mo_accepts_152 rfl ?_
                refine pe_bipush (v := nI 6) d_Mo_accepts_154 (by decide) ?_
                refine pe_icmpN_le (tgt := 182) d_Mo_accepts_156 (by decide) (by omega) (by omega) (fun c_156 => ?_) (fun c_156 => ?_)
                · cases hst : stp fb byt (nI (cc i)) (go i) A X with
                  | none =>
                    refine pe_aload_n d_Mo_accepts_182 rfl ?_
                    refine pe_iload d_Mo_accepts_183 rfl ?_
                    refine pe_iload d_Mo_accepts_185 rfl ?_
                    -- 187: Mo_plain
                    refine pe_callV d_Mo_accepts_187 m_Mo_142 j_Mo_plain v_Mo_plain (c_Mo_plain_f hMo hnp hnb hFm hb16 hfb (by omega) _ hst) rfl rfl (by simp [Value.category]) (by decide) hMo rfl rfl ?_
                    intro v1 h1 z1 hq1
                    obtain ⟨rfl, rfl, rfl⟩ := hq1
                    change pz_E _ _ _ _ _ _ _ _ _ (_ :: _) _ _ _
                    refine pe_if_ne (tgt := 195) d_Mo_accepts_190 (by decide) (fun c_190 => ?_) (fun c_190 => ?_)
                    · have c_190 := pb_n0.mp c_190
                      exact absurd c_190 (by decide)
                    · have c_190 := pb_0.mp c_190
                      refine pe_iconst (v := nI 0) d_Mo_accepts_193 (by decide) ?_
                      refine pe_zret d_Mo_accepts_194 rfl (by decide) ?_
                      exact ⟨by rw [acc_n (by omega) hi (by rw [hg1]; exact fun q9 => c_53 (nI_inj (by omega) (by omega) q9)) (by rw [hg1]; exact fun q9 => c_71 (nI_inj (by omega) (by omega) q9)) (by rw [hg1]; exact hst)]; rfl, rfl, ⟨_, _, hMo⟩, hf⟩
                  | some AX =>
                    obtain ⟨A9, X9⟩ := AX
                    refine pe_aload_n d_Mo_accepts_182 rfl ?_
                    refine pe_iload d_Mo_accepts_183 rfl ?_
                    refine pe_iload d_Mo_accepts_185 rfl ?_
                    -- 187: Mo_plain
                    refine pe_callV d_Mo_accepts_187 m_Mo_142 j_Mo_plain v_Mo_plain (c_Mo_plain_t hMo hnp hnb hFm hb16 hfb (by omega) _ hst) rfl rfl (by simp [Value.category]) (by decide) hMo rfl rfl ?_
                    intro v1 h1 z1 hq1
                    obtain ⟨rfl, rfl, hMo, hf1⟩ := hq1
                    have hCd := (hf1 179 (by decide)).trans hCd
                    have hFm := (hf1 181 (by decide)).trans hFm
                    have hf := hf.tr hf1
                    change pz_E _ _ _ _ _ _ _ _ _ (_ :: _) _ _ _
                    refine pe_if_ne (tgt := 195) d_Mo_accepts_190 (by decide) (fun c_190 => ?_) (fun c_190 => ?_)
                    · have c_190 := pb_n0.mp c_190
                      refine pe_iincN d_Mo_accepts_195 rfl (by decide) rfl ?_
                      dsimp only [List.set]
                      refine pe_goto (tgt := 12) d_Mo_accepts_198 (by decide) ?_
                      rw [acc_s (by omega) hi (by rw [hg1]; exact fun q9 => c_53 (nI_inj (by omega) (by omega) q9)) (by rw [hg1]; exact fun q9 => c_71 (nI_inj (by omega) (by omega) q9)) (by rw [hg1]; exact hst), if_neg (by rw [hg1, hld_lo (by omega)]; decide), (hy0 i hi (by omega)).2]
                      have hsd9 := hsd i hi (by omega)
                      exact pe_ls (ls' := [some (.ref 166), some (.int (nI a)), some (.int (nI (i + 1))), none, none, none, none]) (fun j v hj => by match j, hj with | 0, hj => exact hj | 1, hj => exact hj | 2, hj => exact hj | 3, hj => cases hj | 4, hj => cases hj | 5, hj => cases hj | 6, hj => cases hj | j + 7, hj => cases hj) (ih (i + 1) (s + 1) A9 X9 _ (by omega) (by omega) (by omega) hMo hCd hFm hf)
                    · have c_190 := pb_0.mp c_190
                      exact absurd c_190 (by decide)
                · refine pe_iload_n d_Mo_accepts_159 rfl ?_
                  refine pe_aload_n d_Mo_accepts_160 rfl ?_
                  refine pe_getf d_Mo_accepts_161 f_Mo_57 hMo rfl ?_
                  refine pe_iload_n d_Mo_accepts_164 rfl ?_
                  refine pe_iload d_Mo_accepts_165 rfl ?_
                  refine pe_if_eq (tgt := 174) d_Mo_accepts_167 (by decide) (fun c_167 => ?_) (fun c_167 => ?_)
                  · refine pe_iconst (v := nI 3) d_Mo_accepts_174 (by decide) ?_
                    refine pe_iaddN d_Mo_accepts_175 ?_
                    refine pe_ialdN d_Mo_accepts_176 hCd (by omega) (by omega) ?_
                    refine pe_top (y := .int (nI (nn i))) (by rw [(hyn i hi (by omega) (by omega)).2]) ?_
                    refine pe_iaddN d_Mo_accepts_177 ?_
                    refine pe_istore_n d_Mo_accepts_178 (by decide) rfl ?_
                    dsimp only [List.set]
                    refine pe_goto (tgt := 195) d_Mo_accepts_179 (by decide) ?_
                    refine pe_iincN d_Mo_accepts_195 rfl (by decide) rfl ?_
                    dsimp only [List.set]
                    refine pe_goto (tgt := 12) d_Mo_accepts_198 (by decide) ?_
                    have hc : cc i = 7 := by omega
                    have hh : hld (gc i) A (go i) = false := by rw [hg1, hc]; exact decide_eq_false c_100
                    have hst : stp fb byt (gc i) (go i) A X = some (A, X) := by rw [hg1]; exact stp_ts (by omega) (by omega) _ _ _
                    rw [acc_s (by omega) hi (by rw [hg1]; exact fun q9 => c_53 (nI_inj (by omega) (by omega) q9)) (by rw [hg1]; exact fun q9 => c_71 (nI_inj (by omega) (by omega) q9)) hst, if_neg (by rw [hh]; decide), show i + (1 + nn i) = i + nn i + 1 by omega]
                    have hsd9 := hsd i hi (by omega)
                    exact pe_ls (ls' := [some (.ref 166), some (.int (nI a)), some (.int (nI (i + nn i + 1))), none, none, none, none]) (fun j v hj => by match j, hj with | 0, hj => exact hj | 1, hj => exact hj | 2, hj => exact hj | 3, hj => cases hj | 4, hj => cases hj | 5, hj => cases hj | 6, hj => cases hj | j + 7, hj => cases hj) (ih (i + nn i + 1) (s + 1) A X _ (by omega) (by omega) (by omega) hMo hCd hFm hf)
                  · exact absurd (by decide) c_167
              · refine pe_iconst (v := nI 1) d_Mo_accepts_103 (by decide) ?_
                refine pe_goto (tgt := 150) d_Mo_accepts_104 (by decide) ?_
                refine pe_istore d_Mo_accepts_150 (by decide) rfl ?_
                dsimp only [List.set]
                refine pe_iload d_Mo_accepts_152 rfl ?_
                refine pe_bipush (v := nI 6) d_Mo_accepts_154 (by decide) ?_
                refine pe_icmpN_le (tgt := 182) d_Mo_accepts_156 (by decide) (by omega) (by omega) (fun c_156 => ?_) (fun c_156 => ?_)
                · cases hst : stp fb byt (nI (cc i)) (go i) A X with
                  | none =>
                    refine pe_aload_n d_Mo_accepts_182 rfl ?_
                    refine pe_iload d_Mo_accepts_183 rfl ?_
                    refine pe_iload d_Mo_accepts_185 rfl ?_
                    -- 187: Mo_plain
                    refine pe_callV d_Mo_accepts_187 m_Mo_142 j_Mo_plain v_Mo_plain (c_Mo_plain_f hMo hnp hnb hFm hb16 hfb (by omega) _ hst) rfl rfl (by simp [Value.category]) (by decide) hMo rfl rfl ?_
                    intro v1 h1 z1 hq1
                    obtain ⟨rfl, rfl, rfl⟩ := hq1
                    change pz_E _ _ _ _ _ _ _ _ _ (_ :: _) _ _ _
                    refine pe_if_ne (tgt := 195) d_Mo_accepts_190 (by decide) (fun c_190 => ?_) (fun c_190 => ?_)
                    · have c_190 := pb_n0.mp c_190
                      exact absurd c_190 (by decide)
                    · have c_190 := pb_0.mp c_190
                      refine pe_iconst (v := nI 0) d_Mo_accepts_193 (by decide) ?_
                      refine pe_zret d_Mo_accepts_194 rfl (by decide) ?_
                      exact ⟨by rw [acc_n (by omega) hi (by rw [hg1]; exact fun q9 => c_53 (nI_inj (by omega) (by omega) q9)) (by rw [hg1]; exact fun q9 => c_71 (nI_inj (by omega) (by omega) q9)) (by rw [hg1]; exact hst)]; rfl, rfl, ⟨_, _, hMo⟩, hf⟩
                  | some AX =>
                    obtain ⟨A9, X9⟩ := AX
                    refine pe_aload_n d_Mo_accepts_182 rfl ?_
                    refine pe_iload d_Mo_accepts_183 rfl ?_
                    refine pe_iload d_Mo_accepts_185 rfl ?_
                    -- 187: Mo_plain
                    refine pe_callV d_Mo_accepts_187 m_Mo_142 j_Mo_plain v_Mo_plain (c_Mo_plain_t hMo hnp hnb hFm hb16 hfb (by omega) _ hst) rfl rfl (by simp [Value.category]) (by decide) hMo rfl rfl ?_
                    intro v1 h1 z1 hq1
                    obtain ⟨rfl, rfl, hMo, hf1⟩ := hq1
                    have hCd := (hf1 179 (by decide)).trans hCd
                    have hFm := (hf1 181 (by decide)).trans hFm
                    have hf := hf.tr hf1
                    change pz_E _ _ _ _ _ _ _ _ _ (_ :: _) _ _ _
                    refine pe_if_ne (tgt := 195) d_Mo_accepts_190 (by decide) (fun c_190 => ?_) (fun c_190 => ?_)
                    · have c_190 := pb_n0.mp c_190
                      refine pe_iincN d_Mo_accepts_195 rfl (by decide) rfl ?_
                      dsimp only [List.set]
                      refine pe_goto (tgt := 12) d_Mo_accepts_198 (by decide) ?_
                      rw [acc_s (by omega) hi (by rw [hg1]; exact fun q9 => c_53 (nI_inj (by omega) (by omega) q9)) (by rw [hg1]; exact fun q9 => c_71 (nI_inj (by omega) (by omega) q9)) (by rw [hg1]; exact hst), if_neg (by rw [hg1, hld_lo (by omega)]; decide), (hy0 i hi (by omega)).2]
                      have hsd9 := hsd i hi (by omega)
                      exact pe_ls (ls' := [some (.ref 166), some (.int (nI a)), some (.int (nI (i + 1))), none, none, none, none]) (fun j v hj => by match j, hj with | 0, hj => exact hj | 1, hj => exact hj | 2, hj => exact hj | 3, hj => cases hj | 4, hj => cases hj | 5, hj => cases hj | 6, hj => cases hj | j + 7, hj => cases hj) (ih (i + 1) (s + 1) A9 X9 _ (by omega) (by omega) (by omega) hMo hCd hFm hf)
                    · have c_190 := pb_0.mp c_190
                      exact absurd c_190 (by decide)
                · refine pe_iload_n d_Mo_accepts_159 rfl ?_
                  refine pe_aload_n d_Mo_accepts_160 rfl ?_
                  refine pe_getf d_Mo_accepts_161 f_Mo_57 hMo rfl ?_
                  refine pe_iload_n d_Mo_accepts_164 rfl ?_
                  refine pe_iload d_Mo_accepts_165 rfl ?_
                  refine pe_if_eq (tgt := 174) d_Mo_accepts_167 (by decide) (fun c_167 => ?_) (fun c_167 => ?_)
                  · exact absurd c_167 (by decide)
                  · refine pe_iconst (v := nI 2) d_Mo_accepts_170 (by decide) ?_
                    refine pe_goto (tgt := 175) d_Mo_accepts_171 (by decide) ?_
                    refine pe_iaddN d_Mo_accepts_175 ?_
                    refine pe_ialdN d_Mo_accepts_176 hCd (by omega) (by omega) ?_
                    refine pe_top (y := .int (nI (yy i))) (by rw [(hyn i hi (by omega) (by omega)).1]) ?_
                    refine pe_iaddN d_Mo_accepts_177 ?_
                    refine pe_istore_n d_Mo_accepts_178 (by decide) rfl ?_
                    dsimp only [List.set]
                    refine pe_goto (tgt := 195) d_Mo_accepts_179 (by decide) ?_
                    refine pe_iincN d_Mo_accepts_195 rfl (by decide) rfl ?_
                    dsimp only [List.set]
                    refine pe_goto (tgt := 12) d_Mo_accepts_198 (by decide) ?_
                    have hc : cc i = 7 := by omega
                    have hh : hld (gc i) A (go i) = true := by rw [hg1, hc]; exact decide_eq_true c_100
                    have hst : stp fb byt (gc i) (go i) A X = some (A, X) := by rw [hg1]; exact stp_ts (by omega) (by omega) _ _ _
                    rw [acc_s (by omega) hi (by rw [hg1]; exact fun q9 => c_53 (nI_inj (by omega) (by omega) q9)) (by rw [hg1]; exact fun q9 => c_71 (nI_inj (by omega) (by omega) q9)) hst, if_pos hh, show i + (1 + yy i) = i + yy i + 1 by omega]
                    have hsd9 := hsd i hi (by omega)
                    exact pe_ls (ls' := [some (.ref 166), some (.int (nI a)), some (.int (nI (i + yy i + 1))), none, none, none, none]) (fun j v hj => by match j, hj with | 0, hj => exact hj | 1, hj => exact hj | 2, hj => exact hj | 3, hj => cases hj | 4, hj => cases hj | 5, hj => cases hj | 6, hj => cases hj | j + 7, hj => cases hj) (ih (i + yy i + 1) (s + 1) A X _ (by omega) (by omega) (by omega) hMo hCd hFm hf)
          · refine pe_aload_n d_Mo_accepts_74 rfl ?_
            refine pe_getf d_Mo_accepts_75 f_Mo_81 hMo rfl ?_
            refine pe_if_eq (tgt := 85) d_Mo_accepts_78 (by decide) (fun c_78 => ?_) (fun c_78 => ?_)
            · refine pe_iconst (v := nI 0) d_Mo_accepts_85 (by decide) ?_
              refine pe_zret d_Mo_accepts_86 rfl (by decide) ?_
              exact ⟨by rw [acc_11 (by omega) hi (by rw [hg1]; exact fun q9 => c_53 (nI_inj (by omega) (by omega) q9)) (by rw [hg1, c_71]), decide_eq_true c_78]; rfl, rfl, ⟨_, _, hMo⟩, hf⟩
            · refine pe_iconst (v := nI 1) d_Mo_accepts_81 (by decide) ?_
              refine pe_goto (tgt := 86) d_Mo_accepts_82 (by decide) ?_
              refine pe_zret d_Mo_accepts_86 rfl (by decide) ?_
              exact ⟨by rw [acc_11 (by omega) hi (by rw [hg1]; exact fun q9 => c_53 (nI_inj (by omega) (by omega) q9)) (by rw [hg1, c_71]), decide_eq_false c_78]; rfl, rfl, ⟨_, _, hMo⟩, hf⟩
        · refine pe_iload d_Mo_accepts_56 rfl ?_
          refine pe_if_eq (tgt := 65) d_Mo_accepts_58 (by decide) (fun c_58 => ?_) (fun c_58 => ?_)
          · refine pe_iconst (v := nI 0) d_Mo_accepts_65 (by decide) ?_
            refine pe_zret d_Mo_accepts_66 rfl (by decide) ?_
            exact ⟨by rw [acc_10 (by omega) hi (by rw [hg1, c_53]), decide_eq_true c_58]; rfl, rfl, ⟨_, _, hMo⟩, hf⟩
          · refine pe_iconst (v := nI 1) d_Mo_accepts_61 (by decide) ?_
            refine pe_goto (tgt := 66) d_Mo_accepts_62 (by decide) ?_
            refine pe_zret d_Mo_accepts_66 rfl (by decide) ?_
            exact ⟨by rw [acc_10 (by omega) hi (by rw [hg1, c_53]), decide_eq_false c_58]; rfl, rfl, ⟨_, _, hMo⟩, hf⟩
  change pz_E l L xs M_Mo_accepts 1 0 0 0 [some (.ref 166), some (.int (nI a)), none, none, none, none, none] [] h z _
  refine pe_aload_n d_Mo_accepts_0 rfl ?_
  refine pe_iconst (v := nI 0) d_Mo_accepts_1 (by decide) ?_
  refine pe_put d_Mo_accepts_2 g_Mo_81 hMo (Nat.le_of_ble_eq_true rfl) rfl ?_
  refine pe_pu (fun h2 e2 o2 => ?_)
  have hMo := e2
  have hCd := (o2 (179) (by omega)).trans hCd
  have hFm := (o2 (181) (by omega)).trans hFm
  have hf := hf.st o2 (by decide)
  refine pe_aload_n d_Mo_accepts_5 rfl ?_
  refine pe_iconst (v := nI 0) d_Mo_accepts_6 (by decide) ?_
  refine pe_put d_Mo_accepts_7 g_Mo_84 hMo (Nat.le_of_ble_eq_true rfl) rfl ?_
  refine pe_pu (fun h2 e2 o2 => ?_)
  have hMo := e2
  have hCd := (o2 (179) (by omega)).trans hCd
  have hFm := (o2 (181) (by omega)).trans hFm
  have hf := hf.st o2 (by decide)
  refine pe_iconst (v := nI 0) d_Mo_accepts_10 (by decide) ?_
  refine pe_istore_n d_Mo_accepts_11 (by decide) rfl ?_
  dsimp only [List.set]
  exact loop 17 0 0 (nI 0) (nI 0) _ hg0 (by omega) (by omega) hMo hCd hFm hf
