/-! the constructor of the reference -/
set_option maxHeartbeats 4000000 in
set_option maxRecDepth 20000 in
theorem c_Mo_init_p {l : Launch} {L : Nat} {xs : Nat → Int32} {h : pz_H} {z : Nat} {d fc fs : Nat} {Q : pz_Q} {st : List Value} (x y : Int32) (kk : pz_E l L xs M_Mo_init d fc fs 260 [some (.ref 166), some (.int x), some (.int y), none] (.int (nI (clp x)) :: st) h z Q) : pz_E l L xs M_Mo_init d fc fs 239 [some (.ref 166), some (.int x), some (.int y), none] st h z Q := by
  refine pe_iload_n d_Mo_init_239 rfl ?_
  refine pe_iconst (v := nI 4) d_Mo_init_240 (by decide) ?_
  refine pe_icmp_ge (tgt := 248) d_Mo_init_241 (by decide) (fun c_241 => ?_) (fun c_241 => ?_)
  · refine pe_iload_n d_Mo_init_248 rfl ?_
    refine pe_bipush (v := nI 32) d_Mo_init_249 (by decide) ?_
    refine pe_icmp_le (tgt := 259) d_Mo_init_251 (by decide) (fun c_251 => ?_) (fun c_251 => ?_)
    · refine pe_iload_n d_Mo_init_259 rfl ?_
      refine pe_top (y := .int (nI (clp x))) (by exact congrArg Value.int (clp_N (Int32.not_lt.mpr c_241) (Int32.not_lt.mpr c_251)).1) ?_
      exact kk
    · refine pe_bipush (v := nI 32) d_Mo_init_254 (by decide) ?_
      refine pe_goto (tgt := 260) d_Mo_init_256 (by decide) ?_
      refine pe_top (y := .int (nI (clp x))) (by unfold clp; rw [if_neg (Int32.not_lt.mpr c_241), if_pos (Int32.not_le.mp c_251)]) ?_
      exact kk
  · refine pe_iconst (v := nI 4) d_Mo_init_244 (by decide) ?_
    refine pe_goto (tgt := 260) d_Mo_init_245 (by decide) ?_
    refine pe_top (y := .int (nI (clp x))) (by unfold clp; rw [if_pos (Int32.not_le.mp c_241)]) ?_
    exact kk
set_option maxHeartbeats 4000000 in
set_option maxRecDepth 20000 in
theorem c_Mo_init_b {l : Launch} {L : Nat} {xs : Nat → Int32} {h : pz_H} {z : Nat} {d fc fs : Nat} {Q : pz_Q} {st : List Value} (x y : Int32) (kk : pz_E l L xs M_Mo_init d fc fs 285 [some (.ref 166), some (.int x), some (.int y), none] (.int (nI (clp y)) :: st) h z Q) : pz_E l L xs M_Mo_init d fc fs 264 [some (.ref 166), some (.int x), some (.int y), none] st h z Q := by
  refine pe_iload_n d_Mo_init_264 rfl ?_
  refine pe_iconst (v := nI 4) d_Mo_init_265 (by decide) ?_
  refine pe_icmp_ge (tgt := 273) d_Mo_init_266 (by decide) (fun c_266 => ?_) (fun c_266 => ?_)
  · refine pe_iload_n d_Mo_init_273 rfl ?_
    refine pe_bipush (v := nI 32) d_Mo_init_274 (by decide) ?_
    refine pe_icmp_le (tgt := 284) d_Mo_init_276 (by decide) (fun c_276 => ?_) (fun c_276 => ?_)
    · refine pe_iload_n d_Mo_init_284 rfl ?_
      refine pe_top (y := .int (nI (clp y))) (by exact congrArg Value.int (clp_N (Int32.not_lt.mpr c_266) (Int32.not_lt.mpr c_276)).1) ?_
      exact kk
    · refine pe_bipush (v := nI 32) d_Mo_init_279 (by decide) ?_
      refine pe_goto (tgt := 285) d_Mo_init_281 (by decide) ?_
      refine pe_top (y := .int (nI (clp y))) (by unfold clp; rw [if_neg (Int32.not_lt.mpr c_266), if_pos (Int32.not_le.mp c_276)]) ?_
      exact kk
  · refine pe_iconst (v := nI 4) d_Mo_init_269 (by decide) ?_
    refine pe_goto (tgt := 285) d_Mo_init_270 (by decide) ?_
    refine pe_top (y := .int (nI (clp y))) (by unfold clp; rw [if_pos (Int32.not_le.mp c_266)]) ?_
    exact kk
set_option maxHeartbeats 4000000 in
set_option maxRecDepth 20000 in
theorem c_Mo_init {l : Launch} {L : Nat} {xs : Nat → Int32} {h : pz_H} (x y : Int32) (hMo : h 166 = some (.inr (10, [.int 0, .int 0, .null, .null, .null, .null, .int 0, .int 0, .int 0, .null, .null, .null, .null, .null, .null, .null, .null, .null, .null, .int 0, .int 0, .null, .null, .null, .null, .int 0, .int 0, .null, .null, .null, .null, .null, .null]))) : pz_K l L xs M_Mo_init 1 24 2382 [.ref 166, .int x, .int y] h 167 (fun v h' z' => v = none ∧ z' = 191 ∧ MOB h' (clp x) (clp y) 0 0 0 0 0 0 0 ∧ AB h' 167 6 (fun _ => false) ∧ AB h' 168 6 (fun _ => false) ∧ AI h' 169 6 (fun _ => 0) ∧ AI h' 170 6 (fun _ => 0) ∧ AI h' 171 32 (fil (fun _ => 0) (fun _ => -1) 0 32) ∧ AI h' 172 32 (fun _ => 0) ∧ AI h' 173 32 (fun _ => 0) ∧ AI h' 174 192 (fun _ => 0) ∧ AI h' 175 128 (fun _ => 0) ∧ AI h' 176 48 (fun _ => 0) ∧ AN h' 177 6 (fun _ => 0) ∧ AN h' 178 12 (fun _ => 0) ∧ AI h' 179 768 (fun _ => 0) ∧ AI h' 180 6 (fun _ => 0) ∧ AI h' 181 16 (fun _ => 0) ∧ AN h' 182 6 (fun _ => 0) ∧ AN h' 183 24 (fun _ => 0) ∧ AI h' 184 384 (fun _ => 0) ∧ AI h' 185 32 (fil (fun _ => 0) (fun _ => -1) 0 32) ∧ AI h' 186 256 (fun _ => 0) ∧ AI h' 187 42 (fun _ => 0) ∧ AN h' 188 6 (fun _ => 0) ∧ AI h' 189 168 (fun _ => 0) ∧ AI h' 190 168 (fun _ => 0) ∧ frm 166 191 h h') := by
  refine pz_K.of rfl (Nat.le_of_ble_eq_true rfl) ?_
  have hf : frm 166 191 h h := frm.rf
  have loop : ∀ (n : Nat) (i : Nat) (k : pz_H), i ≤ 32 → 33 ≤ i + n → MOB k (clp x) (clp y) 0 0 0 0 0 0 0 → AB k 167 6 (fun _ => false) → AB k 168 6 (fun _ => false) → AI k 169 6 (fun _ => 0) → AI k 170 6 (fun _ => 0) → AI k 171 32 (fil (fun _ => 0) (fun _ => -1) 0 i) → AI k 172 32 (fun _ => 0) → AI k 173 32 (fun _ => 0) → AI k 174 192 (fun _ => 0) → AI k 175 128 (fun _ => 0) → AI k 176 48 (fun _ => 0) → AN k 177 6 (fun _ => 0) → AN k 178 12 (fun _ => 0) → AI k 179 768 (fun _ => 0) → AI k 180 6 (fun _ => 0) → AI k 181 16 (fun _ => 0) → AN k 182 6 (fun _ => 0) → AN k 183 24 (fun _ => 0) → AI k 184 384 (fun _ => 0) → AI k 185 32 (fil (fun _ => 0) (fun _ => -1) 0 i) → AI k 186 256 (fun _ => 0) → AI k 187 42 (fun _ => 0) → AN k 188 6 (fun _ => 0) → AI k 189 168 (fun _ => 0) → AI k 190 168 (fun _ => 0) → frm 166 191 h k → pz_E l L xs M_Mo_init 1 0 0 290 [some (.ref 166), some (.int x), some (.int y), some (.int (nI i))] [] k 191 (fun v h' z' => v = none ∧ z' = 191 ∧ MOB h' (clp x) (clp y) 0 0 0 0 0 0 0 ∧ AB h' 167 6 (fun _ => false) ∧ AB h' 168 6 (fun _ => false) ∧ AI h' 169 6 (fun _ => 0) ∧ AI h' 170 6 (fun _ => 0) ∧ AI h' 171 32 (fil (fun _ => 0) (fun _ => -1) 0 32) ∧ AI h' 172 32 (fun _ => 0) ∧ AI h' 173 32 (fun _ => 0) ∧ AI h' 174 192 (fun _ => 0) ∧ AI h' 175 128 (fun _ => 0) ∧ AI h' 176 48 (fun _ => 0) ∧ AN h' 177 6 (fun _ => 0) ∧ AN h' 178 12 (fun _ => 0) ∧ AI h' 179 768 (fun _ => 0) ∧ AI h' 180 6 (fun _ => 0) ∧ AI h' 181 16 (fun _ => 0) ∧ AN h' 182 6 (fun _ => 0) ∧ AN h' 183 24 (fun _ => 0) ∧ AI h' 184 384 (fun _ => 0) ∧ AI h' 185 32 (fil (fun _ => 0) (fun _ => -1) 0 32) ∧ AI h' 186 256 (fun _ => 0) ∧ AI h' 187 42 (fun _ => 0) ∧ AN h' 188 6 (fun _ => 0) ∧ AI h' 189 168 (fun _ => 0) ∧ AI h' 190 168 (fun _ => 0) ∧ frm 166 191 h h') := by
    intro n
    induction n with
    | zero => intros; omega
    | succ n ih =>
      intro i k hi hin hMo hOp hIm hFi hLi hOw hTk hDl hRt hWd hGo hGm hLn hCd hSt hFm hFs hFl hFb hHo hWo hDa hEn hKe hVa hf
      refine pe_iload_n d_Mo_init_290 rfl ?_
      refine pe_bipush (v := nI 32) d_Mo_init_291 (by decide) ?_
      refine pe_icmpN_ge (tgt := 316) d_Mo_init_293 (by decide) (by omega) (by omega) (fun c_293 => ?_) (fun c_293 => ?_)
      · refine pe_vret d_Mo_init_316 rfl ?_
        have e : i = 32 := by omega
        subst e
        exact ⟨rfl, rfl, hMo, hOp, hIm, hFi, hLi, hOw, hTk, hDl, hRt, hWd, hGo, hGm, hLn, hCd, hSt, hFm, hFs, hFl, hFb, hHo, hWo, hDa, hEn, hKe, hVa, hf⟩
      · refine pe_aload_n d_Mo_init_296 rfl ?_
        refine pe_getf d_Mo_init_297 f_Mo_33 hMo rfl ?_
        refine pe_iload_n d_Mo_init_300 rfl ?_
        refine pe_iconst (v := -1) d_Mo_init_301 (by decide) ?_
        refine pe_iastN d_Mo_init_302 hOw (by omega) (by omega) ?_
        refine pe_pu (fun h2 e2 o2 => ?_)
        have hMo := (o2 (166) (by omega)).trans hMo
        have hOp := (o2 (167) (by omega)).trans hOp
        have hIm := (o2 (168) (by omega)).trans hIm
        have hFi := (o2 (169) (by omega)).trans hFi
        have hLi := (o2 (170) (by omega)).trans hLi
        have hOw := e2
        have hTk := (o2 (172) (by omega)).trans hTk
        have hDl := (o2 (173) (by omega)).trans hDl
        have hRt := (o2 (174) (by omega)).trans hRt
        have hWd := (o2 (175) (by omega)).trans hWd
        have hGo := (o2 (176) (by omega)).trans hGo
        have hGm := (o2 (177) (by omega)).trans hGm
        have hLn := (o2 (178) (by omega)).trans hLn
        have hCd := (o2 (179) (by omega)).trans hCd
        have hSt := (o2 (180) (by omega)).trans hSt
        have hFm := (o2 (181) (by omega)).trans hFm
        have hFs := (o2 (182) (by omega)).trans hFs
        have hFl := (o2 (183) (by omega)).trans hFl
        have hFb := (o2 (184) (by omega)).trans hFb
        have hHo := (o2 (185) (by omega)).trans hHo
        have hWo := (o2 (186) (by omega)).trans hWo
        have hDa := (o2 (187) (by omega)).trans hDa
        have hEn := (o2 (188) (by omega)).trans hEn
        have hKe := (o2 (189) (by omega)).trans hKe
        have hVa := (o2 (190) (by omega)).trans hVa
        have hf := hf.st o2 (by omega) (by omega)
        refine pe_aload_n d_Mo_init_303 rfl ?_
        refine pe_getf d_Mo_init_304 f_Mo_87 hMo rfl ?_
        refine pe_iload_n d_Mo_init_307 rfl ?_
        refine pe_iconst (v := -1) d_Mo_init_308 (by decide) ?_
        refine pe_iastN d_Mo_init_309 hHo (by omega) (by omega) ?_
        refine pe_pu (fun h2 e2 o2 => ?_)
        have hMo := (o2 (166) (by omega)).trans hMo
        have hOp := (o2 (167) (by omega)).trans hOp
        have hIm := (o2 (168) (by omega)).trans hIm
        have hFi := (o2 (169) (by omega)).trans hFi
        have hLi := (o2 (170) (by omega)).trans hLi
        have hOw := (o2 (171) (by omega)).trans hOw
        have hTk := (o2 (172) (by omega)).trans hTk
        have hDl := (o2 (173) (by omega)).trans hDl
        have hRt := (o2 (174) (by omega)).trans hRt
        have hWd := (o2 (175) (by omega)).trans hWd
        have hGo := (o2 (176) (by omega)).trans hGo
        have hGm := (o2 (177) (by omega)).trans hGm
        have hLn := (o2 (178) (by omega)).trans hLn
        have hCd := (o2 (179) (by omega)).trans hCd
        have hSt := (o2 (180) (by omega)).trans hSt
        have hFm := (o2 (181) (by omega)).trans hFm
        have hFs := (o2 (182) (by omega)).trans hFs
        have hFl := (o2 (183) (by omega)).trans hFl
        have hFb := (o2 (184) (by omega)).trans hFb
        have hHo := e2
        have hWo := (o2 (186) (by omega)).trans hWo
        have hDa := (o2 (187) (by omega)).trans hDa
        have hEn := (o2 (188) (by omega)).trans hEn
        have hKe := (o2 (189) (by omega)).trans hKe
        have hVa := (o2 (190) (by omega)).trans hVa
        have hf := hf.st o2 (by omega) (by omega)
        refine pe_iincN d_Mo_init_310 rfl (by decide) rfl ?_
        dsimp only [List.set]
        refine pe_goto (tgt := 290) d_Mo_init_313 (by decide) ?_
        rw [show upd (fil (fun _ => 0) (fun _ => -1) 0 i) i (-1) = fil (fun _ => 0) (fun _ => -1) 0 (i + 1) from by have e9 := fil_s (fun _ => (0 : Int32)) (fun _ => -1) 0 i; rw [Nat.zero_add] at e9; exact e9] at hOw
        rw [show upd (fil (fun _ => 0) (fun _ => -1) 0 i) i (-1) = fil (fun _ => 0) (fun _ => -1) 0 (i + 1) from by have e9 := fil_s (fun _ => (0 : Int32)) (fun _ => -1) 0 i; rw [Nat.zero_add] at e9; exact e9] at hHo
        exact ih (i + 1) _ (by omega) (by omega) hMo hOp hIm hFi hLi hOw hTk hDl hRt hWd hGo hGm hLn hCd hSt hFm hFs hFl hFb hHo hWo hDa hEn hKe hVa hf
  change pz_E l L xs M_Mo_init 1 24 2382 0 [some (.ref 166), some (.int x), some (.int y), none] [] h 167 _
  refine pe_aload_n d_Mo_init_0 rfl ?_
  refine pe_objInit d_Mo_init_1 o_Mo_1 o_1 o_2 (by simp [Value.category]) (by decide) ?_
  refine pe_aload_n d_Mo_init_4 rfl ?_
  refine pe_bipush (v := nI 6) d_Mo_init_5 (by decide) ?_
  refine pe_less (fc' := 23 + 1) (fs' := 2376 + 6) (by omega) (by omega) ?_
  refine pe_newa (t := 1) (N := 6) (a0 := (6, .inl (fun _ => 0))) d_Mo_init_7 rfl ac_boolean (nI_pos (by omega)) (nI_clamp (by omega)) (by show 6 * 1 ≤ 536870912; omega) (fun _ _ => rfl) ?_
  refine pe_pu (fun h2 e2 o2 => ?_)
  have hMo := (o2 (166) (by omega)).trans hMo
  have hOp : h2 (167) = _ := e2
  have hf := hf.st o2 (by omega) (by omega)
  change pz_E _ _ _ _ _ _ _ _ _ (.ref (167) :: _) _ (168) _
  refine pe_putF d_Mo_init_9 g_Mo_7 rfl hMo (Nat.le_of_ble_eq_true rfl) rfl ?_
  refine pe_pu (fun h2 e2 o2 => ?_)
  have hMo := e2
  have hOp := (o2 (167) (by omega)).trans hOp
  have hf := hf.st o2 (by omega) (by omega)
  refine pe_aload_n d_Mo_init_12 rfl ?_
  refine pe_bipush (v := nI 6) d_Mo_init_13 (by decide) ?_
  refine pe_less (fc' := 22 + 1) (fs' := 2370 + 6) (by omega) (by omega) ?_
  refine pe_newa (t := 1) (N := 6) (a0 := (6, .inl (fun _ => 0))) d_Mo_init_15 rfl ac_boolean (nI_pos (by omega)) (nI_clamp (by omega)) (by show 6 * 1 ≤ 536870912; omega) (fun _ _ => rfl) ?_
  refine pe_pu (fun h2 e2 o2 => ?_)
  have hMo := (o2 (166) (by omega)).trans hMo
  have hOp := (o2 (167) (by omega)).trans hOp
  have hIm : h2 (168) = _ := e2
  have hf := hf.st o2 (by omega) (by omega)
  change pz_E _ _ _ _ _ _ _ _ _ (.ref (168) :: _) _ (169) _
  refine pe_putF d_Mo_init_17 g_Mo_13 rfl hMo (Nat.le_of_ble_eq_true rfl) rfl ?_
  refine pe_pu (fun h2 e2 o2 => ?_)
  have hMo := e2
  have hOp := (o2 (167) (by omega)).trans hOp
  have hIm := (o2 (168) (by omega)).trans hIm
  have hf := hf.st o2 (by omega) (by omega)
  refine pe_aload_n d_Mo_init_20 rfl ?_
  refine pe_bipush (v := nI 6) d_Mo_init_21 (by decide) ?_
  refine pe_less (fc' := 21 + 1) (fs' := 2364 + 6) (by omega) (by omega) ?_
  refine pe_newa (t := 0) (N := 6) (a0 := (6, .inl (fun _ => 0))) d_Mo_init_23 rfl ac_int (nI_pos (by omega)) (nI_clamp (by omega)) (by show 6 * 4 ≤ 536870912; omega) (fun _ _ => rfl) ?_
  refine pe_pu (fun h2 e2 o2 => ?_)
  have hMo := (o2 (166) (by omega)).trans hMo
  have hOp := (o2 (167) (by omega)).trans hOp
  have hIm := (o2 (168) (by omega)).trans hIm
  have hFi : h2 (169) = _ := e2
  have hf := hf.st o2 (by omega) (by omega)
  change pz_E _ _ _ _ _ _ _ _ _ (.ref (169) :: _) _ (170) _
  refine pe_putF d_Mo_init_25 g_Mo_16 rfl hMo (Nat.le_of_ble_eq_true rfl) rfl ?_
  refine pe_pu (fun h2 e2 o2 => ?_)
  have hMo := e2
  have hOp := (o2 (167) (by omega)).trans hOp
  have hIm := (o2 (168) (by omega)).trans hIm
  have hFi := (o2 (169) (by omega)).trans hFi
  have hf := hf.st o2 (by omega) (by omega)
  refine pe_aload_n d_Mo_init_28 rfl ?_
  refine pe_bipush (v := nI 6) d_Mo_init_29 (by decide) ?_
  refine pe_less (fc' := 20 + 1) (fs' := 2358 + 6) (by omega) (by omega) ?_
  refine pe_newa (t := 0) (N := 6) (a0 := (6, .inl (fun _ => 0))) d_Mo_init_31 rfl ac_int (nI_pos (by omega)) (nI_clamp (by omega)) (by show 6 * 4 ≤ 536870912; omega) (fun _ _ => rfl) ?_
  refine pe_pu (fun h2 e2 o2 => ?_)
  have hMo := (o2 (166) (by omega)).trans hMo
  have hOp := (o2 (167) (by omega)).trans hOp
  have hIm := (o2 (168) (by omega)).trans hIm
  have hFi := (o2 (169) (by omega)).trans hFi
  have hLi : h2 (170) = _ := e2
  have hf := hf.st o2 (by omega) (by omega)
  change pz_E _ _ _ _ _ _ _ _ _ (.ref (170) :: _) _ (171) _
  refine pe_putF d_Mo_init_33 g_Mo_20 rfl hMo (Nat.le_of_ble_eq_true rfl) rfl ?_
  refine pe_pu (fun h2 e2 o2 => ?_)
  have hMo := e2
  have hOp := (o2 (167) (by omega)).trans hOp
  have hIm := (o2 (168) (by omega)).trans hIm
  have hFi := (o2 (169) (by omega)).trans hFi
  have hLi := (o2 (170) (by omega)).trans hLi
  have hf := hf.st o2 (by omega) (by omega)
  refine pe_aload_n d_Mo_init_36 rfl ?_
  refine pe_iconst (v := nI 0) d_Mo_init_37 (by decide) ?_
  refine pe_put d_Mo_init_38 g_Mo_23 hMo (Nat.le_of_ble_eq_true rfl) rfl ?_
  refine pe_pu (fun h2 e2 o2 => ?_)
  have hMo := e2
  have hOp := (o2 (167) (by omega)).trans hOp
  have hIm := (o2 (168) (by omega)).trans hIm
  have hFi := (o2 (169) (by omega)).trans hFi
  have hLi := (o2 (170) (by omega)).trans hLi
  have hf := hf.st o2 (by omega) (by omega)
  refine pe_aload_n d_Mo_init_41 rfl ?_
  refine pe_iconst (v := nI 0) d_Mo_init_42 (by decide) ?_
  refine pe_put d_Mo_init_43 g_Mo_27 hMo (Nat.le_of_ble_eq_true rfl) rfl ?_
  refine pe_pu (fun h2 e2 o2 => ?_)
  have hMo := e2
  have hOp := (o2 (167) (by omega)).trans hOp
  have hIm := (o2 (168) (by omega)).trans hIm
  have hFi := (o2 (169) (by omega)).trans hFi
  have hLi := (o2 (170) (by omega)).trans hLi
  have hf := hf.st o2 (by omega) (by omega)
  refine pe_aload_n d_Mo_init_46 rfl ?_
  refine pe_iconst (v := nI 0) d_Mo_init_47 (by decide) ?_
  refine pe_put d_Mo_init_48 g_Mo_30 hMo (Nat.le_of_ble_eq_true rfl) rfl ?_
  refine pe_pu (fun h2 e2 o2 => ?_)
  have hMo := e2
  have hOp := (o2 (167) (by omega)).trans hOp
  have hIm := (o2 (168) (by omega)).trans hIm
  have hFi := (o2 (169) (by omega)).trans hFi
  have hLi := (o2 (170) (by omega)).trans hLi
  have hf := hf.st o2 (by omega) (by omega)
  refine pe_aload_n d_Mo_init_51 rfl ?_
  refine pe_bipush (v := nI 32) d_Mo_init_52 (by decide) ?_
  refine pe_less (fc' := 19 + 1) (fs' := 2326 + 32) (by omega) (by omega) ?_
  refine pe_newa (t := 0) (N := 32) (a0 := (32, .inl (fun _ => 0))) d_Mo_init_54 rfl ac_int (nI_pos (by omega)) (nI_clamp (by omega)) (by show 32 * 4 ≤ 536870912; omega) (fun _ _ => rfl) ?_
  refine pe_pu (fun h2 e2 o2 => ?_)
  have hMo := (o2 (166) (by omega)).trans hMo
  have hOp := (o2 (167) (by omega)).trans hOp
  have hIm := (o2 (168) (by omega)).trans hIm
  have hFi := (o2 (169) (by omega)).trans hFi
  have hLi := (o2 (170) (by omega)).trans hLi
  have hOw : h2 (171) = _ := e2
  have hf := hf.st o2 (by omega) (by omega)
  change pz_E _ _ _ _ _ _ _ _ _ (.ref (171) :: _) _ (172) _
  refine pe_putF d_Mo_init_56 g_Mo_33 rfl hMo (Nat.le_of_ble_eq_true rfl) rfl ?_
  refine pe_pu (fun h2 e2 o2 => ?_)
  have hMo := e2
  have hOp := (o2 (167) (by omega)).trans hOp
  have hIm := (o2 (168) (by omega)).trans hIm
  have hFi := (o2 (169) (by omega)).trans hFi
  have hLi := (o2 (170) (by omega)).trans hLi
  have hOw := (o2 (171) (by omega)).trans hOw
  have hf := hf.st o2 (by omega) (by omega)
  refine pe_aload_n d_Mo_init_59 rfl ?_
  refine pe_bipush (v := nI 32) d_Mo_init_60 (by decide) ?_
  refine pe_less (fc' := 18 + 1) (fs' := 2294 + 32) (by omega) (by omega) ?_
  refine pe_newa (t := 0) (N := 32) (a0 := (32, .inl (fun _ => 0))) d_Mo_init_62 rfl ac_int (nI_pos (by omega)) (nI_clamp (by omega)) (by show 32 * 4 ≤ 536870912; omega) (fun _ _ => rfl) ?_
  refine pe_pu (fun h2 e2 o2 => ?_)
  have hMo := (o2 (166) (by omega)).trans hMo
  have hOp := (o2 (167) (by omega)).trans hOp
  have hIm := (o2 (168) (by omega)).trans hIm
  have hFi := (o2 (169) (by omega)).trans hFi
  have hLi := (o2 (170) (by omega)).trans hLi
  have hOw := (o2 (171) (by omega)).trans hOw
  have hTk : h2 (172) = _ := e2
  have hf := hf.st o2 (by omega) (by omega)
  change pz_E _ _ _ _ _ _ _ _ _ (.ref (172) :: _) _ (173) _
  refine pe_putF d_Mo_init_64 g_Mo_36 rfl hMo (Nat.le_of_ble_eq_true rfl) rfl ?_
  refine pe_pu (fun h2 e2 o2 => ?_)
  have hMo := e2
  have hOp := (o2 (167) (by omega)).trans hOp
  have hIm := (o2 (168) (by omega)).trans hIm
  have hFi := (o2 (169) (by omega)).trans hFi
  have hLi := (o2 (170) (by omega)).trans hLi
  have hOw := (o2 (171) (by omega)).trans hOw
  have hTk := (o2 (172) (by omega)).trans hTk
  have hf := hf.st o2 (by omega) (by omega)
  refine pe_aload_n d_Mo_init_67 rfl ?_
  refine pe_bipush (v := nI 32) d_Mo_init_68 (by decide) ?_
  refine pe_less (fc' := 17 + 1) (fs' := 2262 + 32) (by omega) (by omega) ?_
  refine pe_newa (t := 0) (N := 32) (a0 := (32, .inl (fun _ => 0))) d_Mo_init_70 rfl ac_int (nI_pos (by omega)) (nI_clamp (by omega)) (by show 32 * 4 ≤ 536870912; omega) (fun _ _ => rfl) ?_
  refine pe_pu (fun h2 e2 o2 => ?_)
  have hMo := (o2 (166) (by omega)).trans hMo
  have hOp := (o2 (167) (by omega)).trans hOp
  have hIm := (o2 (168) (by omega)).trans hIm
  have hFi := (o2 (169) (by omega)).trans hFi
  have hLi := (o2 (170) (by omega)).trans hLi
  have hOw := (o2 (171) (by omega)).trans hOw
  have hTk := (o2 (172) (by omega)).trans hTk
  have hDl : h2 (173) = _ := e2
  have hf := hf.st o2 (by omega) (by omega)
  change pz_E _ _ _ _ _ _ _ _ _ (.ref (173) :: _) _ (174) _
  refine pe_putF d_Mo_init_72 g_Mo_39 rfl hMo (Nat.le_of_ble_eq_true rfl) rfl ?_
  refine pe_pu (fun h2 e2 o2 => ?_)
  have hMo := e2
  have hOp := (o2 (167) (by omega)).trans hOp
  have hIm := (o2 (168) (by omega)).trans hIm
  have hFi := (o2 (169) (by omega)).trans hFi
  have hLi := (o2 (170) (by omega)).trans hLi
  have hOw := (o2 (171) (by omega)).trans hOw
  have hTk := (o2 (172) (by omega)).trans hTk
  have hDl := (o2 (173) (by omega)).trans hDl
  have hf := hf.st o2 (by omega) (by omega)
  refine pe_aload_n d_Mo_init_75 rfl ?_
  refine pe_sipush (v := nI 192) d_Mo_init_76 (by decide) ?_
  refine pe_less (fc' := 16 + 1) (fs' := 2070 + 192) (by omega) (by omega) ?_
  refine pe_newa (t := 0) (N := 192) (a0 := (192, .inl (fun _ => 0))) d_Mo_init_79 rfl ac_int (nI_pos (by omega)) (nI_clamp (by omega)) (by show 192 * 4 ≤ 536870912; omega) (fun _ _ => rfl) ?_
  refine pe_pu (fun h2 e2 o2 => ?_)
  have hMo := (o2 (166) (by omega)).trans hMo
  have hOp := (o2 (167) (by omega)).trans hOp
  have hIm := (o2 (168) (by omega)).trans hIm
  have hFi := (o2 (169) (by omega)).trans hFi
  have hLi := (o2 (170) (by omega)).trans hLi
  have hOw := (o2 (171) (by omega)).trans hOw
  have hTk := (o2 (172) (by omega)).trans hTk
  have hDl := (o2 (173) (by omega)).trans hDl
  have hRt : h2 (174) = _ := e2
  have hf := hf.st o2 (by omega) (by omega)
  change pz_E _ _ _ _ _ _ _ _ _ (.ref (174) :: _) _ (175) _
  refine pe_putF d_Mo_init_81 g_Mo_42 rfl hMo (Nat.le_of_ble_eq_true rfl) rfl ?_
  refine pe_pu (fun h2 e2 o2 => ?_)
  have hMo := e2
  have hOp := (o2 (167) (by omega)).trans hOp
  have hIm := (o2 (168) (by omega)).trans hIm
  have hFi := (o2 (169) (by omega)).trans hFi
  have hLi := (o2 (170) (by omega)).trans hLi
  have hOw := (o2 (171) (by omega)).trans hOw
  have hTk := (o2 (172) (by omega)).trans hTk
  have hDl := (o2 (173) (by omega)).trans hDl
  have hRt := (o2 (174) (by omega)).trans hRt
  have hf := hf.st o2 (by omega) (by omega)
  refine pe_aload_n d_Mo_init_84 rfl ?_
  refine pe_sipush (v := nI 128) d_Mo_init_85 (by decide) ?_
  refine pe_less (fc' := 15 + 1) (fs' := 1942 + 128) (by omega) (by omega) ?_
  refine pe_newa (t := 0) (N := 128) (a0 := (128, .inl (fun _ => 0))) d_Mo_init_88 rfl ac_int (nI_pos (by omega)) (nI_clamp (by omega)) (by show 128 * 4 ≤ 536870912; omega) (fun _ _ => rfl) ?_
  refine pe_pu (fun h2 e2 o2 => ?_)
  have hMo := (o2 (166) (by omega)).trans hMo
  have hOp := (o2 (167) (by omega)).trans hOp
  have hIm := (o2 (168) (by omega)).trans hIm
  have hFi := (o2 (169) (by omega)).trans hFi
  have hLi := (o2 (170) (by omega)).trans hLi
  have hOw := (o2 (171) (by omega)).trans hOw
  have hTk := (o2 (172) (by omega)).trans hTk
  have hDl := (o2 (173) (by omega)).trans hDl
  have hRt := (o2 (174) (by omega)).trans hRt
  have hWd : h2 (175) = _ := e2
  have hf := hf.st o2 (by omega) (by omega)
  change pz_E _ _ _ _ _ _ _ _ _ (.ref (175) :: _) _ (176) _
  refine pe_putF d_Mo_init_90 g_Mo_45 rfl hMo (Nat.le_of_ble_eq_true rfl) rfl ?_
  refine pe_pu (fun h2 e2 o2 => ?_)
  have hMo := e2
  have hOp := (o2 (167) (by omega)).trans hOp
  have hIm := (o2 (168) (by omega)).trans hIm
  have hFi := (o2 (169) (by omega)).trans hFi
  have hLi := (o2 (170) (by omega)).trans hLi
  have hOw := (o2 (171) (by omega)).trans hOw
  have hTk := (o2 (172) (by omega)).trans hTk
  have hDl := (o2 (173) (by omega)).trans hDl
  have hRt := (o2 (174) (by omega)).trans hRt
  have hWd := (o2 (175) (by omega)).trans hWd
  have hf := hf.st o2 (by omega) (by omega)
  refine pe_aload_n d_Mo_init_93 rfl ?_
  refine pe_bipush (v := nI 48) d_Mo_init_94 (by decide) ?_
  refine pe_less (fc' := 14 + 1) (fs' := 1894 + 48) (by omega) (by omega) ?_
  refine pe_newa (t := 0) (N := 48) (a0 := (48, .inl (fun _ => 0))) d_Mo_init_96 rfl ac_int (nI_pos (by omega)) (nI_clamp (by omega)) (by show 48 * 4 ≤ 536870912; omega) (fun _ _ => rfl) ?_
  refine pe_pu (fun h2 e2 o2 => ?_)
  have hMo := (o2 (166) (by omega)).trans hMo
  have hOp := (o2 (167) (by omega)).trans hOp
  have hIm := (o2 (168) (by omega)).trans hIm
  have hFi := (o2 (169) (by omega)).trans hFi
  have hLi := (o2 (170) (by omega)).trans hLi
  have hOw := (o2 (171) (by omega)).trans hOw
  have hTk := (o2 (172) (by omega)).trans hTk
  have hDl := (o2 (173) (by omega)).trans hDl
  have hRt := (o2 (174) (by omega)).trans hRt
  have hWd := (o2 (175) (by omega)).trans hWd
  have hGo : h2 (176) = _ := e2
  have hf := hf.st o2 (by omega) (by omega)
  change pz_E _ _ _ _ _ _ _ _ _ (.ref (176) :: _) _ (177) _
  refine pe_putF d_Mo_init_98 g_Mo_48 rfl hMo (Nat.le_of_ble_eq_true rfl) rfl ?_
  refine pe_pu (fun h2 e2 o2 => ?_)
  have hMo := e2
  have hOp := (o2 (167) (by omega)).trans hOp
  have hIm := (o2 (168) (by omega)).trans hIm
  have hFi := (o2 (169) (by omega)).trans hFi
  have hLi := (o2 (170) (by omega)).trans hLi
  have hOw := (o2 (171) (by omega)).trans hOw
  have hTk := (o2 (172) (by omega)).trans hTk
  have hDl := (o2 (173) (by omega)).trans hDl
  have hRt := (o2 (174) (by omega)).trans hRt
  have hWd := (o2 (175) (by omega)).trans hWd
  have hGo := (o2 (176) (by omega)).trans hGo
  have hf := hf.st o2 (by omega) (by omega)
  refine pe_aload_n d_Mo_init_101 rfl ?_
  refine pe_bipush (v := nI 6) d_Mo_init_102 (by decide) ?_
  refine pe_less (fc' := 13 + 1) (fs' := 1888 + 6) (by omega) (by omega) ?_
  refine pe_newa (t := 0) (N := 6) (a0 := (6, .inl (fun _ => 0))) d_Mo_init_104 rfl ac_int (nI_pos (by omega)) (nI_clamp (by omega)) (by show 6 * 4 ≤ 536870912; omega) (fun _ _ => rfl) ?_
  refine pe_pu (fun h2 e2 o2 => ?_)
  have hMo := (o2 (166) (by omega)).trans hMo
  have hOp := (o2 (167) (by omega)).trans hOp
  have hIm := (o2 (168) (by omega)).trans hIm
  have hFi := (o2 (169) (by omega)).trans hFi
  have hLi := (o2 (170) (by omega)).trans hLi
  have hOw := (o2 (171) (by omega)).trans hOw
  have hTk := (o2 (172) (by omega)).trans hTk
  have hDl := (o2 (173) (by omega)).trans hDl
  have hRt := (o2 (174) (by omega)).trans hRt
  have hWd := (o2 (175) (by omega)).trans hWd
  have hGo := (o2 (176) (by omega)).trans hGo
  have hGm : h2 (177) = _ := e2
  have hf := hf.st o2 (by omega) (by omega)
  change pz_E _ _ _ _ _ _ _ _ _ (.ref (177) :: _) _ (178) _
  refine pe_putF d_Mo_init_106 g_Mo_51 rfl hMo (Nat.le_of_ble_eq_true rfl) rfl ?_
  refine pe_pu (fun h2 e2 o2 => ?_)
  have hMo := e2
  have hOp := (o2 (167) (by omega)).trans hOp
  have hIm := (o2 (168) (by omega)).trans hIm
  have hFi := (o2 (169) (by omega)).trans hFi
  have hLi := (o2 (170) (by omega)).trans hLi
  have hOw := (o2 (171) (by omega)).trans hOw
  have hTk := (o2 (172) (by omega)).trans hTk
  have hDl := (o2 (173) (by omega)).trans hDl
  have hRt := (o2 (174) (by omega)).trans hRt
  have hWd := (o2 (175) (by omega)).trans hWd
  have hGo := (o2 (176) (by omega)).trans hGo
  have hGm := (o2 (177) (by omega)).trans hGm
  have hf := hf.st o2 (by omega) (by omega)
  refine pe_aload_n d_Mo_init_109 rfl ?_
  refine pe_bipush (v := nI 12) d_Mo_init_110 (by decide) ?_
  refine pe_less (fc' := 12 + 1) (fs' := 1876 + 12) (by omega) (by omega) ?_
  refine pe_newa (t := 0) (N := 12) (a0 := (12, .inl (fun _ => 0))) d_Mo_init_112 rfl ac_int (nI_pos (by omega)) (nI_clamp (by omega)) (by show 12 * 4 ≤ 536870912; omega) (fun _ _ => rfl) ?_
  refine pe_pu (fun h2 e2 o2 => ?_)
  have hMo := (o2 (166) (by omega)).trans hMo
  have hOp := (o2 (167) (by omega)).trans hOp
  have hIm := (o2 (168) (by omega)).trans hIm
  have hFi := (o2 (169) (by omega)).trans hFi
  have hLi := (o2 (170) (by omega)).trans hLi
  have hOw := (o2 (171) (by omega)).trans hOw
  have hTk := (o2 (172) (by omega)).trans hTk
  have hDl := (o2 (173) (by omega)).trans hDl
  have hRt := (o2 (174) (by omega)).trans hRt
  have hWd := (o2 (175) (by omega)).trans hWd
  have hGo := (o2 (176) (by omega)).trans hGo
  have hGm := (o2 (177) (by omega)).trans hGm
  have hLn : h2 (178) = _ := e2
  have hf := hf.st o2 (by omega) (by omega)
  change pz_E _ _ _ _ _ _ _ _ _ (.ref (178) :: _) _ (179) _
  refine pe_putF d_Mo_init_114 g_Mo_54 rfl hMo (Nat.le_of_ble_eq_true rfl) rfl ?_
  refine pe_pu (fun h2 e2 o2 => ?_)
  have hMo := e2
  have hOp := (o2 (167) (by omega)).trans hOp
  have hIm := (o2 (168) (by omega)).trans hIm
  have hFi := (o2 (169) (by omega)).trans hFi
  have hLi := (o2 (170) (by omega)).trans hLi
  have hOw := (o2 (171) (by omega)).trans hOw
  have hTk := (o2 (172) (by omega)).trans hTk
  have hDl := (o2 (173) (by omega)).trans hDl
  have hRt := (o2 (174) (by omega)).trans hRt
  have hWd := (o2 (175) (by omega)).trans hWd
  have hGo := (o2 (176) (by omega)).trans hGo
  have hGm := (o2 (177) (by omega)).trans hGm
  have hLn := (o2 (178) (by omega)).trans hLn
  have hf := hf.st o2 (by omega) (by omega)
  refine pe_aload_n d_Mo_init_117 rfl ?_
  refine pe_sipush (v := nI 768) d_Mo_init_118 (by decide) ?_
  refine pe_less (fc' := 11 + 1) (fs' := 1108 + 768) (by omega) (by omega) ?_
  refine pe_newa (t := 0) (N := 768) (a0 := (768, .inl (fun _ => 0))) d_Mo_init_121 rfl ac_int (nI_pos (by omega)) (nI_clamp (by omega)) (by show 768 * 4 ≤ 536870912; omega) (fun _ _ => rfl) ?_
  refine pe_pu (fun h2 e2 o2 => ?_)
  have hMo := (o2 (166) (by omega)).trans hMo
  have hOp := (o2 (167) (by omega)).trans hOp
  have hIm := (o2 (168) (by omega)).trans hIm
  have hFi := (o2 (169) (by omega)).trans hFi
  have hLi := (o2 (170) (by omega)).trans hLi
  have hOw := (o2 (171) (by omega)).trans hOw
  have hTk := (o2 (172) (by omega)).trans hTk
  have hDl := (o2 (173) (by omega)).trans hDl
  have hRt := (o2 (174) (by omega)).trans hRt
  have hWd := (o2 (175) (by omega)).trans hWd
  have hGo := (o2 (176) (by omega)).trans hGo
  have hGm := (o2 (177) (by omega)).trans hGm
  have hLn := (o2 (178) (by omega)).trans hLn
  have hCd : h2 (179) = _ := e2
  have hf := hf.st o2 (by omega) (by omega)
  change pz_E _ _ _ _ _ _ _ _ _ (.ref (179) :: _) _ (180) _
  refine pe_putF d_Mo_init_123 g_Mo_57 rfl hMo (Nat.le_of_ble_eq_true rfl) rfl ?_
  refine pe_pu (fun h2 e2 o2 => ?_)
  have hMo := e2
  have hOp := (o2 (167) (by omega)).trans hOp
  have hIm := (o2 (168) (by omega)).trans hIm
  have hFi := (o2 (169) (by omega)).trans hFi
  have hLi := (o2 (170) (by omega)).trans hLi
  have hOw := (o2 (171) (by omega)).trans hOw
  have hTk := (o2 (172) (by omega)).trans hTk
  have hDl := (o2 (173) (by omega)).trans hDl
  have hRt := (o2 (174) (by omega)).trans hRt
  have hWd := (o2 (175) (by omega)).trans hWd
  have hGo := (o2 (176) (by omega)).trans hGo
  have hGm := (o2 (177) (by omega)).trans hGm
  have hLn := (o2 (178) (by omega)).trans hLn
  have hCd := (o2 (179) (by omega)).trans hCd
  have hf := hf.st o2 (by omega) (by omega)
  refine pe_aload_n d_Mo_init_126 rfl ?_
  refine pe_bipush (v := nI 6) d_Mo_init_127 (by decide) ?_
  refine pe_less (fc' := 10 + 1) (fs' := 1102 + 6) (by omega) (by omega) ?_
  refine pe_newa (t := 0) (N := 6) (a0 := (6, .inl (fun _ => 0))) d_Mo_init_129 rfl ac_int (nI_pos (by omega)) (nI_clamp (by omega)) (by show 6 * 4 ≤ 536870912; omega) (fun _ _ => rfl) ?_
  refine pe_pu (fun h2 e2 o2 => ?_)
  have hMo := (o2 (166) (by omega)).trans hMo
  have hOp := (o2 (167) (by omega)).trans hOp
  have hIm := (o2 (168) (by omega)).trans hIm
  have hFi := (o2 (169) (by omega)).trans hFi
  have hLi := (o2 (170) (by omega)).trans hLi
  have hOw := (o2 (171) (by omega)).trans hOw
  have hTk := (o2 (172) (by omega)).trans hTk
  have hDl := (o2 (173) (by omega)).trans hDl
  have hRt := (o2 (174) (by omega)).trans hRt
  have hWd := (o2 (175) (by omega)).trans hWd
  have hGo := (o2 (176) (by omega)).trans hGo
  have hGm := (o2 (177) (by omega)).trans hGm
  have hLn := (o2 (178) (by omega)).trans hLn
  have hCd := (o2 (179) (by omega)).trans hCd
  have hSt : h2 (180) = _ := e2
  have hf := hf.st o2 (by omega) (by omega)
  change pz_E _ _ _ _ _ _ _ _ _ (.ref (180) :: _) _ (181) _
  refine pe_putF d_Mo_init_131 g_Mo_60 rfl hMo (Nat.le_of_ble_eq_true rfl) rfl ?_
  refine pe_pu (fun h2 e2 o2 => ?_)
  have hMo := e2
  have hOp := (o2 (167) (by omega)).trans hOp
  have hIm := (o2 (168) (by omega)).trans hIm
  have hFi := (o2 (169) (by omega)).trans hFi
  have hLi := (o2 (170) (by omega)).trans hLi
  have hOw := (o2 (171) (by omega)).trans hOw
  have hTk := (o2 (172) (by omega)).trans hTk
  have hDl := (o2 (173) (by omega)).trans hDl
  have hRt := (o2 (174) (by omega)).trans hRt
  have hWd := (o2 (175) (by omega)).trans hWd
  have hGo := (o2 (176) (by omega)).trans hGo
  have hGm := (o2 (177) (by omega)).trans hGm
  have hLn := (o2 (178) (by omega)).trans hLn
  have hCd := (o2 (179) (by omega)).trans hCd
  have hSt := (o2 (180) (by omega)).trans hSt
  have hf := hf.st o2 (by omega) (by omega)
  refine pe_aload_n d_Mo_init_134 rfl ?_
  refine pe_iconst (v := nI 0) d_Mo_init_135 (by decide) ?_
  refine pe_put d_Mo_init_136 g_Mo_63 hMo (Nat.le_of_ble_eq_true rfl) rfl ?_
  refine pe_pu (fun h2 e2 o2 => ?_)
  have hMo := e2
  have hOp := (o2 (167) (by omega)).trans hOp
  have hIm := (o2 (168) (by omega)).trans hIm
  have hFi := (o2 (169) (by omega)).trans hFi
  have hLi := (o2 (170) (by omega)).trans hLi
  have hOw := (o2 (171) (by omega)).trans hOw
  have hTk := (o2 (172) (by omega)).trans hTk
  have hDl := (o2 (173) (by omega)).trans hDl
  have hRt := (o2 (174) (by omega)).trans hRt
  have hWd := (o2 (175) (by omega)).trans hWd
  have hGo := (o2 (176) (by omega)).trans hGo
  have hGm := (o2 (177) (by omega)).trans hGm
  have hLn := (o2 (178) (by omega)).trans hLn
  have hCd := (o2 (179) (by omega)).trans hCd
  have hSt := (o2 (180) (by omega)).trans hSt
  have hf := hf.st o2 (by omega) (by omega)
  refine pe_aload_n d_Mo_init_139 rfl ?_
  refine pe_iconst (v := nI 0) d_Mo_init_140 (by decide) ?_
  refine pe_put d_Mo_init_141 g_Mo_66 hMo (Nat.le_of_ble_eq_true rfl) rfl ?_
  refine pe_pu (fun h2 e2 o2 => ?_)
  have hMo := e2
  have hOp := (o2 (167) (by omega)).trans hOp
  have hIm := (o2 (168) (by omega)).trans hIm
  have hFi := (o2 (169) (by omega)).trans hFi
  have hLi := (o2 (170) (by omega)).trans hLi
  have hOw := (o2 (171) (by omega)).trans hOw
  have hTk := (o2 (172) (by omega)).trans hTk
  have hDl := (o2 (173) (by omega)).trans hDl
  have hRt := (o2 (174) (by omega)).trans hRt
  have hWd := (o2 (175) (by omega)).trans hWd
  have hGo := (o2 (176) (by omega)).trans hGo
  have hGm := (o2 (177) (by omega)).trans hGm
  have hLn := (o2 (178) (by omega)).trans hLn
  have hCd := (o2 (179) (by omega)).trans hCd
  have hSt := (o2 (180) (by omega)).trans hSt
  have hf := hf.st o2 (by omega) (by omega)
  refine pe_aload_n d_Mo_init_144 rfl ?_
  refine pe_bipush (v := nI 16) d_Mo_init_145 (by decide) ?_
  refine pe_less (fc' := 9 + 1) (fs' := 1086 + 16) (by omega) (by omega) ?_
  refine pe_newa (t := 0) (N := 16) (a0 := (16, .inl (fun _ => 0))) d_Mo_init_147 rfl ac_int (nI_pos (by omega)) (nI_clamp (by omega)) (by show 16 * 4 ≤ 536870912; omega) (fun _ _ => rfl) ?_
  refine pe_pu (fun h2 e2 o2 => ?_)
  have hMo := (o2 (166) (by omega)).trans hMo
  have hOp := (o2 (167) (by omega)).trans hOp
  have hIm := (o2 (168) (by omega)).trans hIm
  have hFi := (o2 (169) (by omega)).trans hFi
  have hLi := (o2 (170) (by omega)).trans hLi
  have hOw := (o2 (171) (by omega)).trans hOw
  have hTk := (o2 (172) (by omega)).trans hTk
  have hDl := (o2 (173) (by omega)).trans hDl
  have hRt := (o2 (174) (by omega)).trans hRt
  have hWd := (o2 (175) (by omega)).trans hWd
  have hGo := (o2 (176) (by omega)).trans hGo
  have hGm := (o2 (177) (by omega)).trans hGm
  have hLn := (o2 (178) (by omega)).trans hLn
  have hCd := (o2 (179) (by omega)).trans hCd
  have hSt := (o2 (180) (by omega)).trans hSt
  have hFm : h2 (181) = _ := e2
  have hf := hf.st o2 (by omega) (by omega)
  change pz_E _ _ _ _ _ _ _ _ _ (.ref (181) :: _) _ (182) _
  refine pe_putF d_Mo_init_149 g_Mo_69 rfl hMo (Nat.le_of_ble_eq_true rfl) rfl ?_
  refine pe_pu (fun h2 e2 o2 => ?_)
  have hMo := e2
  have hOp := (o2 (167) (by omega)).trans hOp
  have hIm := (o2 (168) (by omega)).trans hIm
  have hFi := (o2 (169) (by omega)).trans hFi
  have hLi := (o2 (170) (by omega)).trans hLi
  have hOw := (o2 (171) (by omega)).trans hOw
  have hTk := (o2 (172) (by omega)).trans hTk
  have hDl := (o2 (173) (by omega)).trans hDl
  have hRt := (o2 (174) (by omega)).trans hRt
  have hWd := (o2 (175) (by omega)).trans hWd
  have hGo := (o2 (176) (by omega)).trans hGo
  have hGm := (o2 (177) (by omega)).trans hGm
  have hLn := (o2 (178) (by omega)).trans hLn
  have hCd := (o2 (179) (by omega)).trans hCd
  have hSt := (o2 (180) (by omega)).trans hSt
  have hFm := (o2 (181) (by omega)).trans hFm
  have hf := hf.st o2 (by omega) (by omega)
  refine pe_aload_n d_Mo_init_152 rfl ?_
  refine pe_bipush (v := nI 6) d_Mo_init_153 (by decide) ?_
  refine pe_less (fc' := 8 + 1) (fs' := 1080 + 6) (by omega) (by omega) ?_
  refine pe_newa (t := 0) (N := 6) (a0 := (6, .inl (fun _ => 0))) d_Mo_init_155 rfl ac_int (nI_pos (by omega)) (nI_clamp (by omega)) (by show 6 * 4 ≤ 536870912; omega) (fun _ _ => rfl) ?_
  refine pe_pu (fun h2 e2 o2 => ?_)
  have hMo := (o2 (166) (by omega)).trans hMo
  have hOp := (o2 (167) (by omega)).trans hOp
  have hIm := (o2 (168) (by omega)).trans hIm
  have hFi := (o2 (169) (by omega)).trans hFi
  have hLi := (o2 (170) (by omega)).trans hLi
  have hOw := (o2 (171) (by omega)).trans hOw
  have hTk := (o2 (172) (by omega)).trans hTk
  have hDl := (o2 (173) (by omega)).trans hDl
  have hRt := (o2 (174) (by omega)).trans hRt
  have hWd := (o2 (175) (by omega)).trans hWd
  have hGo := (o2 (176) (by omega)).trans hGo
  have hGm := (o2 (177) (by omega)).trans hGm
  have hLn := (o2 (178) (by omega)).trans hLn
  have hCd := (o2 (179) (by omega)).trans hCd
  have hSt := (o2 (180) (by omega)).trans hSt
  have hFm := (o2 (181) (by omega)).trans hFm
  have hFs : h2 (182) = _ := e2
  have hf := hf.st o2 (by omega) (by omega)
  change pz_E _ _ _ _ _ _ _ _ _ (.ref (182) :: _) _ (183) _
  refine pe_putF d_Mo_init_157 g_Mo_72 rfl hMo (Nat.le_of_ble_eq_true rfl) rfl ?_
  refine pe_pu (fun h2 e2 o2 => ?_)
  have hMo := e2
  have hOp := (o2 (167) (by omega)).trans hOp
  have hIm := (o2 (168) (by omega)).trans hIm
  have hFi := (o2 (169) (by omega)).trans hFi
  have hLi := (o2 (170) (by omega)).trans hLi
  have hOw := (o2 (171) (by omega)).trans hOw
  have hTk := (o2 (172) (by omega)).trans hTk
  have hDl := (o2 (173) (by omega)).trans hDl
  have hRt := (o2 (174) (by omega)).trans hRt
  have hWd := (o2 (175) (by omega)).trans hWd
  have hGo := (o2 (176) (by omega)).trans hGo
  have hGm := (o2 (177) (by omega)).trans hGm
  have hLn := (o2 (178) (by omega)).trans hLn
  have hCd := (o2 (179) (by omega)).trans hCd
  have hSt := (o2 (180) (by omega)).trans hSt
  have hFm := (o2 (181) (by omega)).trans hFm
  have hFs := (o2 (182) (by omega)).trans hFs
  have hf := hf.st o2 (by omega) (by omega)
  refine pe_aload_n d_Mo_init_160 rfl ?_
  refine pe_bipush (v := nI 24) d_Mo_init_161 (by decide) ?_
  refine pe_less (fc' := 7 + 1) (fs' := 1056 + 24) (by omega) (by omega) ?_
  refine pe_newa (t := 0) (N := 24) (a0 := (24, .inl (fun _ => 0))) d_Mo_init_163 rfl ac_int (nI_pos (by omega)) (nI_clamp (by omega)) (by show 24 * 4 ≤ 536870912; omega) (fun _ _ => rfl) ?_
  refine pe_pu (fun h2 e2 o2 => ?_)
  have hMo := (o2 (166) (by omega)).trans hMo
  have hOp := (o2 (167) (by omega)).trans hOp
  have hIm := (o2 (168) (by omega)).trans hIm
  have hFi := (o2 (169) (by omega)).trans hFi
  have hLi := (o2 (170) (by omega)).trans hLi
  have hOw := (o2 (171) (by omega)).trans hOw
  have hTk := (o2 (172) (by omega)).trans hTk
  have hDl := (o2 (173) (by omega)).trans hDl
  have hRt := (o2 (174) (by omega)).trans hRt
  have hWd := (o2 (175) (by omega)).trans hWd
  have hGo := (o2 (176) (by omega)).trans hGo
  have hGm := (o2 (177) (by omega)).trans hGm
  have hLn := (o2 (178) (by omega)).trans hLn
  have hCd := (o2 (179) (by omega)).trans hCd
  have hSt := (o2 (180) (by omega)).trans hSt
  have hFm := (o2 (181) (by omega)).trans hFm
  have hFs := (o2 (182) (by omega)).trans hFs
  have hFl : h2 (183) = _ := e2
  have hf := hf.st o2 (by omega) (by omega)
  change pz_E _ _ _ _ _ _ _ _ _ (.ref (183) :: _) _ (184) _
  refine pe_putF d_Mo_init_165 g_Mo_75 rfl hMo (Nat.le_of_ble_eq_true rfl) rfl ?_
  refine pe_pu (fun h2 e2 o2 => ?_)
  have hMo := e2
  have hOp := (o2 (167) (by omega)).trans hOp
  have hIm := (o2 (168) (by omega)).trans hIm
  have hFi := (o2 (169) (by omega)).trans hFi
  have hLi := (o2 (170) (by omega)).trans hLi
  have hOw := (o2 (171) (by omega)).trans hOw
  have hTk := (o2 (172) (by omega)).trans hTk
  have hDl := (o2 (173) (by omega)).trans hDl
  have hRt := (o2 (174) (by omega)).trans hRt
  have hWd := (o2 (175) (by omega)).trans hWd
  have hGo := (o2 (176) (by omega)).trans hGo
  have hGm := (o2 (177) (by omega)).trans hGm
  have hLn := (o2 (178) (by omega)).trans hLn
  have hCd := (o2 (179) (by omega)).trans hCd
  have hSt := (o2 (180) (by omega)).trans hSt
  have hFm := (o2 (181) (by omega)).trans hFm
  have hFs := (o2 (182) (by omega)).trans hFs
  have hFl := (o2 (183) (by omega)).trans hFl
  have hf := hf.st o2 (by omega) (by omega)
  refine pe_aload_n d_Mo_init_168 rfl ?_
  refine pe_sipush (v := nI 384) d_Mo_init_169 (by decide) ?_
  refine pe_less (fc' := 6 + 1) (fs' := 672 + 384) (by omega) (by omega) ?_
  refine pe_newa (t := 0) (N := 384) (a0 := (384, .inl (fun _ => 0))) d_Mo_init_172 rfl ac_int (nI_pos (by omega)) (nI_clamp (by omega)) (by show 384 * 4 ≤ 536870912; omega) (fun _ _ => rfl) ?_
  refine pe_pu (fun h2 e2 o2 => ?_)
  have hMo := (o2 (166) (by omega)).trans hMo
  have hOp := (o2 (167) (by omega)).trans hOp
  have hIm := (o2 (168) (by omega)).trans hIm
  have hFi := (o2 (169) (by omega)).trans hFi
  have hLi := (o2 (170) (by omega)).trans hLi
  have hOw := (o2 (171) (by omega)).trans hOw
  have hTk := (o2 (172) (by omega)).trans hTk
  have hDl := (o2 (173) (by omega)).trans hDl
  have hRt := (o2 (174) (by omega)).trans hRt
  have hWd := (o2 (175) (by omega)).trans hWd
  have hGo := (o2 (176) (by omega)).trans hGo
  have hGm := (o2 (177) (by omega)).trans hGm
  have hLn := (o2 (178) (by omega)).trans hLn
  have hCd := (o2 (179) (by omega)).trans hCd
  have hSt := (o2 (180) (by omega)).trans hSt
  have hFm := (o2 (181) (by omega)).trans hFm
  have hFs := (o2 (182) (by omega)).trans hFs
  have hFl := (o2 (183) (by omega)).trans hFl
  have hFb : h2 (184) = _ := e2
  have hf := hf.st o2 (by omega) (by omega)
  change pz_E _ _ _ _ _ _ _ _ _ (.ref (184) :: _) _ (185) _
  refine pe_putF d_Mo_init_174 g_Mo_78 rfl hMo (Nat.le_of_ble_eq_true rfl) rfl ?_
  refine pe_pu (fun h2 e2 o2 => ?_)
  have hMo := e2
  have hOp := (o2 (167) (by omega)).trans hOp
  have hIm := (o2 (168) (by omega)).trans hIm
  have hFi := (o2 (169) (by omega)).trans hFi
  have hLi := (o2 (170) (by omega)).trans hLi
  have hOw := (o2 (171) (by omega)).trans hOw
  have hTk := (o2 (172) (by omega)).trans hTk
  have hDl := (o2 (173) (by omega)).trans hDl
  have hRt := (o2 (174) (by omega)).trans hRt
  have hWd := (o2 (175) (by omega)).trans hWd
  have hGo := (o2 (176) (by omega)).trans hGo
  have hGm := (o2 (177) (by omega)).trans hGm
  have hLn := (o2 (178) (by omega)).trans hLn
  have hCd := (o2 (179) (by omega)).trans hCd
  have hSt := (o2 (180) (by omega)).trans hSt
  have hFm := (o2 (181) (by omega)).trans hFm
  have hFs := (o2 (182) (by omega)).trans hFs
  have hFl := (o2 (183) (by omega)).trans hFl
  have hFb := (o2 (184) (by omega)).trans hFb
  have hf := hf.st o2 (by omega) (by omega)
  refine pe_aload_n d_Mo_init_177 rfl ?_
  refine pe_iconst (v := nI 0) d_Mo_init_178 (by decide) ?_
  refine pe_put d_Mo_init_179 g_Mo_81 hMo (Nat.le_of_ble_eq_true rfl) rfl ?_
  refine pe_pu (fun h2 e2 o2 => ?_)
  have hMo := e2
  have hOp := (o2 (167) (by omega)).trans hOp
  have hIm := (o2 (168) (by omega)).trans hIm
  have hFi := (o2 (169) (by omega)).trans hFi
  have hLi := (o2 (170) (by omega)).trans hLi
  have hOw := (o2 (171) (by omega)).trans hOw
  have hTk := (o2 (172) (by omega)).trans hTk
  have hDl := (o2 (173) (by omega)).trans hDl
  have hRt := (o2 (174) (by omega)).trans hRt
  have hWd := (o2 (175) (by omega)).trans hWd
  have hGo := (o2 (176) (by omega)).trans hGo
  have hGm := (o2 (177) (by omega)).trans hGm
  have hLn := (o2 (178) (by omega)).trans hLn
  have hCd := (o2 (179) (by omega)).trans hCd
  have hSt := (o2 (180) (by omega)).trans hSt
  have hFm := (o2 (181) (by omega)).trans hFm
  have hFs := (o2 (182) (by omega)).trans hFs
  have hFl := (o2 (183) (by omega)).trans hFl
  have hFb := (o2 (184) (by omega)).trans hFb
  have hf := hf.st o2 (by omega) (by omega)
  refine pe_aload_n d_Mo_init_182 rfl ?_
  refine pe_iconst (v := nI 0) d_Mo_init_183 (by decide) ?_
  refine pe_put d_Mo_init_184 g_Mo_84 hMo (Nat.le_of_ble_eq_true rfl) rfl ?_
  refine pe_pu (fun h2 e2 o2 => ?_)
  have hMo := e2
  have hOp := (o2 (167) (by omega)).trans hOp
  have hIm := (o2 (168) (by omega)).trans hIm
  have hFi := (o2 (169) (by omega)).trans hFi
  have hLi := (o2 (170) (by omega)).trans hLi
  have hOw := (o2 (171) (by omega)).trans hOw
  have hTk := (o2 (172) (by omega)).trans hTk
  have hDl := (o2 (173) (by omega)).trans hDl
  have hRt := (o2 (174) (by omega)).trans hRt
  have hWd := (o2 (175) (by omega)).trans hWd
  have hGo := (o2 (176) (by omega)).trans hGo
  have hGm := (o2 (177) (by omega)).trans hGm
  have hLn := (o2 (178) (by omega)).trans hLn
  have hCd := (o2 (179) (by omega)).trans hCd
  have hSt := (o2 (180) (by omega)).trans hSt
  have hFm := (o2 (181) (by omega)).trans hFm
  have hFs := (o2 (182) (by omega)).trans hFs
  have hFl := (o2 (183) (by omega)).trans hFl
  have hFb := (o2 (184) (by omega)).trans hFb
  have hf := hf.st o2 (by omega) (by omega)
  refine pe_aload_n d_Mo_init_187 rfl ?_
  refine pe_bipush (v := nI 32) d_Mo_init_188 (by decide) ?_
  refine pe_less (fc' := 5 + 1) (fs' := 640 + 32) (by omega) (by omega) ?_
  refine pe_newa (t := 0) (N := 32) (a0 := (32, .inl (fun _ => 0))) d_Mo_init_190 rfl ac_int (nI_pos (by omega)) (nI_clamp (by omega)) (by show 32 * 4 ≤ 536870912; omega) (fun _ _ => rfl) ?_
  refine pe_pu (fun h2 e2 o2 => ?_)
  have hMo := (o2 (166) (by omega)).trans hMo
  have hOp := (o2 (167) (by omega)).trans hOp
  have hIm := (o2 (168) (by omega)).trans hIm
  have hFi := (o2 (169) (by omega)).trans hFi
  have hLi := (o2 (170) (by omega)).trans hLi
  have hOw := (o2 (171) (by omega)).trans hOw
  have hTk := (o2 (172) (by omega)).trans hTk
  have hDl := (o2 (173) (by omega)).trans hDl
  have hRt := (o2 (174) (by omega)).trans hRt
  have hWd := (o2 (175) (by omega)).trans hWd
  have hGo := (o2 (176) (by omega)).trans hGo
  have hGm := (o2 (177) (by omega)).trans hGm
  have hLn := (o2 (178) (by omega)).trans hLn
  have hCd := (o2 (179) (by omega)).trans hCd
  have hSt := (o2 (180) (by omega)).trans hSt
  have hFm := (o2 (181) (by omega)).trans hFm
  have hFs := (o2 (182) (by omega)).trans hFs
  have hFl := (o2 (183) (by omega)).trans hFl
  have hFb := (o2 (184) (by omega)).trans hFb
  have hHo : h2 (185) = _ := e2
  have hf := hf.st o2 (by omega) (by omega)
  change pz_E _ _ _ _ _ _ _ _ _ (.ref (185) :: _) _ (186) _
  refine pe_putF d_Mo_init_192 g_Mo_87 rfl hMo (Nat.le_of_ble_eq_true rfl) rfl ?_
  refine pe_pu (fun h2 e2 o2 => ?_)
  have hMo := e2
  have hOp := (o2 (167) (by omega)).trans hOp
  have hIm := (o2 (168) (by omega)).trans hIm
  have hFi := (o2 (169) (by omega)).trans hFi
  have hLi := (o2 (170) (by omega)).trans hLi
  have hOw := (o2 (171) (by omega)).trans hOw
  have hTk := (o2 (172) (by omega)).trans hTk
  have hDl := (o2 (173) (by omega)).trans hDl
  have hRt := (o2 (174) (by omega)).trans hRt
  have hWd := (o2 (175) (by omega)).trans hWd
  have hGo := (o2 (176) (by omega)).trans hGo
  have hGm := (o2 (177) (by omega)).trans hGm
  have hLn := (o2 (178) (by omega)).trans hLn
  have hCd := (o2 (179) (by omega)).trans hCd
  have hSt := (o2 (180) (by omega)).trans hSt
  have hFm := (o2 (181) (by omega)).trans hFm
  have hFs := (o2 (182) (by omega)).trans hFs
  have hFl := (o2 (183) (by omega)).trans hFl
  have hFb := (o2 (184) (by omega)).trans hFb
  have hHo := (o2 (185) (by omega)).trans hHo
  have hf := hf.st o2 (by omega) (by omega)
  refine pe_aload_n d_Mo_init_195 rfl ?_
  refine pe_sipush (v := nI 256) d_Mo_init_196 (by decide) ?_
  refine pe_less (fc' := 4 + 1) (fs' := 384 + 256) (by omega) (by omega) ?_
  refine pe_newa (t := 0) (N := 256) (a0 := (256, .inl (fun _ => 0))) d_Mo_init_199 rfl ac_int (nI_pos (by omega)) (nI_clamp (by omega)) (by show 256 * 4 ≤ 536870912; omega) (fun _ _ => rfl) ?_
  refine pe_pu (fun h2 e2 o2 => ?_)
  have hMo := (o2 (166) (by omega)).trans hMo
  have hOp := (o2 (167) (by omega)).trans hOp
  have hIm := (o2 (168) (by omega)).trans hIm
  have hFi := (o2 (169) (by omega)).trans hFi
  have hLi := (o2 (170) (by omega)).trans hLi
  have hOw := (o2 (171) (by omega)).trans hOw
  have hTk := (o2 (172) (by omega)).trans hTk
  have hDl := (o2 (173) (by omega)).trans hDl
  have hRt := (o2 (174) (by omega)).trans hRt
  have hWd := (o2 (175) (by omega)).trans hWd
  have hGo := (o2 (176) (by omega)).trans hGo
  have hGm := (o2 (177) (by omega)).trans hGm
  have hLn := (o2 (178) (by omega)).trans hLn
  have hCd := (o2 (179) (by omega)).trans hCd
  have hSt := (o2 (180) (by omega)).trans hSt
  have hFm := (o2 (181) (by omega)).trans hFm
  have hFs := (o2 (182) (by omega)).trans hFs
  have hFl := (o2 (183) (by omega)).trans hFl
  have hFb := (o2 (184) (by omega)).trans hFb
  have hHo := (o2 (185) (by omega)).trans hHo
  have hWo : h2 (186) = _ := e2
  have hf := hf.st o2 (by omega) (by omega)
  change pz_E _ _ _ _ _ _ _ _ _ (.ref (186) :: _) _ (187) _
  refine pe_putF d_Mo_init_201 g_Mo_90 rfl hMo (Nat.le_of_ble_eq_true rfl) rfl ?_
  refine pe_pu (fun h2 e2 o2 => ?_)
  have hMo := e2
  have hOp := (o2 (167) (by omega)).trans hOp
  have hIm := (o2 (168) (by omega)).trans hIm
  have hFi := (o2 (169) (by omega)).trans hFi
  have hLi := (o2 (170) (by omega)).trans hLi
  have hOw := (o2 (171) (by omega)).trans hOw
  have hTk := (o2 (172) (by omega)).trans hTk
  have hDl := (o2 (173) (by omega)).trans hDl
  have hRt := (o2 (174) (by omega)).trans hRt
  have hWd := (o2 (175) (by omega)).trans hWd
  have hGo := (o2 (176) (by omega)).trans hGo
  have hGm := (o2 (177) (by omega)).trans hGm
  have hLn := (o2 (178) (by omega)).trans hLn
  have hCd := (o2 (179) (by omega)).trans hCd
  have hSt := (o2 (180) (by omega)).trans hSt
  have hFm := (o2 (181) (by omega)).trans hFm
  have hFs := (o2 (182) (by omega)).trans hFs
  have hFl := (o2 (183) (by omega)).trans hFl
  have hFb := (o2 (184) (by omega)).trans hFb
  have hHo := (o2 (185) (by omega)).trans hHo
  have hWo := (o2 (186) (by omega)).trans hWo
  have hf := hf.st o2 (by omega) (by omega)
  refine pe_aload_n d_Mo_init_204 rfl ?_
  refine pe_bipush (v := nI 42) d_Mo_init_205 (by decide) ?_
  refine pe_less (fc' := 3 + 1) (fs' := 342 + 42) (by omega) (by omega) ?_
  refine pe_newa (t := 0) (N := 42) (a0 := (42, .inl (fun _ => 0))) d_Mo_init_207 rfl ac_int (nI_pos (by omega)) (nI_clamp (by omega)) (by show 42 * 4 ≤ 536870912; omega) (fun _ _ => rfl) ?_
  refine pe_pu (fun h2 e2 o2 => ?_)
  have hMo := (o2 (166) (by omega)).trans hMo
  have hOp := (o2 (167) (by omega)).trans hOp
  have hIm := (o2 (168) (by omega)).trans hIm
  have hFi := (o2 (169) (by omega)).trans hFi
  have hLi := (o2 (170) (by omega)).trans hLi
  have hOw := (o2 (171) (by omega)).trans hOw
  have hTk := (o2 (172) (by omega)).trans hTk
  have hDl := (o2 (173) (by omega)).trans hDl
  have hRt := (o2 (174) (by omega)).trans hRt
  have hWd := (o2 (175) (by omega)).trans hWd
  have hGo := (o2 (176) (by omega)).trans hGo
  have hGm := (o2 (177) (by omega)).trans hGm
  have hLn := (o2 (178) (by omega)).trans hLn
  have hCd := (o2 (179) (by omega)).trans hCd
  have hSt := (o2 (180) (by omega)).trans hSt
  have hFm := (o2 (181) (by omega)).trans hFm
  have hFs := (o2 (182) (by omega)).trans hFs
  have hFl := (o2 (183) (by omega)).trans hFl
  have hFb := (o2 (184) (by omega)).trans hFb
  have hHo := (o2 (185) (by omega)).trans hHo
  have hWo := (o2 (186) (by omega)).trans hWo
  have hDa : h2 (187) = _ := e2
  have hf := hf.st o2 (by omega) (by omega)
  change pz_E _ _ _ _ _ _ _ _ _ (.ref (187) :: _) _ (188) _
  refine pe_putF d_Mo_init_209 g_Mo_93 rfl hMo (Nat.le_of_ble_eq_true rfl) rfl ?_
  refine pe_pu (fun h2 e2 o2 => ?_)
  have hMo := e2
  have hOp := (o2 (167) (by omega)).trans hOp
  have hIm := (o2 (168) (by omega)).trans hIm
  have hFi := (o2 (169) (by omega)).trans hFi
  have hLi := (o2 (170) (by omega)).trans hLi
  have hOw := (o2 (171) (by omega)).trans hOw
  have hTk := (o2 (172) (by omega)).trans hTk
  have hDl := (o2 (173) (by omega)).trans hDl
  have hRt := (o2 (174) (by omega)).trans hRt
  have hWd := (o2 (175) (by omega)).trans hWd
  have hGo := (o2 (176) (by omega)).trans hGo
  have hGm := (o2 (177) (by omega)).trans hGm
  have hLn := (o2 (178) (by omega)).trans hLn
  have hCd := (o2 (179) (by omega)).trans hCd
  have hSt := (o2 (180) (by omega)).trans hSt
  have hFm := (o2 (181) (by omega)).trans hFm
  have hFs := (o2 (182) (by omega)).trans hFs
  have hFl := (o2 (183) (by omega)).trans hFl
  have hFb := (o2 (184) (by omega)).trans hFb
  have hHo := (o2 (185) (by omega)).trans hHo
  have hWo := (o2 (186) (by omega)).trans hWo
  have hDa := (o2 (187) (by omega)).trans hDa
  have hf := hf.st o2 (by omega) (by omega)
  refine pe_aload_n d_Mo_init_212 rfl ?_
  refine pe_bipush (v := nI 6) d_Mo_init_213 (by decide) ?_
  refine pe_less (fc' := 2 + 1) (fs' := 336 + 6) (by omega) (by omega) ?_
  refine pe_newa (t := 0) (N := 6) (a0 := (6, .inl (fun _ => 0))) d_Mo_init_215 rfl ac_int (nI_pos (by omega)) (nI_clamp (by omega)) (by show 6 * 4 ≤ 536870912; omega) (fun _ _ => rfl) ?_
  refine pe_pu (fun h2 e2 o2 => ?_)
  have hMo := (o2 (166) (by omega)).trans hMo
  have hOp := (o2 (167) (by omega)).trans hOp
  have hIm := (o2 (168) (by omega)).trans hIm
  have hFi := (o2 (169) (by omega)).trans hFi
  have hLi := (o2 (170) (by omega)).trans hLi
  have hOw := (o2 (171) (by omega)).trans hOw
  have hTk := (o2 (172) (by omega)).trans hTk
  have hDl := (o2 (173) (by omega)).trans hDl
  have hRt := (o2 (174) (by omega)).trans hRt
  have hWd := (o2 (175) (by omega)).trans hWd
  have hGo := (o2 (176) (by omega)).trans hGo
  have hGm := (o2 (177) (by omega)).trans hGm
  have hLn := (o2 (178) (by omega)).trans hLn
  have hCd := (o2 (179) (by omega)).trans hCd
  have hSt := (o2 (180) (by omega)).trans hSt
  have hFm := (o2 (181) (by omega)).trans hFm
  have hFs := (o2 (182) (by omega)).trans hFs
  have hFl := (o2 (183) (by omega)).trans hFl
  have hFb := (o2 (184) (by omega)).trans hFb
  have hHo := (o2 (185) (by omega)).trans hHo
  have hWo := (o2 (186) (by omega)).trans hWo
  have hDa := (o2 (187) (by omega)).trans hDa
  have hEn : h2 (188) = _ := e2
  have hf := hf.st o2 (by omega) (by omega)
  change pz_E _ _ _ _ _ _ _ _ _ (.ref (188) :: _) _ (189) _
  refine pe_putF d_Mo_init_217 g_Mo_96 rfl hMo (Nat.le_of_ble_eq_true rfl) rfl ?_
  refine pe_pu (fun h2 e2 o2 => ?_)
  have hMo := e2
  have hOp := (o2 (167) (by omega)).trans hOp
  have hIm := (o2 (168) (by omega)).trans hIm
  have hFi := (o2 (169) (by omega)).trans hFi
  have hLi := (o2 (170) (by omega)).trans hLi
  have hOw := (o2 (171) (by omega)).trans hOw
  have hTk := (o2 (172) (by omega)).trans hTk
  have hDl := (o2 (173) (by omega)).trans hDl
  have hRt := (o2 (174) (by omega)).trans hRt
  have hWd := (o2 (175) (by omega)).trans hWd
  have hGo := (o2 (176) (by omega)).trans hGo
  have hGm := (o2 (177) (by omega)).trans hGm
  have hLn := (o2 (178) (by omega)).trans hLn
  have hCd := (o2 (179) (by omega)).trans hCd
  have hSt := (o2 (180) (by omega)).trans hSt
  have hFm := (o2 (181) (by omega)).trans hFm
  have hFs := (o2 (182) (by omega)).trans hFs
  have hFl := (o2 (183) (by omega)).trans hFl
  have hFb := (o2 (184) (by omega)).trans hFb
  have hHo := (o2 (185) (by omega)).trans hHo
  have hWo := (o2 (186) (by omega)).trans hWo
  have hDa := (o2 (187) (by omega)).trans hDa
  have hEn := (o2 (188) (by omega)).trans hEn
  have hf := hf.st o2 (by omega) (by omega)
  refine pe_aload_n d_Mo_init_220 rfl ?_
  refine pe_sipush (v := nI 168) d_Mo_init_221 (by decide) ?_
  refine pe_less (fc' := 1 + 1) (fs' := 168 + 168) (by omega) (by omega) ?_
  refine pe_newa (t := 0) (N := 168) (a0 := (168, .inl (fun _ => 0))) d_Mo_init_224 rfl ac_int (nI_pos (by omega)) (nI_clamp (by omega)) (by show 168 * 4 ≤ 536870912; omega) (fun _ _ => rfl) ?_
  refine pe_pu (fun h2 e2 o2 => ?_)
  have hMo := (o2 (166) (by omega)).trans hMo
  have hOp := (o2 (167) (by omega)).trans hOp
  have hIm := (o2 (168) (by omega)).trans hIm
  have hFi := (o2 (169) (by omega)).trans hFi
  have hLi := (o2 (170) (by omega)).trans hLi
  have hOw := (o2 (171) (by omega)).trans hOw
  have hTk := (o2 (172) (by omega)).trans hTk
  have hDl := (o2 (173) (by omega)).trans hDl
  have hRt := (o2 (174) (by omega)).trans hRt
  have hWd := (o2 (175) (by omega)).trans hWd
  have hGo := (o2 (176) (by omega)).trans hGo
  have hGm := (o2 (177) (by omega)).trans hGm
  have hLn := (o2 (178) (by omega)).trans hLn
  have hCd := (o2 (179) (by omega)).trans hCd
  have hSt := (o2 (180) (by omega)).trans hSt
  have hFm := (o2 (181) (by omega)).trans hFm
  have hFs := (o2 (182) (by omega)).trans hFs
  have hFl := (o2 (183) (by omega)).trans hFl
  have hFb := (o2 (184) (by omega)).trans hFb
  have hHo := (o2 (185) (by omega)).trans hHo
  have hWo := (o2 (186) (by omega)).trans hWo
  have hDa := (o2 (187) (by omega)).trans hDa
  have hEn := (o2 (188) (by omega)).trans hEn
  have hKe : h2 (189) = _ := e2
  have hf := hf.st o2 (by omega) (by omega)
  change pz_E _ _ _ _ _ _ _ _ _ (.ref (189) :: _) _ (190) _
  refine pe_putF d_Mo_init_226 g_Mo_99 rfl hMo (Nat.le_of_ble_eq_true rfl) rfl ?_
  refine pe_pu (fun h2 e2 o2 => ?_)
  have hMo := e2
  have hOp := (o2 (167) (by omega)).trans hOp
  have hIm := (o2 (168) (by omega)).trans hIm
  have hFi := (o2 (169) (by omega)).trans hFi
  have hLi := (o2 (170) (by omega)).trans hLi
  have hOw := (o2 (171) (by omega)).trans hOw
  have hTk := (o2 (172) (by omega)).trans hTk
  have hDl := (o2 (173) (by omega)).trans hDl
  have hRt := (o2 (174) (by omega)).trans hRt
  have hWd := (o2 (175) (by omega)).trans hWd
  have hGo := (o2 (176) (by omega)).trans hGo
  have hGm := (o2 (177) (by omega)).trans hGm
  have hLn := (o2 (178) (by omega)).trans hLn
  have hCd := (o2 (179) (by omega)).trans hCd
  have hSt := (o2 (180) (by omega)).trans hSt
  have hFm := (o2 (181) (by omega)).trans hFm
  have hFs := (o2 (182) (by omega)).trans hFs
  have hFl := (o2 (183) (by omega)).trans hFl
  have hFb := (o2 (184) (by omega)).trans hFb
  have hHo := (o2 (185) (by omega)).trans hHo
  have hWo := (o2 (186) (by omega)).trans hWo
  have hDa := (o2 (187) (by omega)).trans hDa
  have hEn := (o2 (188) (by omega)).trans hEn
  have hKe := (o2 (189) (by omega)).trans hKe
  have hf := hf.st o2 (by omega) (by omega)
  refine pe_aload_n d_Mo_init_229 rfl ?_
  refine pe_sipush (v := nI 168) d_Mo_init_230 (by decide) ?_
  refine pe_less (fc' := 0 + 1) (fs' := 0 + 168) (by omega) (by omega) ?_
  refine pe_newa (t := 0) (N := 168) (a0 := (168, .inl (fun _ => 0))) d_Mo_init_233 rfl ac_int (nI_pos (by omega)) (nI_clamp (by omega)) (by show 168 * 4 ≤ 536870912; omega) (fun _ _ => rfl) ?_
  refine pe_pu (fun h2 e2 o2 => ?_)
  have hMo := (o2 (166) (by omega)).trans hMo
  have hOp := (o2 (167) (by omega)).trans hOp
  have hIm := (o2 (168) (by omega)).trans hIm
  have hFi := (o2 (169) (by omega)).trans hFi
  have hLi := (o2 (170) (by omega)).trans hLi
  have hOw := (o2 (171) (by omega)).trans hOw
  have hTk := (o2 (172) (by omega)).trans hTk
  have hDl := (o2 (173) (by omega)).trans hDl
  have hRt := (o2 (174) (by omega)).trans hRt
  have hWd := (o2 (175) (by omega)).trans hWd
  have hGo := (o2 (176) (by omega)).trans hGo
  have hGm := (o2 (177) (by omega)).trans hGm
  have hLn := (o2 (178) (by omega)).trans hLn
  have hCd := (o2 (179) (by omega)).trans hCd
  have hSt := (o2 (180) (by omega)).trans hSt
  have hFm := (o2 (181) (by omega)).trans hFm
  have hFs := (o2 (182) (by omega)).trans hFs
  have hFl := (o2 (183) (by omega)).trans hFl
  have hFb := (o2 (184) (by omega)).trans hFb
  have hHo := (o2 (185) (by omega)).trans hHo
  have hWo := (o2 (186) (by omega)).trans hWo
  have hDa := (o2 (187) (by omega)).trans hDa
  have hEn := (o2 (188) (by omega)).trans hEn
  have hKe := (o2 (189) (by omega)).trans hKe
  have hVa : h2 (190) = _ := e2
  have hf := hf.st o2 (by omega) (by omega)
  change pz_E _ _ _ _ _ _ _ _ _ (.ref (190) :: _) _ (191) _
  refine pe_putF d_Mo_init_235 g_Mo_102 rfl hMo (Nat.le_of_ble_eq_true rfl) rfl ?_
  refine pe_pu (fun h2 e2 o2 => ?_)
  have hMo := e2
  have hOp := (o2 (167) (by omega)).trans hOp
  have hIm := (o2 (168) (by omega)).trans hIm
  have hFi := (o2 (169) (by omega)).trans hFi
  have hLi := (o2 (170) (by omega)).trans hLi
  have hOw := (o2 (171) (by omega)).trans hOw
  have hTk := (o2 (172) (by omega)).trans hTk
  have hDl := (o2 (173) (by omega)).trans hDl
  have hRt := (o2 (174) (by omega)).trans hRt
  have hWd := (o2 (175) (by omega)).trans hWd
  have hGo := (o2 (176) (by omega)).trans hGo
  have hGm := (o2 (177) (by omega)).trans hGm
  have hLn := (o2 (178) (by omega)).trans hLn
  have hCd := (o2 (179) (by omega)).trans hCd
  have hSt := (o2 (180) (by omega)).trans hSt
  have hFm := (o2 (181) (by omega)).trans hFm
  have hFs := (o2 (182) (by omega)).trans hFs
  have hFl := (o2 (183) (by omega)).trans hFl
  have hFb := (o2 (184) (by omega)).trans hFb
  have hHo := (o2 (185) (by omega)).trans hHo
  have hWo := (o2 (186) (by omega)).trans hWo
  have hDa := (o2 (187) (by omega)).trans hDa
  have hEn := (o2 (188) (by omega)).trans hEn
  have hKe := (o2 (189) (by omega)).trans hKe
  have hVa := (o2 (190) (by omega)).trans hVa
  have hf := hf.st o2 (by omega) (by omega)
  refine pe_aload_n d_Mo_init_238 rfl ?_
  refine c_Mo_init_p x y ?_
  refine pe_putF d_Mo_init_260 g_Mo_105 rfl hMo (Nat.le_of_ble_eq_true rfl) rfl ?_
  refine pe_pu (fun h2 e2 o2 => ?_)
  have hMo := e2
  have hOp := (o2 (167) (by omega)).trans hOp
  have hIm := (o2 (168) (by omega)).trans hIm
  have hFi := (o2 (169) (by omega)).trans hFi
  have hLi := (o2 (170) (by omega)).trans hLi
  have hOw := (o2 (171) (by omega)).trans hOw
  have hTk := (o2 (172) (by omega)).trans hTk
  have hDl := (o2 (173) (by omega)).trans hDl
  have hRt := (o2 (174) (by omega)).trans hRt
  have hWd := (o2 (175) (by omega)).trans hWd
  have hGo := (o2 (176) (by omega)).trans hGo
  have hGm := (o2 (177) (by omega)).trans hGm
  have hLn := (o2 (178) (by omega)).trans hLn
  have hCd := (o2 (179) (by omega)).trans hCd
  have hSt := (o2 (180) (by omega)).trans hSt
  have hFm := (o2 (181) (by omega)).trans hFm
  have hFs := (o2 (182) (by omega)).trans hFs
  have hFl := (o2 (183) (by omega)).trans hFl
  have hFb := (o2 (184) (by omega)).trans hFb
  have hHo := (o2 (185) (by omega)).trans hHo
  have hWo := (o2 (186) (by omega)).trans hWo
  have hDa := (o2 (187) (by omega)).trans hDa
  have hEn := (o2 (188) (by omega)).trans hEn
  have hKe := (o2 (189) (by omega)).trans hKe
  have hVa := (o2 (190) (by omega)).trans hVa
  have hf := hf.st o2 (by omega) (by omega)
  refine pe_aload_n d_Mo_init_263 rfl ?_
  refine c_Mo_init_b x y ?_
  refine pe_putF d_Mo_init_285 g_Mo_108 rfl hMo (Nat.le_of_ble_eq_true rfl) rfl ?_
  refine pe_pu (fun h2 e2 o2 => ?_)
  have hMo := e2
  have hOp := (o2 (167) (by omega)).trans hOp
  have hIm := (o2 (168) (by omega)).trans hIm
  have hFi := (o2 (169) (by omega)).trans hFi
  have hLi := (o2 (170) (by omega)).trans hLi
  have hOw := (o2 (171) (by omega)).trans hOw
  have hTk := (o2 (172) (by omega)).trans hTk
  have hDl := (o2 (173) (by omega)).trans hDl
  have hRt := (o2 (174) (by omega)).trans hRt
  have hWd := (o2 (175) (by omega)).trans hWd
  have hGo := (o2 (176) (by omega)).trans hGo
  have hGm := (o2 (177) (by omega)).trans hGm
  have hLn := (o2 (178) (by omega)).trans hLn
  have hCd := (o2 (179) (by omega)).trans hCd
  have hSt := (o2 (180) (by omega)).trans hSt
  have hFm := (o2 (181) (by omega)).trans hFm
  have hFs := (o2 (182) (by omega)).trans hFs
  have hFl := (o2 (183) (by omega)).trans hFl
  have hFb := (o2 (184) (by omega)).trans hFb
  have hHo := (o2 (185) (by omega)).trans hHo
  have hWo := (o2 (186) (by omega)).trans hWo
  have hDa := (o2 (187) (by omega)).trans hDa
  have hEn := (o2 (188) (by omega)).trans hEn
  have hKe := (o2 (189) (by omega)).trans hKe
  have hVa := (o2 (190) (by omega)).trans hVa
  have hf := hf.st o2 (by omega) (by omega)
  refine pe_iconst (v := nI 0) d_Mo_init_288 (by decide) ?_
  refine pe_istore_n d_Mo_init_289 (by decide) rfl ?_
  dsimp only [List.set]
  refine pe_less (fc' := 0) (fs' := 0) (by omega) (by omega) ?_
  exact loop 33 0 _ (by omega) (by omega) hMo hOp hIm hFi hLi (by rw [fil_0]; exact hOw) hTk hDl hRt hWd hGo hGm hLn hCd hSt hFm hFs hFl hFb (by rw [fil_0]; exact hHo) hWo hDa hEn hKe hVa hf
