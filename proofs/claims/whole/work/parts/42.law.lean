/-! the law: its loop, its start -/
abbrev lwM (nm : String) : pz_M := (⟨"BindingKernelLaw", nm, "([I)Z"⟩, code, maxLocals, ret)
abbrev lwS (i : Nat) : List (Option Value) := [some (.retAddr 0), some (.ref 0), some (.ref 166), some (.int (nI i))]
theorem ST.k0 {h : pz_H} {n : Nat} (s : ST h n) : ∃ c, h 0 = some (.inr (0, c)) := by
  obtain ⟨np, nb, mw, mo, mr, mt, mn, md, ts, ck, dw, dn, os, ol, fb, f13, lost, dr, fl, op, mp, fi, lk, pp, pl, pe, qb, qn, qf, ql, td, tl, c1, o1, y1, n1, l1, c2, o2, y2, n2, l2, sa, sx, Mfi, Mlk, Mow, Mtk, Mdl, Mrt, Mwd, Mgo, Mgm, Mln, Mcd, Mst, Mfm, Mfs, Mfl, Mfb, Mho, Mwo, Mda, Men, Mke, Mva, k, e, r⟩ := s
  exact ⟨_, k.hK.1⟩
theorem ST.up {h : pz_H} {n : Nat} (s : ST h n) : ST h (n + 1) := by
  obtain ⟨np, nb, mw, mo, mr, mt, mn, md, ts, ck, dw, dn, os, ol, fb, f13, lost, dr, fl, op, mp, fi, lk, pp, pl, pe, qb, qn, qf, ql, td, tl, c1, o1, y1, n1, l1, c2, o2, y2, n2, l2, sa, sx, Mfi, Mlk, Mow, Mtk, Mdl, Mrt, Mwd, Mgo, Mgm, Mln, Mcd, Mst, Mfm, Mfs, Mfl, Mfb, Mho, Mwo, Mda, Men, Mke, Mva, k, e, r⟩ := s
  exact ST.mk k e r.up
theorem sl_in {j L : Nat} (h : j < L) (hL : L ≤ 3074) : vp_in (nI j) L := fun q => by
  rcases q with q | q
  · exact nI_pos (by omega) q
  · rw [nI_clamp (by omega)] at q; omega
def cl (xs : Nat → Int32) (L k : Nat) : Int32 := if k < L then xs k else 0
theorem lg_self (r : Int64) : lg_cmp r r = 0 := by simp [lg_cmp]
theorem l6 {L : Nat} (h : L < 6) : nI L - nI 6 < 0 := by
  rcases (show L = 0 ∨ L = 1 ∨ L = 2 ∨ L = 3 ∨ L = 4 ∨ L = 5 by omega) with rfl | rfl | rfl | rfl | rfl | rfl <;> decide
theorem lw_neg {L a : Nat} (h : L < 6) (ha : a < 2147483648) : nI L - nI 6 < nI a := by
  have h1 := Int32.lt_iff_toInt_lt.mp (l6 h)
  have h2 := Int32.le_iff_toInt_le.mp (nI_nn ha)
  exact Int32.lt_iff_toInt_lt.mpr (by omega)
set_option maxHeartbeats 4000000 in
set_option maxRecDepth 20000 in
theorem c_Law_cell {l : Launch} {L : Nat} {xs : Nat → Int32} {h : pz_H} {z : Nat} (hL : L ≤ 3074) (k : Nat) (hk : k < 2) : pz_K l L xs M_Law_cell 0 0 0 [.retAddr 0, .int (nI k)] h z (fun v h' z' => v = some (.int (cl xs L k)) ∧ h = h' ∧ z = z') := by
  refine pz_K.of rfl (Nat.le_of_ble_eq_true rfl) ?_
  change pz_E l L xs M_Law_cell 0 0 0 0 [some (.retAddr 0), some (.int (nI k))] [] h z _
  refine pe_iload_n d_Law_cell_0 rfl ?_
  refine pe_sload_n d_Law_cell_1 rfl ?_
  refine pe_slen d_Law_cell_2 ?_
  refine pe_icmpN_ge (tgt := 12) d_Law_cell_3 (by decide) (by omega) (by omega) (fun c_3 => ?_) (fun c_3 => ?_)
  · refine pe_iconst (v := 0) d_Law_cell_12 (by decide) ?_
    refine pe_iret d_Law_cell_13 rfl ?_
    exact ⟨by unfold cl; rw [if_neg (by omega)], rfl, rfl⟩
  · refine pe_sload_n d_Law_cell_6 rfl ?_
    refine pe_iload_n d_Law_cell_7 rfl ?_
    refine pe_sld d_Law_cell_8 (sl_in (by omega) hL) ?_
    refine pe_goto (tgt := 13) d_Law_cell_9 (by decide) ?_
    refine pe_iret d_Law_cell_13 rfl ?_
    exact ⟨by unfold cl; rw [if_pos (by omega), nI_clamp (by omega)], rfl, rfl⟩
section LAW
variable {l : Launch} {L : Nat} {xs : Nat → Int32} {nm : String} {d fc fs pc i : Nat} {st : List Value} {h : pz_H} {z : Nat} {Q : pz_Q}
theorem lw_arg {n : Int} (c : Nat) (d0 : decode code pc = .ok (.aload_n 0, 1)) (d1 : decode code (pc + 1) = .ok (.iload_n 3, 1)) (d2 : decode code (pc + 1 + 1) = .ok (.iconst n, 1)) (hv : Int32.ofInt n = nI c) (d3 : decode code (pc + 1 + 1 + 1) = .ok (.iadd, 1)) (d4 : decode code (pc + 1 + 1 + 1 + 1) = .ok (.iaload, 1)) (hi : i + c < L) (hL : L ≤ 3074) (kk : pz_E l L xs (lwM nm) d fc fs (pc + 5) (lwS i) (.int (xs (i + c)) :: st) h z Q) : pz_E l L xs (lwM nm) d fc fs pc (lwS i) st h z Q := by
  refine pe_sload_n (k := 0) d0 rfl ?_
  refine pe_iload_n (k := 3) d1 rfl ?_
  refine pe_iconst d2 hv ?_
  refine pe_iaddN d3 ?_
  refine pe_sld d4 (sl_in hi hL) ?_
  rw [nI_clamp (by omega)]
  exact kk
theorem lw_bool {x : Int32} (d0 : decode code pc = .ok (.ifCond .eq 7, 3)) (d1 : decode code (pc + 3) = .ok (.iconst 1, 1)) (d2 : decode code (pc + 3 + 1) = .ok (.goto 4, 3)) (d3 : decode code (pc + 7) = .ok (.iconst 0, 1)) (kk : pz_E l L xs (lwM nm) d fc fs (pc + 8) (lwS i) (.int (pb (!decide (x = 0))) :: st) h z Q) : pz_E l L xs (lwM nm) d fc fs pc (lwS i) (.int x :: st) h z Q := by
  refine pe_if_eq (tgt := pc + 7) d0 (by omega) (fun c0 => ?_) (fun c0 => ?_)
  · rw [decide_eq_true c0] at kk
    exact pe_iconst (v := pb false) d3 (by decide) kk
  · rw [decide_eq_false c0] at kk
    refine pe_iconst (v := pb true) d1 (by decide) ?_
    exact pe_goto (tgt := pc + 8) d2 (by omega) kk
set_option maxHeartbeats 4000000 in
set_option maxRecDepth 20000 in
theorem lw_case_0 {n : Nat} (hn : n < 4000) (s : ST h n) (hi : i + 6 ≤ L) (hL : L ≤ 3074) (kk : ∀ h2, ST h2 (n + 1) → pz_E l L xs (lwM nm) 7 fc fs 912 (lwS i) [] h2 z Q) : pz_E l L xs (lwM nm) 7 fc fs 148 (lwS i) [] h z Q := by
  obtain ⟨c9, g9⟩ := s.k0
  refine pe_aload_n (k := 1) d_Law_law_148 rfl ?_
  refine lw_arg 1 d_Law_law_149 d_Law_law_150 d_Law_law_151 (by decide) d_Law_law_152 d_Law_law_153 (by omega) hL ?_
  refine lw_arg 2 d_Law_law_154 d_Law_law_155 d_Law_law_156 (by decide) d_Law_law_157 d_Law_law_158 (by omega) hL ?_
  refine lw_bool d_Law_law_159 d_Law_law_162 d_Law_law_163 d_Law_law_166 ?_
  refine lw_arg 3 d_Law_law_167 d_Law_law_168 d_Law_law_169 (by decide) d_Law_law_170 d_Law_law_171 (by omega) hL ?_
  refine lw_arg 4 d_Law_law_172 d_Law_law_173 d_Law_law_174 (by decide) d_Law_law_175 d_Law_law_176 (by omega) hL ?_
  refine pe_callV (fc := fc) (fs := fs) (mc' := 0) (ms' := 0) d_Law_law_177 m_Law_21 j_K_open v_K_open (op_open (xs (i + 1)) (!decide (xs (i + 2) = 0)) (xs (i + 3)) (xs (i + 4)) hn s) rfl rfl (by simp [Value.category]) (by decide) g9 rfl rfl ?_
  intro v1 h1 z1 hq1
  obtain ⟨rfl, ht1, -, ⟨c8, g8⟩, hM⟩ := hq1
  obtain ⟨r9, rfl⟩ := tv_int ht1
  change pz_E _ _ _ _ _ _ _ _ _ [.int r9] _ _ _
  refine pe_aload_n (k := 2) d_Law_law_180 rfl ?_
  refine lw_arg 1 d_Law_law_181 d_Law_law_182 d_Law_law_183 (by decide) d_Law_law_184 d_Law_law_185 (by omega) hL ?_
  refine lw_arg 2 d_Law_law_186 d_Law_law_187 d_Law_law_188 (by decide) d_Law_law_189 d_Law_law_190 (by omega) hL ?_
  refine lw_bool d_Law_law_191 d_Law_law_194 d_Law_law_195 d_Law_law_198 ?_
  refine lw_arg 3 d_Law_law_199 d_Law_law_200 d_Law_law_201 (by decide) d_Law_law_202 d_Law_law_203 (by omega) hL ?_
  refine lw_arg 4 d_Law_law_204 d_Law_law_205 d_Law_law_206 (by decide) d_Law_law_207 d_Law_law_208 (by omega) hL ?_
  refine pe_callV (fc := fc) (fs := fs) (mc' := 0) (ms' := 0) d_Law_law_209 m_Law_25 j_Mo_open v_Mo_open hM rfl rfl (by simp [Value.category]) (by decide) g8 rfl rfl ?_
  intro v2 h2 z2 hq2
  obtain ⟨rfl, rfl, s2⟩ := hq2
  change pz_E _ _ _ _ _ _ _ _ _ [.int r9, .int r9] _ _ _
  exact pe_icmp_eq (tgt := 912) d_Law_law_212 (by decide) (fun _ => kk h2 s2) (fun c7 => absurd rfl c7)
set_option maxHeartbeats 4000000 in
set_option maxRecDepth 20000 in
theorem lw_case_1 {n : Nat} (hn : n < 4000) (s : ST h n) (hi : i + 6 ≤ L) (hL : L ≤ 3074) (kk : ∀ h2, ST h2 (n + 1) → pz_E l L xs (lwM nm) 7 fc fs 912 (lwS i) [] h2 z Q) : pz_E l L xs (lwM nm) 7 fc fs 217 (lwS i) [] h z Q := by
  obtain ⟨c9, g9⟩ := s.k0
  refine pe_aload_n (k := 1) d_Law_law_217 rfl ?_
  refine lw_arg 1 d_Law_law_218 d_Law_law_219 d_Law_law_220 (by decide) d_Law_law_221 d_Law_law_222 (by omega) hL ?_
  refine pe_callV (fc := fc) (fs := fs) (mc' := 0) (ms' := 0) d_Law_law_223 m_Law_26 j_K_close v_K_close (op_close (xs (i + 1)) hn s) rfl rfl (by simp [Value.category]) (by decide) g9 rfl rfl ?_
  intro v1 h1 z1 hq1
  obtain ⟨rfl, ht1, -, ⟨c8, g8⟩, hM⟩ := hq1
  obtain ⟨r9, rfl⟩ := tv_int ht1
  change pz_E _ _ _ _ _ _ _ _ _ [.int r9] _ _ _
  refine pe_aload_n (k := 2) d_Law_law_226 rfl ?_
  refine lw_arg 1 d_Law_law_227 d_Law_law_228 d_Law_law_229 (by decide) d_Law_law_230 d_Law_law_231 (by omega) hL ?_
  refine pe_callV (fc := fc) (fs := fs) (mc' := 0) (ms' := 0) d_Law_law_232 m_Law_30 j_Mo_close v_Mo_close hM rfl rfl (by simp [Value.category]) (by decide) g8 rfl rfl ?_
  intro v2 h2 z2 hq2
  obtain ⟨rfl, rfl, s2⟩ := hq2
  change pz_E _ _ _ _ _ _ _ _ _ [.int r9, .int r9] _ _ _
  exact pe_icmp_eq (tgt := 912) d_Law_law_235 (by decide) (fun _ => kk h2 s2) (fun c7 => absurd rfl c7)
set_option maxHeartbeats 4000000 in
set_option maxRecDepth 20000 in
theorem lw_case_2 {n : Nat} (hn : n < 4000) (s : ST h n) (hi : i + 6 ≤ L) (hL : L ≤ 3074) (kk : ∀ h2, ST h2 (n + 1) → pz_E l L xs (lwM nm) 7 fc fs 912 (lwS i) [] h2 z Q) : pz_E l L xs (lwM nm) 7 fc fs 240 (lwS i) [] h z Q := by
  obtain ⟨c9, g9⟩ := s.k0
  refine pe_aload_n (k := 1) d_Law_law_240 rfl ?_
  refine lw_arg 1 d_Law_law_241 d_Law_law_242 d_Law_law_243 (by decide) d_Law_law_244 d_Law_law_245 (by omega) hL ?_
  refine pe_callV (fc := fc) (fs := fs) (mc' := 0) (ms' := 0) d_Law_law_246 m_Law_31 j_K_take v_K_take (op_take (xs (i + 1)) hn s) rfl rfl (by simp [Value.category]) (by decide) g9 rfl rfl ?_
  intro v1 h1 z1 hq1
  obtain ⟨rfl, ht1, -, ⟨c8, g8⟩, hM⟩ := hq1
  obtain ⟨r9, rfl⟩ := tv_int ht1
  change pz_E _ _ _ _ _ _ _ _ _ [.int r9] _ _ _
  refine pe_aload_n (k := 2) d_Law_law_249 rfl ?_
  refine lw_arg 1 d_Law_law_250 d_Law_law_251 d_Law_law_252 (by decide) d_Law_law_253 d_Law_law_254 (by omega) hL ?_
  refine pe_callV (fc := fc) (fs := fs) (mc' := 0) (ms' := 0) d_Law_law_255 m_Law_34 j_Mo_take v_Mo_take hM rfl rfl (by simp [Value.category]) (by decide) g8 rfl rfl ?_
  intro v2 h2 z2 hq2
  obtain ⟨rfl, rfl, s2⟩ := hq2
  change pz_E _ _ _ _ _ _ _ _ _ [.int r9, .int r9] _ _ _
  exact pe_icmp_eq (tgt := 912) d_Law_law_258 (by decide) (fun _ => kk h2 s2) (fun c7 => absurd rfl c7)
set_option maxHeartbeats 4000000 in
set_option maxRecDepth 20000 in
theorem lw_case_3 {n : Nat} (hn : n < 4000) (s : ST h n) (hi : i + 6 ≤ L) (hL : L ≤ 3074) (kk : ∀ h2, ST h2 (n + 1) → pz_E l L xs (lwM nm) 7 fc fs 912 (lwS i) [] h2 z Q) : pz_E l L xs (lwM nm) 7 fc fs 263 (lwS i) [] h z Q := by
  obtain ⟨c9, g9⟩ := s.k0
  refine pe_aload_n (k := 1) d_Law_law_263 rfl ?_
  refine lw_arg 1 d_Law_law_264 d_Law_law_265 d_Law_law_266 (by decide) d_Law_law_267 d_Law_law_268 (by omega) hL ?_
  refine lw_arg 2 d_Law_law_269 d_Law_law_270 d_Law_law_271 (by decide) d_Law_law_272 d_Law_law_273 (by omega) hL ?_
  refine pe_callV (fc := fc) (fs := fs) (mc' := 0) (ms' := 0) d_Law_law_274 m_Law_35 j_K_release v_K_release (op_release (xs (i + 1)) (xs (i + 2)) hn s) rfl rfl (by simp [Value.category]) (by decide) g9 rfl rfl ?_
  intro v1 h1 z1 hq1
  obtain ⟨rfl, ht1, -, ⟨c8, g8⟩, hM⟩ := hq1
  obtain ⟨r9, rfl⟩ := tv_int ht1
  change pz_E _ _ _ _ _ _ _ _ _ [.int r9] _ _ _
  refine pe_aload_n (k := 2) d_Law_law_277 rfl ?_
  refine lw_arg 1 d_Law_law_278 d_Law_law_279 d_Law_law_280 (by decide) d_Law_law_281 d_Law_law_282 (by omega) hL ?_
  refine lw_arg 2 d_Law_law_283 d_Law_law_284 d_Law_law_285 (by decide) d_Law_law_286 d_Law_law_287 (by omega) hL ?_
  refine pe_callV (fc := fc) (fs := fs) (mc' := 0) (ms' := 0) d_Law_law_288 m_Law_39 j_Mo_release v_Mo_release hM rfl rfl (by simp [Value.category]) (by decide) g8 rfl rfl ?_
  intro v2 h2 z2 hq2
  obtain ⟨rfl, rfl, s2⟩ := hq2
  change pz_E _ _ _ _ _ _ _ _ _ [.int r9, .int r9] _ _ _
  exact pe_icmp_eq (tgt := 912) d_Law_law_291 (by decide) (fun _ => kk h2 s2) (fun c7 => absurd rfl c7)
set_option maxHeartbeats 4000000 in
set_option maxRecDepth 20000 in
theorem lw_case_4 {n : Nat} (hn : n < 4000) (s : ST h n) (hi : i + 6 ≤ L) (hL : L ≤ 3074) (kk : ∀ h2, ST h2 (n + 1) → pz_E l L xs (lwM nm) 7 fc fs 912 (lwS i) [] h2 z Q) : pz_E l L xs (lwM nm) 7 fc fs 296 (lwS i) [] h z Q := by
  obtain ⟨c9, g9⟩ := s.k0
  refine pe_aload_n (k := 1) d_Law_law_296 rfl ?_
  refine lw_arg 1 d_Law_law_297 d_Law_law_298 d_Law_law_299 (by decide) d_Law_law_300 d_Law_law_301 (by omega) hL ?_
  refine lw_arg 2 d_Law_law_302 d_Law_law_303 d_Law_law_304 (by decide) d_Law_law_305 d_Law_law_306 (by omega) hL ?_
  refine lw_arg 3 d_Law_law_307 d_Law_law_308 d_Law_law_309 (by decide) d_Law_law_310 d_Law_law_311 (by omega) hL ?_
  refine lw_arg 4 d_Law_law_312 d_Law_law_313 d_Law_law_314 (by decide) d_Law_law_315 d_Law_law_316 (by omega) hL ?_
  refine pe_callV (fc := fc) (fs := fs) (mc' := 0) (ms' := 0) d_Law_law_317 m_Law_40 j_K_share v_K_share (op_share (xs (i + 1)) (xs (i + 2)) (xs (i + 3)) (xs (i + 4)) hn s) rfl rfl (by simp [Value.category]) (by decide) g9 rfl rfl ?_
  intro v1 h1 z1 hq1
  obtain ⟨rfl, ht1, -, ⟨c8, g8⟩, hM⟩ := hq1
  obtain ⟨r9, rfl⟩ := tv_int ht1
  change pz_E _ _ _ _ _ _ _ _ _ [.int r9] _ _ _
  refine pe_aload_n (k := 2) d_Law_law_320 rfl ?_
  refine lw_arg 1 d_Law_law_321 d_Law_law_322 d_Law_law_323 (by decide) d_Law_law_324 d_Law_law_325 (by omega) hL ?_
  refine lw_arg 2 d_Law_law_326 d_Law_law_327 d_Law_law_328 (by decide) d_Law_law_329 d_Law_law_330 (by omega) hL ?_
  refine lw_arg 3 d_Law_law_331 d_Law_law_332 d_Law_law_333 (by decide) d_Law_law_334 d_Law_law_335 (by omega) hL ?_
  refine lw_arg 4 d_Law_law_336 d_Law_law_337 d_Law_law_338 (by decide) d_Law_law_339 d_Law_law_340 (by omega) hL ?_
  refine pe_callV (fc := fc) (fs := fs) (mc' := 0) (ms' := 0) d_Law_law_341 m_Law_44 j_Mo_share v_Mo_share hM rfl rfl (by simp [Value.category]) (by decide) g8 rfl rfl ?_
  intro v2 h2 z2 hq2
  obtain ⟨rfl, rfl, s2⟩ := hq2
  change pz_E _ _ _ _ _ _ _ _ _ [.int r9, .int r9] _ _ _
  exact pe_icmp_eq (tgt := 912) d_Law_law_344 (by decide) (fun _ => kk h2 s2) (fun c7 => absurd rfl c7)
set_option maxHeartbeats 4000000 in
set_option maxRecDepth 20000 in
theorem lw_case_5 {n : Nat} (hn : n < 4000) (s : ST h n) (hi : i + 6 ≤ L) (hL : L ≤ 3074) (kk : ∀ h2, ST h2 (n + 1) → pz_E l L xs (lwM nm) 7 fc fs 912 (lwS i) [] h2 z Q) : pz_E l L xs (lwM nm) 7 fc fs 349 (lwS i) [] h z Q := by
  obtain ⟨c9, g9⟩ := s.k0
  refine pe_aload_n (k := 1) d_Law_law_349 rfl ?_
  refine lw_arg 1 d_Law_law_350 d_Law_law_351 d_Law_law_352 (by decide) d_Law_law_353 d_Law_law_354 (by omega) hL ?_
  refine lw_arg 2 d_Law_law_355 d_Law_law_356 d_Law_law_357 (by decide) d_Law_law_358 d_Law_law_359 (by omega) hL ?_
  refine lw_arg 3 d_Law_law_360 d_Law_law_361 d_Law_law_362 (by decide) d_Law_law_363 d_Law_law_364 (by omega) hL ?_
  refine lw_arg 4 d_Law_law_365 d_Law_law_366 d_Law_law_367 (by decide) d_Law_law_368 d_Law_law_369 (by omega) hL ?_
  refine pe_callV (fc := fc) (fs := fs) (mc' := 0) (ms' := 0) d_Law_law_370 m_Law_45 j_K_store v_K_store (op_store (xs (i + 1)) (xs (i + 2)) (xs (i + 3)) (xs (i + 4)) hn s) rfl rfl (by simp [Value.category]) (by decide) g9 rfl rfl ?_
  intro v1 h1 z1 hq1
  obtain ⟨rfl, ht1, -, ⟨c8, g8⟩, hM⟩ := hq1
  obtain ⟨r9, rfl⟩ := tv_int ht1
  change pz_E _ _ _ _ _ _ _ _ _ [.int r9] _ _ _
  refine pe_aload_n (k := 2) d_Law_law_373 rfl ?_
  refine lw_arg 1 d_Law_law_374 d_Law_law_375 d_Law_law_376 (by decide) d_Law_law_377 d_Law_law_378 (by omega) hL ?_
  refine lw_arg 2 d_Law_law_379 d_Law_law_380 d_Law_law_381 (by decide) d_Law_law_382 d_Law_law_383 (by omega) hL ?_
  refine lw_arg 3 d_Law_law_384 d_Law_law_385 d_Law_law_386 (by decide) d_Law_law_387 d_Law_law_388 (by omega) hL ?_
  refine lw_arg 4 d_Law_law_389 d_Law_law_390 d_Law_law_391 (by decide) d_Law_law_392 d_Law_law_393 (by omega) hL ?_
  refine pe_callV (fc := fc) (fs := fs) (mc' := 0) (ms' := 0) d_Law_law_394 m_Law_48 j_Mo_store v_Mo_store hM rfl rfl (by simp [Value.category]) (by decide) g8 rfl rfl ?_
  intro v2 h2 z2 hq2
  obtain ⟨rfl, rfl, s2⟩ := hq2
  change pz_E _ _ _ _ _ _ _ _ _ [.int r9, .int r9] _ _ _
  exact pe_icmp_eq (tgt := 912) d_Law_law_397 (by decide) (fun _ => kk h2 s2) (fun c7 => absurd rfl c7)
set_option maxHeartbeats 4000000 in
set_option maxRecDepth 20000 in
theorem lw_case_6 {n : Nat} (hn : n < 4000) (s : ST h n) (hi : i + 6 ≤ L) (hL : L ≤ 3074) (kk : ∀ h2, ST h2 (n + 1) → pz_E l L xs (lwM nm) 7 fc fs 912 (lwS i) [] h2 z Q) : pz_E l L xs (lwM nm) 7 fc fs 402 (lwS i) [] h z Q := by
  obtain ⟨c9, g9⟩ := s.k0
  refine pe_aload_n (k := 1) d_Law_law_402 rfl ?_
  refine lw_arg 1 d_Law_law_403 d_Law_law_404 d_Law_law_405 (by decide) d_Law_law_406 d_Law_law_407 (by omega) hL ?_
  refine lw_arg 2 d_Law_law_408 d_Law_law_409 d_Law_law_410 (by decide) d_Law_law_411 d_Law_law_412 (by omega) hL ?_
  refine lw_arg 3 d_Law_law_413 d_Law_law_414 d_Law_law_415 (by decide) d_Law_law_416 d_Law_law_417 (by omega) hL ?_
  refine pe_callV (fc := fc) (fs := fs) (mc' := 0) (ms' := 0) d_Law_law_418 m_Law_49 j_K_fetch v_K_fetch (op_fetch (xs (i + 1)) (xs (i + 2)) (xs (i + 3)) hn s) rfl rfl (by simp [Value.category]) (by decide) g9 rfl rfl ?_
  intro v1 h1 z1 hq1
  obtain ⟨rfl, ht1, -, ⟨c8, g8⟩, hM⟩ := hq1
  obtain ⟨r9, rfl⟩ := tv_long ht1
  change pz_E _ _ _ _ _ _ _ _ _ [.long r9] _ _ _
  refine pe_aload_n (k := 2) d_Law_law_421 rfl ?_
  refine lw_arg 1 d_Law_law_422 d_Law_law_423 d_Law_law_424 (by decide) d_Law_law_425 d_Law_law_426 (by omega) hL ?_
  refine lw_arg 2 d_Law_law_427 d_Law_law_428 d_Law_law_429 (by decide) d_Law_law_430 d_Law_law_431 (by omega) hL ?_
  refine lw_arg 3 d_Law_law_432 d_Law_law_433 d_Law_law_434 (by decide) d_Law_law_435 d_Law_law_436 (by omega) hL ?_
  refine pe_callV (fc := fc) (fs := fs) (mc' := 0) (ms' := 0) d_Law_law_437 m_Law_53 j_Mo_fetch v_Mo_fetch hM rfl rfl (by simp [Value.category]) (by decide) g8 rfl rfl ?_
  intro v2 h2 z2 hq2
  obtain ⟨rfl, rfl, s2⟩ := hq2
  change pz_E _ _ _ _ _ _ _ _ _ [.long r9, .long r9] _ _ _
  refine pe_lcmp d_Law_law_440 ?_
  exact pe_if_eq (tgt := 912) d_Law_law_441 (by decide) (fun _ => kk h2 s2) (fun c7 => absurd (lg_self r9) c7)
set_option maxHeartbeats 4000000 in
set_option maxRecDepth 20000 in
theorem lw_case_7 {n : Nat} (hn : n < 4000) (s : ST h n) (hi : i + 6 ≤ L) (hL : L ≤ 3074) (kk : ∀ h2, ST h2 (n + 1) → pz_E l L xs (lwM nm) 7 fc fs 912 (lwS i) [] h2 z Q) : pz_E l L xs (lwM nm) 7 fc fs 446 (lwS i) [] h z Q := by
  obtain ⟨c9, g9⟩ := s.k0
  refine pe_aload_n (k := 1) d_Law_law_446 rfl ?_
  refine lw_arg 1 d_Law_law_447 d_Law_law_448 d_Law_law_449 (by decide) d_Law_law_450 d_Law_law_451 (by omega) hL ?_
  refine lw_arg 2 d_Law_law_452 d_Law_law_453 d_Law_law_454 (by decide) d_Law_law_455 d_Law_law_456 (by omega) hL ?_
  refine lw_arg 3 d_Law_law_457 d_Law_law_458 d_Law_law_459 (by decide) d_Law_law_460 d_Law_law_461 (by omega) hL ?_
  refine pe_callV (fc := fc) (fs := fs) (mc' := 0) (ms' := 0) d_Law_law_462 m_Law_54 j_K_revoke v_K_revoke (op_revoke (xs (i + 1)) (xs (i + 2)) (xs (i + 3)) hn s) rfl rfl (by simp [Value.category]) (by decide) g9 rfl rfl ?_
  intro v1 h1 z1 hq1
  obtain ⟨rfl, ht1, -, ⟨c8, g8⟩, hM⟩ := hq1
  obtain ⟨r9, rfl⟩ := tv_int ht1
  change pz_E _ _ _ _ _ _ _ _ _ [.int r9] _ _ _
  refine pe_aload_n (k := 2) d_Law_law_465 rfl ?_
  refine lw_arg 1 d_Law_law_466 d_Law_law_467 d_Law_law_468 (by decide) d_Law_law_469 d_Law_law_470 (by omega) hL ?_
  refine lw_arg 2 d_Law_law_471 d_Law_law_472 d_Law_law_473 (by decide) d_Law_law_474 d_Law_law_475 (by omega) hL ?_
  refine lw_arg 3 d_Law_law_476 d_Law_law_477 d_Law_law_478 (by decide) d_Law_law_479 d_Law_law_480 (by omega) hL ?_
  refine pe_callV (fc := fc) (fs := fs) (mc' := 0) (ms' := 0) d_Law_law_481 m_Law_58 j_Mo_revoke v_Mo_revoke hM rfl rfl (by simp [Value.category]) (by decide) g8 rfl rfl ?_
  intro v2 h2 z2 hq2
  obtain ⟨rfl, rfl, s2⟩ := hq2
  change pz_E _ _ _ _ _ _ _ _ _ [.int r9, .int r9] _ _ _
  exact pe_icmp_eq (tgt := 912) d_Law_law_484 (by decide) (fun _ => kk h2 s2) (fun c7 => absurd rfl c7)
set_option maxHeartbeats 4000000 in
set_option maxRecDepth 20000 in
theorem lw_case_8 {n : Nat} (hn : n < 4000) (s : ST h n) (hi : i + 6 ≤ L) (hL : L ≤ 3074) (kk : ∀ h2, ST h2 (n + 1) → pz_E l L xs (lwM nm) 7 fc fs 912 (lwS i) [] h2 z Q) : pz_E l L xs (lwM nm) 7 fc fs 489 (lwS i) [] h z Q := by
  obtain ⟨c9, g9⟩ := s.k0
  refine pe_aload_n (k := 1) d_Law_law_489 rfl ?_
  refine lw_arg 1 d_Law_law_490 d_Law_law_491 d_Law_law_492 (by decide) d_Law_law_493 d_Law_law_494 (by omega) hL ?_
  refine pe_callV (fc := fc) (fs := fs) (mc' := 0) (ms' := 0) d_Law_law_495 m_Law_59 j_K_tick v_K_tick (op_tick (xs (i + 1)) hn s) rfl rfl (by simp [Value.category]) (by decide) g9 rfl rfl ?_
  intro v1 h1 z1 hq1
  obtain ⟨rfl, ht1, -, ⟨c8, g8⟩, hM⟩ := hq1
  obtain ⟨r9, rfl⟩ := tv_int ht1
  change pz_E _ _ _ _ _ _ _ _ _ [.int r9] _ _ _
  refine pe_aload_n (k := 2) d_Law_law_498 rfl ?_
  refine lw_arg 1 d_Law_law_499 d_Law_law_500 d_Law_law_501 (by decide) d_Law_law_502 d_Law_law_503 (by omega) hL ?_
  refine pe_callV (fc := fc) (fs := fs) (mc' := 0) (ms' := 0) d_Law_law_504 m_Law_62 j_Mo_tick v_Mo_tick hM rfl rfl (by simp [Value.category]) (by decide) g8 rfl rfl ?_
  intro v2 h2 z2 hq2
  obtain ⟨rfl, rfl, s2⟩ := hq2
  change pz_E _ _ _ _ _ _ _ _ _ [.int r9, .int r9] _ _ _
  exact pe_icmp_eq (tgt := 912) d_Law_law_507 (by decide) (fun _ => kk h2 s2) (fun c7 => absurd rfl c7)
set_option maxHeartbeats 4000000 in
set_option maxRecDepth 20000 in
theorem lw_case_9 {n : Nat} (hn : n < 4000) (s : ST h n) (hi : i + 6 ≤ L) (hL : L ≤ 3074) (kk : ∀ h2, ST h2 (n + 1) → pz_E l L xs (lwM nm) 7 fc fs 912 (lwS i) [] h2 z Q) : pz_E l L xs (lwM nm) 7 fc fs 512 (lwS i) [] h z Q := by
  obtain ⟨c9, g9⟩ := s.k0
  refine pe_aload_n (k := 1) d_Law_law_512 rfl ?_
  refine lw_arg 1 d_Law_law_513 d_Law_law_514 d_Law_law_515 (by decide) d_Law_law_516 d_Law_law_517 (by omega) hL ?_
  refine lw_arg 2 d_Law_law_518 d_Law_law_519 d_Law_law_520 (by decide) d_Law_law_521 d_Law_law_522 (by omega) hL ?_
  refine lw_arg 3 d_Law_law_523 d_Law_law_524 d_Law_law_525 (by decide) d_Law_law_526 d_Law_law_527 (by omega) hL ?_
  refine lw_arg 4 d_Law_law_528 d_Law_law_529 d_Law_law_530 (by decide) d_Law_law_531 d_Law_law_532 (by omega) hL ?_
  refine lw_arg 5 d_Law_law_533 d_Law_law_534 d_Law_law_535 (by decide) d_Law_law_536 d_Law_law_537 (by omega) hL ?_
  refine pe_callV (fc := fc) (fs := fs) (mc' := 0) (ms' := 0) d_Law_law_538 m_Law_63 j_K_op v_K_op (op_op (xs (i + 1)) (xs (i + 2)) (xs (i + 3)) (xs (i + 4)) (xs (i + 5)) hn s) rfl rfl (by simp [Value.category]) (by decide) g9 rfl rfl ?_
  intro v1 h1 z1 hq1
  obtain ⟨rfl, ht1, -, ⟨c8, g8⟩, hM⟩ := hq1
  obtain ⟨r9, rfl⟩ := tv_int ht1
  change pz_E _ _ _ _ _ _ _ _ _ [.int r9] _ _ _
  refine pe_aload_n (k := 2) d_Law_law_541 rfl ?_
  refine lw_arg 1 d_Law_law_542 d_Law_law_543 d_Law_law_544 (by decide) d_Law_law_545 d_Law_law_546 (by omega) hL ?_
  refine lw_arg 2 d_Law_law_547 d_Law_law_548 d_Law_law_549 (by decide) d_Law_law_550 d_Law_law_551 (by omega) hL ?_
  refine lw_arg 3 d_Law_law_552 d_Law_law_553 d_Law_law_554 (by decide) d_Law_law_555 d_Law_law_556 (by omega) hL ?_
  refine lw_arg 4 d_Law_law_557 d_Law_law_558 d_Law_law_559 (by decide) d_Law_law_560 d_Law_law_561 (by omega) hL ?_
  refine lw_arg 5 d_Law_law_562 d_Law_law_563 d_Law_law_564 (by decide) d_Law_law_565 d_Law_law_566 (by omega) hL ?_
  refine pe_callV (fc := fc) (fs := fs) (mc' := 0) (ms' := 0) d_Law_law_567 m_Law_67 j_Mo_op v_Mo_op hM rfl rfl (by simp [Value.category]) (by decide) g8 rfl rfl ?_
  intro v2 h2 z2 hq2
  obtain ⟨rfl, rfl, s2⟩ := hq2
  change pz_E _ _ _ _ _ _ _ _ _ [.int r9, .int r9] _ _ _
  exact pe_icmp_eq (tgt := 912) d_Law_law_570 (by decide) (fun _ => kk h2 s2) (fun c7 => absurd rfl c7)
set_option maxHeartbeats 4000000 in
set_option maxRecDepth 20000 in
theorem lw_case_10 {n : Nat} (hn : n < 4000) (s : ST h n) (hi : i + 6 ≤ L) (hL : L ≤ 3074) (kk : ∀ h2, ST h2 (n + 1) → pz_E l L xs (lwM nm) 7 fc fs 912 (lwS i) [] h2 z Q) : pz_E l L xs (lwM nm) 7 fc fs 575 (lwS i) [] h z Q := by
  obtain ⟨c9, g9⟩ := s.k0
  refine pe_aload_n (k := 1) d_Law_law_575 rfl ?_
  refine lw_arg 1 d_Law_law_576 d_Law_law_577 d_Law_law_578 (by decide) d_Law_law_579 d_Law_law_580 (by omega) hL ?_
  refine pe_callV (fc := fc) (fs := fs) (mc' := 0) (ms' := 0) d_Law_law_581 m_Law_68 j_K_install v_K_install (op_install (xs (i + 1)) hn s) rfl rfl (by simp [Value.category]) (by decide) g9 rfl rfl ?_
  intro v1 h1 z1 hq1
  obtain ⟨rfl, ht1, -, ⟨c8, g8⟩, hM⟩ := hq1
  obtain ⟨r9, rfl⟩ := tv_int ht1
  change pz_E _ _ _ _ _ _ _ _ _ [.int r9] _ _ _
  refine pe_aload_n (k := 2) d_Law_law_584 rfl ?_
  refine lw_arg 1 d_Law_law_585 d_Law_law_586 d_Law_law_587 (by decide) d_Law_law_588 d_Law_law_589 (by omega) hL ?_
  refine pe_callV (fc := fc) (fs := fs) (mc' := 0) (ms' := 0) d_Law_law_590 m_Law_71 j_Mo_install v_Mo_install hM rfl rfl (by simp [Value.category]) (by decide) g8 rfl rfl ?_
  intro v2 h2 z2 hq2
  obtain ⟨rfl, rfl, s2⟩ := hq2
  change pz_E _ _ _ _ _ _ _ _ _ [.int r9, .int r9] _ _ _
  exact pe_icmp_eq (tgt := 912) d_Law_law_593 (by decide) (fun _ => kk h2 s2) (fun c7 => absurd rfl c7)
set_option maxHeartbeats 4000000 in
set_option maxRecDepth 20000 in
theorem lw_case_11 {n : Nat} (hn : n < 4000) (s : ST h n) (hi : i + 6 ≤ L) (hL : L ≤ 3074) (kk : ∀ h2, ST h2 (n + 1) → pz_E l L xs (lwM nm) 7 fc fs 912 (lwS i) [] h2 z Q) : pz_E l L xs (lwM nm) 7 fc fs 598 (lwS i) [] h z Q := by
  obtain ⟨c9, g9⟩ := s.k0
  refine pe_aload_n (k := 1) d_Law_law_598 rfl ?_
  refine lw_arg 1 d_Law_law_599 d_Law_law_600 d_Law_law_601 (by decide) d_Law_law_602 d_Law_law_603 (by omega) hL ?_
  refine pe_callV (fc := fc) (fs := fs) (mc' := 0) (ms' := 0) d_Law_law_604 m_Law_72 j_K_push v_K_push (op_push (xs (i + 1)) hn s) rfl rfl (by simp [Value.category]) (by decide) g9 rfl rfl ?_
  intro v1 h1 z1 hq1
  obtain ⟨rfl, ht1, -, ⟨c8, g8⟩, hM⟩ := hq1
  obtain ⟨r9, rfl⟩ := tv_int ht1
  change pz_E _ _ _ _ _ _ _ _ _ [.int r9] _ _ _
  refine pe_aload_n (k := 2) d_Law_law_607 rfl ?_
  refine lw_arg 1 d_Law_law_608 d_Law_law_609 d_Law_law_610 (by decide) d_Law_law_611 d_Law_law_612 (by omega) hL ?_
  refine pe_callV (fc := fc) (fs := fs) (mc' := 0) (ms' := 0) d_Law_law_613 m_Law_75 j_Mo_push v_Mo_push hM rfl rfl (by simp [Value.category]) (by decide) g8 rfl rfl ?_
  intro v2 h2 z2 hq2
  obtain ⟨rfl, rfl, s2⟩ := hq2
  change pz_E _ _ _ _ _ _ _ _ _ [.int r9, .int r9] _ _ _
  exact pe_icmp_eq (tgt := 912) d_Law_law_616 (by decide) (fun _ => kk h2 s2) (fun c7 => absurd rfl c7)
set_option maxHeartbeats 4000000 in
set_option maxRecDepth 20000 in
theorem lw_case_12 {n : Nat} (hn : n < 4000) (s : ST h n) (hi : i + 6 ≤ L) (hL : L ≤ 3074) (kk : ∀ h2, ST h2 (n + 1) → pz_E l L xs (lwM nm) 7 fc fs 912 (lwS i) [] h2 z Q) : pz_E l L xs (lwM nm) 7 fc fs 621 (lwS i) [] h z Q := by
  obtain ⟨c9, g9⟩ := s.k0
  refine pe_aload_n (k := 1) d_Law_law_621 rfl ?_
  refine pe_callV (fc := fc) (fs := fs) (mc' := 0) (ms' := 0) d_Law_law_622 m_Law_76 j_K_arrive v_K_arrive (op_arrive  hn s) rfl rfl (by simp [Value.category]) (by decide) g9 rfl rfl ?_
  intro v1 h1 z1 hq1
  obtain ⟨rfl, ht1, -, ⟨c8, g8⟩, hM⟩ := hq1
  obtain ⟨r9, rfl⟩ := tv_int ht1
  change pz_E _ _ _ _ _ _ _ _ _ [.int r9] _ _ _
  refine pe_aload_n (k := 2) d_Law_law_625 rfl ?_
  refine pe_callV (fc := fc) (fs := fs) (mc' := 0) (ms' := 0) d_Law_law_626 m_Law_80 j_Mo_arrive v_Mo_arrive hM rfl rfl (by simp [Value.category]) (by decide) g8 rfl rfl ?_
  intro v2 h2 z2 hq2
  obtain ⟨rfl, rfl, s2⟩ := hq2
  change pz_E _ _ _ _ _ _ _ _ _ [.int r9, .int r9] _ _ _
  exact pe_icmp_eq (tgt := 912) d_Law_law_629 (by decide) (fun _ => kk h2 s2) (fun c7 => absurd rfl c7)
set_option maxHeartbeats 4000000 in
set_option maxRecDepth 20000 in
theorem lw_case_13 {n : Nat} (hn : n < 4000) (s : ST h n) (hi : i + 6 ≤ L) (hL : L ≤ 3074) (kk : ∀ h2, ST h2 (n + 1) → pz_E l L xs (lwM nm) 7 fc fs 912 (lwS i) [] h2 z Q) : pz_E l L xs (lwM nm) 7 fc fs 634 (lwS i) [] h z Q := by
  obtain ⟨c9, g9⟩ := s.k0
  refine pe_aload_n (k := 1) d_Law_law_634 rfl ?_
  refine lw_arg 1 d_Law_law_635 d_Law_law_636 d_Law_law_637 (by decide) d_Law_law_638 d_Law_law_639 (by omega) hL ?_
  refine lw_arg 2 d_Law_law_640 d_Law_law_641 d_Law_law_642 (by decide) d_Law_law_643 d_Law_law_644 (by omega) hL ?_
  refine pe_callV (fc := fc) (fs := fs) (mc' := 0) (ms' := 0) d_Law_law_645 m_Law_81 j_K_got v_K_got (op_got (xs (i + 1)) (xs (i + 2)) hn s) rfl rfl (by simp [Value.category]) (by decide) g9 rfl rfl ?_
  intro v1 h1 z1 hq1
  obtain ⟨rfl, ht1, -, ⟨c8, g8⟩, hM⟩ := hq1
  obtain ⟨r9, rfl⟩ := tv_int ht1
  change pz_E _ _ _ _ _ _ _ _ _ [.int r9] _ _ _
  refine pe_aload_n (k := 2) d_Law_law_648 rfl ?_
  refine lw_arg 1 d_Law_law_649 d_Law_law_650 d_Law_law_651 (by decide) d_Law_law_652 d_Law_law_653 (by omega) hL ?_
  refine lw_arg 2 d_Law_law_654 d_Law_law_655 d_Law_law_656 (by decide) d_Law_law_657 d_Law_law_658 (by omega) hL ?_
  refine pe_callV (fc := fc) (fs := fs) (mc' := 0) (ms' := 0) d_Law_law_659 m_Law_84 j_Mo_got v_Mo_got hM rfl rfl (by simp [Value.category]) (by decide) g8 rfl rfl ?_
  intro v2 h2 z2 hq2
  obtain ⟨rfl, rfl, s2⟩ := hq2
  change pz_E _ _ _ _ _ _ _ _ _ [.int r9, .int r9] _ _ _
  exact pe_icmp_eq (tgt := 912) d_Law_law_662 (by decide) (fun _ => kk h2 s2) (fun c7 => absurd rfl c7)
set_option maxHeartbeats 4000000 in
set_option maxRecDepth 20000 in
theorem lw_case_14 {n : Nat} (hn : n < 4000) (s : ST h n) (hi : i + 6 ≤ L) (hL : L ≤ 3074) (kk : ∀ h2, ST h2 (n + 1) → pz_E l L xs (lwM nm) 7 fc fs 912 (lwS i) [] h2 z Q) : pz_E l L xs (lwM nm) 7 fc fs 667 (lwS i) [] h z Q := by
  obtain ⟨c9, g9⟩ := s.k0
  refine pe_aload_n (k := 1) d_Law_law_667 rfl ?_
  refine lw_arg 1 d_Law_law_668 d_Law_law_669 d_Law_law_670 (by decide) d_Law_law_671 d_Law_law_672 (by omega) hL ?_
  refine pe_callV (fc := fc) (fs := fs) (mc' := 0) (ms' := 0) d_Law_law_673 m_Law_85 j_K_next v_K_next (op_next (xs (i + 1)) hn s) rfl rfl (by simp [Value.category]) (by decide) g9 rfl rfl ?_
  intro v1 h1 z1 hq1
  obtain ⟨rfl, ht1, -, ⟨c8, g8⟩, hM⟩ := hq1
  obtain ⟨r9, rfl⟩ := tv_int ht1
  change pz_E _ _ _ _ _ _ _ _ _ [.int r9] _ _ _
  refine pe_aload_n (k := 2) d_Law_law_676 rfl ?_
  refine lw_arg 1 d_Law_law_677 d_Law_law_678 d_Law_law_679 (by decide) d_Law_law_680 d_Law_law_681 (by omega) hL ?_
  refine pe_callV (fc := fc) (fs := fs) (mc' := 0) (ms' := 0) d_Law_law_682 m_Law_88 j_Mo_next v_Mo_next hM rfl rfl (by simp [Value.category]) (by decide) g8 rfl rfl ?_
  intro v2 h2 z2 hq2
  obtain ⟨rfl, rfl, s2⟩ := hq2
  change pz_E _ _ _ _ _ _ _ _ _ [.int r9, .int r9] _ _ _
  exact pe_icmp_eq (tgt := 912) d_Law_law_685 (by decide) (fun _ => kk h2 s2) (fun c7 => absurd rfl c7)
set_option maxHeartbeats 4000000 in
set_option maxRecDepth 20000 in
theorem lw_case_15 {n : Nat} (hn : n < 4000) (s : ST h n) (hi : i + 6 ≤ L) (hL : L ≤ 3074) (kk : ∀ h2, ST h2 (n + 1) → pz_E l L xs (lwM nm) 7 fc fs 912 (lwS i) [] h2 z Q) : pz_E l L xs (lwM nm) 7 fc fs 690 (lwS i) [] h z Q := by
  obtain ⟨c9, g9⟩ := s.k0
  refine pe_aload_n (k := 1) d_Law_law_690 rfl ?_
  refine lw_arg 1 d_Law_law_691 d_Law_law_692 d_Law_law_693 (by decide) d_Law_law_694 d_Law_law_695 (by omega) hL ?_
  refine lw_arg 2 d_Law_law_696 d_Law_law_697 d_Law_law_698 (by decide) d_Law_law_699 d_Law_law_700 (by omega) hL ?_
  refine lw_arg 3 d_Law_law_701 d_Law_law_702 d_Law_law_703 (by decide) d_Law_law_704 d_Law_law_705 (by omega) hL ?_
  refine lw_arg 4 d_Law_law_706 d_Law_law_707 d_Law_law_708 (by decide) d_Law_law_709 d_Law_law_710 (by omega) hL ?_
  refine pe_callV (fc := fc) (fs := fs) (mc' := 0) (ms' := 0) d_Law_law_711 m_Law_89 j_K_write v_K_write (op_write (xs (i + 1)) (xs (i + 2)) (xs (i + 3)) (xs (i + 4)) hn s) rfl rfl (by simp [Value.category]) (by decide) g9 rfl rfl ?_
  intro v1 h1 z1 hq1
  obtain ⟨rfl, ht1, -, ⟨c8, g8⟩, hM⟩ := hq1
  obtain ⟨r9, rfl⟩ := tv_int ht1
  change pz_E _ _ _ _ _ _ _ _ _ [.int r9] _ _ _
  refine pe_aload_n (k := 2) d_Law_law_714 rfl ?_
  refine lw_arg 1 d_Law_law_715 d_Law_law_716 d_Law_law_717 (by decide) d_Law_law_718 d_Law_law_719 (by omega) hL ?_
  refine lw_arg 2 d_Law_law_720 d_Law_law_721 d_Law_law_722 (by decide) d_Law_law_723 d_Law_law_724 (by omega) hL ?_
  refine lw_arg 3 d_Law_law_725 d_Law_law_726 d_Law_law_727 (by decide) d_Law_law_728 d_Law_law_729 (by omega) hL ?_
  refine lw_arg 4 d_Law_law_730 d_Law_law_731 d_Law_law_732 (by decide) d_Law_law_733 d_Law_law_734 (by omega) hL ?_
  refine pe_callV (fc := fc) (fs := fs) (mc' := 0) (ms' := 0) d_Law_law_735 m_Law_92 j_Mo_write v_Mo_write hM rfl rfl (by simp [Value.category]) (by decide) g8 rfl rfl ?_
  intro v2 h2 z2 hq2
  obtain ⟨rfl, rfl, s2⟩ := hq2
  change pz_E _ _ _ _ _ _ _ _ _ [.int r9, .int r9] _ _ _
  exact pe_icmp_eq (tgt := 912) d_Law_law_738 (by decide) (fun _ => kk h2 s2) (fun c7 => absurd rfl c7)
set_option maxHeartbeats 4000000 in
set_option maxRecDepth 20000 in
theorem lw_case_16 {n : Nat} (hn : n < 4000) (s : ST h n) (hi : i + 6 ≤ L) (hL : L ≤ 3074) (kk : ∀ h2, ST h2 (n + 1) → pz_E l L xs (lwM nm) 7 fc fs 912 (lwS i) [] h2 z Q) : pz_E l L xs (lwM nm) 7 fc fs 743 (lwS i) [] h z Q := by
  obtain ⟨c9, g9⟩ := s.k0
  refine pe_aload_n (k := 1) d_Law_law_743 rfl ?_
  refine lw_arg 1 d_Law_law_744 d_Law_law_745 d_Law_law_746 (by decide) d_Law_law_747 d_Law_law_748 (by omega) hL ?_
  refine lw_arg 2 d_Law_law_749 d_Law_law_750 d_Law_law_751 (by decide) d_Law_law_752 d_Law_law_753 (by omega) hL ?_
  refine lw_arg 3 d_Law_law_754 d_Law_law_755 d_Law_law_756 (by decide) d_Law_law_757 d_Law_law_758 (by omega) hL ?_
  refine lw_arg 4 d_Law_law_759 d_Law_law_760 d_Law_law_761 (by decide) d_Law_law_762 d_Law_law_763 (by omega) hL ?_
  refine lw_bool d_Law_law_764 d_Law_law_767 d_Law_law_768 d_Law_law_771 ?_
  refine pe_callV (fc := fc) (fs := fs) (mc' := 0) (ms' := 0) d_Law_law_772 m_Law_93 j_K_put v_K_put (op_put (xs (i + 1)) (xs (i + 2)) (xs (i + 3)) (!decide (xs (i + 4) = 0)) hn s) rfl rfl (by simp [Value.category]) (by decide) g9 rfl rfl ?_
  intro v1 h1 z1 hq1
  obtain ⟨rfl, ht1, -, ⟨c8, g8⟩, hM⟩ := hq1
  obtain ⟨r9, rfl⟩ := tv_int ht1
  change pz_E _ _ _ _ _ _ _ _ _ [.int r9] _ _ _
  refine pe_aload_n (k := 2) d_Law_law_775 rfl ?_
  refine lw_arg 1 d_Law_law_776 d_Law_law_777 d_Law_law_778 (by decide) d_Law_law_779 d_Law_law_780 (by omega) hL ?_
  refine lw_arg 2 d_Law_law_781 d_Law_law_782 d_Law_law_783 (by decide) d_Law_law_784 d_Law_law_785 (by omega) hL ?_
  refine lw_arg 3 d_Law_law_786 d_Law_law_787 d_Law_law_788 (by decide) d_Law_law_789 d_Law_law_790 (by omega) hL ?_
  refine lw_arg 4 d_Law_law_791 d_Law_law_792 d_Law_law_793 (by decide) d_Law_law_794 d_Law_law_795 (by omega) hL ?_
  refine lw_bool d_Law_law_796 d_Law_law_799 d_Law_law_800 d_Law_law_803 ?_
  refine pe_callV (fc := fc) (fs := fs) (mc' := 0) (ms' := 0) d_Law_law_804 m_Law_97 j_Mo_put v_Mo_put hM rfl rfl (by simp [Value.category]) (by decide) g8 rfl rfl ?_
  intro v2 h2 z2 hq2
  obtain ⟨rfl, rfl, s2⟩ := hq2
  change pz_E _ _ _ _ _ _ _ _ _ [.int r9, .int r9] _ _ _
  exact pe_icmp_eq (tgt := 912) d_Law_law_807 (by decide) (fun _ => kk h2 s2) (fun c7 => absurd rfl c7)
set_option maxHeartbeats 4000000 in
set_option maxRecDepth 20000 in
theorem lw_case_17 {n : Nat} (hn : n < 4000) (s : ST h n) (hi : i + 6 ≤ L) (hL : L ≤ 3074) (kk : ∀ h2, ST h2 (n + 1) → pz_E l L xs (lwM nm) 7 fc fs 912 (lwS i) [] h2 z Q) : pz_E l L xs (lwM nm) 7 fc fs 812 (lwS i) [] h z Q := by
  obtain ⟨c9, g9⟩ := s.k0
  refine pe_aload_n (k := 1) d_Law_law_812 rfl ?_
  refine lw_arg 1 d_Law_law_813 d_Law_law_814 d_Law_law_815 (by decide) d_Law_law_816 d_Law_law_817 (by omega) hL ?_
  refine lw_arg 2 d_Law_law_818 d_Law_law_819 d_Law_law_820 (by decide) d_Law_law_821 d_Law_law_822 (by omega) hL ?_
  refine pe_callV (fc := fc) (fs := fs) (mc' := 0) (ms' := 0) d_Law_law_823 m_Law_98 j_K_get v_K_get (op_get (xs (i + 1)) (xs (i + 2)) hn s) rfl rfl (by simp [Value.category]) (by decide) g9 rfl rfl ?_
  intro v1 h1 z1 hq1
  obtain ⟨rfl, ht1, -, ⟨c8, g8⟩, hM⟩ := hq1
  obtain ⟨r9, rfl⟩ := tv_long ht1
  change pz_E _ _ _ _ _ _ _ _ _ [.long r9] _ _ _
  refine pe_aload_n (k := 2) d_Law_law_826 rfl ?_
  refine lw_arg 1 d_Law_law_827 d_Law_law_828 d_Law_law_829 (by decide) d_Law_law_830 d_Law_law_831 (by omega) hL ?_
  refine lw_arg 2 d_Law_law_832 d_Law_law_833 d_Law_law_834 (by decide) d_Law_law_835 d_Law_law_836 (by omega) hL ?_
  refine pe_callV (fc := fc) (fs := fs) (mc' := 0) (ms' := 0) d_Law_law_837 m_Law_102 j_Mo_get v_Mo_get hM rfl rfl (by simp [Value.category]) (by decide) g8 rfl rfl ?_
  intro v2 h2 z2 hq2
  obtain ⟨rfl, rfl, s2⟩ := hq2
  change pz_E _ _ _ _ _ _ _ _ _ [.long r9, .long r9] _ _ _
  refine pe_lcmp d_Law_law_840 ?_
  exact pe_if_eq (tgt := 912) d_Law_law_841 (by decide) (fun _ => kk h2 s2) (fun c7 => absurd (lg_self r9) c7)
set_option maxHeartbeats 4000000 in
set_option maxRecDepth 20000 in
theorem lw_case_18 {n : Nat} (hn : n < 4000) (s : ST h n) (hi : i + 6 ≤ L) (hL : L ≤ 3074) (kk : ∀ h2, ST h2 (n + 1) → pz_E l L xs (lwM nm) 7 fc fs 912 (lwS i) [] h2 z Q) : pz_E l L xs (lwM nm) 7 fc fs 846 (lwS i) [] h z Q := by
  obtain ⟨c9, g9⟩ := s.k0
  refine pe_aload_n (k := 1) d_Law_law_846 rfl ?_
  refine lw_arg 1 d_Law_law_847 d_Law_law_848 d_Law_law_849 (by decide) d_Law_law_850 d_Law_law_851 (by omega) hL ?_
  refine lw_arg 2 d_Law_law_852 d_Law_law_853 d_Law_law_854 (by decide) d_Law_law_855 d_Law_law_856 (by omega) hL ?_
  refine pe_callV (fc := fc) (fs := fs) (mc' := 0) (ms' := 0) d_Law_law_857 m_Law_103 j_K_holder v_K_holder (op_holder (xs (i + 1)) (xs (i + 2)) hn s) rfl rfl (by simp [Value.category]) (by decide) g9 rfl rfl ?_
  intro v1 h1 z1 hq1
  obtain ⟨rfl, ht1, -, ⟨c8, g8⟩, hM⟩ := hq1
  obtain ⟨r9, rfl⟩ := tv_int ht1
  change pz_E _ _ _ _ _ _ _ _ _ [.int r9] _ _ _
  refine pe_aload_n (k := 2) d_Law_law_860 rfl ?_
  refine lw_arg 1 d_Law_law_861 d_Law_law_862 d_Law_law_863 (by decide) d_Law_law_864 d_Law_law_865 (by omega) hL ?_
  refine lw_arg 2 d_Law_law_866 d_Law_law_867 d_Law_law_868 (by decide) d_Law_law_869 d_Law_law_870 (by omega) hL ?_
  refine pe_callV (fc := fc) (fs := fs) (mc' := 0) (ms' := 0) d_Law_law_871 m_Law_106 j_Mo_holder v_Mo_holder hM rfl rfl (by simp [Value.category]) (by decide) g8 rfl rfl ?_
  intro v2 h2 z2 hq2
  obtain ⟨rfl, rfl, s2⟩ := hq2
  change pz_E _ _ _ _ _ _ _ _ _ [.int r9, .int r9] _ _ _
  exact pe_icmp_eq (tgt := 912) d_Law_law_874 (by decide) (fun _ => kk h2 s2) (fun c7 => absurd rfl c7)
set_option maxHeartbeats 4000000 in
set_option maxRecDepth 20000 in
theorem lw_case_19 {n : Nat} (hn : n < 4000) (s : ST h n) (hi : i + 6 ≤ L) (hL : L ≤ 3074) (kk : ∀ h2, ST h2 (n + 1) → pz_E l L xs (lwM nm) 7 fc fs 912 (lwS i) [] h2 z Q) : pz_E l L xs (lwM nm) 7 fc fs 879 (lwS i) [] h z Q := by
  obtain ⟨c9, g9⟩ := s.k0
  refine pe_aload_n (k := 1) d_Law_law_879 rfl ?_
  refine lw_arg 1 d_Law_law_880 d_Law_law_881 d_Law_law_882 (by decide) d_Law_law_883 d_Law_law_884 (by omega) hL ?_
  refine lw_arg 2 d_Law_law_885 d_Law_law_886 d_Law_law_887 (by decide) d_Law_law_888 d_Law_law_889 (by omega) hL ?_
  refine pe_callV (fc := fc) (fs := fs) (mc' := 0) (ms' := 0) d_Law_law_890 m_Law_107 j_K_count v_K_count (op_count (xs (i + 1)) (xs (i + 2)) hn s) rfl rfl (by simp [Value.category]) (by decide) g9 rfl rfl ?_
  intro v1 h1 z1 hq1
  obtain ⟨rfl, ht1, -, ⟨c8, g8⟩, hM⟩ := hq1
  obtain ⟨r9, rfl⟩ := tv_int ht1
  change pz_E _ _ _ _ _ _ _ _ _ [.int r9] _ _ _
  refine pe_aload_n (k := 2) d_Law_law_893 rfl ?_
  refine lw_arg 1 d_Law_law_894 d_Law_law_895 d_Law_law_896 (by decide) d_Law_law_897 d_Law_law_898 (by omega) hL ?_
  refine lw_arg 2 d_Law_law_899 d_Law_law_900 d_Law_law_901 (by decide) d_Law_law_902 d_Law_law_903 (by omega) hL ?_
  refine pe_callV (fc := fc) (fs := fs) (mc' := 0) (ms' := 0) d_Law_law_904 m_Law_110 j_Mo_count v_Mo_count hM rfl rfl (by simp [Value.category]) (by decide) g8 rfl rfl ?_
  intro v2 h2 z2 hq2
  obtain ⟨rfl, rfl, s2⟩ := hq2
  change pz_E _ _ _ _ _ _ _ _ _ [.int r9, .int r9] _ _ _
  exact pe_icmp_eq (tgt := 912) d_Law_law_907 (by decide) (fun _ => kk h2 s2) (fun c7 => absurd rfl c7)
set_option maxHeartbeats 4000000 in
set_option maxRecDepth 20000 in
theorem lw_sw {n : Nat} (x : Int32) (hn : n < 4000) (s : ST h n) (hi : i + 6 ≤ L) (hL : L ≤ 3074) (k9 : ∀ h2, ST h2 (n + 1) → pz_E l L xs (lwM nm) 7 fc fs 912 (lwS i) [] h2 z Q) : pz_E l L xs (lwM nm) 7 fc fs 53 (lwS i) [.int x] h z Q := by
  by_cases ho : x.toInt < 0 ∨ 19 < x.toInt
  · exact pe_tableOut (tgt := 912) d_Law_law_53 ho (by decide) (k9 h s.up)
  · have hr : x.toInt = 0 ∨ x.toInt = 1 ∨ x.toInt = 2 ∨ x.toInt = 3 ∨ x.toInt = 4 ∨ x.toInt = 5 ∨ x.toInt = 6 ∨ x.toInt = 7 ∨ x.toInt = 8 ∨ x.toInt = 9 ∨ x.toInt = 10 ∨ x.toInt = 11 ∨ x.toInt = 12 ∨ x.toInt = 13 ∨ x.toInt = 14 ∨ x.toInt = 15 ∨ x.toInt = 16 ∨ x.toInt = 17 ∨ x.toInt = 18 ∨ x.toInt = 19 := by omega
    rcases hr with h9 | h9 | h9 | h9 | h9 | h9 | h9 | h9 | h9 | h9 | h9 | h9 | h9 | h9 | h9 | h9 | h9 | h9 | h9 | h9
    · exact pe_tableIn (tgt := 148) d_Law_law_53 (by omega) (by omega) (by rw [h9]; rfl) (by decide) (lw_case_0 (by omega) s (by omega) hL k9)
    · exact pe_tableIn (tgt := 217) d_Law_law_53 (by omega) (by omega) (by rw [h9]; rfl) (by decide) (lw_case_1 (by omega) s (by omega) hL k9)
    · exact pe_tableIn (tgt := 240) d_Law_law_53 (by omega) (by omega) (by rw [h9]; rfl) (by decide) (lw_case_2 (by omega) s (by omega) hL k9)
    · exact pe_tableIn (tgt := 263) d_Law_law_53 (by omega) (by omega) (by rw [h9]; rfl) (by decide) (lw_case_3 (by omega) s (by omega) hL k9)
    · exact pe_tableIn (tgt := 296) d_Law_law_53 (by omega) (by omega) (by rw [h9]; rfl) (by decide) (lw_case_4 (by omega) s (by omega) hL k9)
    · exact pe_tableIn (tgt := 349) d_Law_law_53 (by omega) (by omega) (by rw [h9]; rfl) (by decide) (lw_case_5 (by omega) s (by omega) hL k9)
    · exact pe_tableIn (tgt := 402) d_Law_law_53 (by omega) (by omega) (by rw [h9]; rfl) (by decide) (lw_case_6 (by omega) s (by omega) hL k9)
    · exact pe_tableIn (tgt := 446) d_Law_law_53 (by omega) (by omega) (by rw [h9]; rfl) (by decide) (lw_case_7 (by omega) s (by omega) hL k9)
    · exact pe_tableIn (tgt := 489) d_Law_law_53 (by omega) (by omega) (by rw [h9]; rfl) (by decide) (lw_case_8 (by omega) s (by omega) hL k9)
    · exact pe_tableIn (tgt := 512) d_Law_law_53 (by omega) (by omega) (by rw [h9]; rfl) (by decide) (lw_case_9 (by omega) s (by omega) hL k9)
    · exact pe_tableIn (tgt := 575) d_Law_law_53 (by omega) (by omega) (by rw [h9]; rfl) (by decide) (lw_case_10 (by omega) s (by omega) hL k9)
    · exact pe_tableIn (tgt := 598) d_Law_law_53 (by omega) (by omega) (by rw [h9]; rfl) (by decide) (lw_case_11 (by omega) s (by omega) hL k9)
    · exact pe_tableIn (tgt := 621) d_Law_law_53 (by omega) (by omega) (by rw [h9]; rfl) (by decide) (lw_case_12 (by omega) s (by omega) hL k9)
    · exact pe_tableIn (tgt := 634) d_Law_law_53 (by omega) (by omega) (by rw [h9]; rfl) (by decide) (lw_case_13 (by omega) s (by omega) hL k9)
    · exact pe_tableIn (tgt := 667) d_Law_law_53 (by omega) (by omega) (by rw [h9]; rfl) (by decide) (lw_case_14 (by omega) s (by omega) hL k9)
    · exact pe_tableIn (tgt := 690) d_Law_law_53 (by omega) (by omega) (by rw [h9]; rfl) (by decide) (lw_case_15 (by omega) s (by omega) hL k9)
    · exact pe_tableIn (tgt := 743) d_Law_law_53 (by omega) (by omega) (by rw [h9]; rfl) (by decide) (lw_case_16 (by omega) s (by omega) hL k9)
    · exact pe_tableIn (tgt := 812) d_Law_law_53 (by omega) (by omega) (by rw [h9]; rfl) (by decide) (lw_case_17 (by omega) s (by omega) hL k9)
    · exact pe_tableIn (tgt := 846) d_Law_law_53 (by omega) (by omega) (by rw [h9]; rfl) (by decide) (lw_case_18 (by omega) s (by omega) hL k9)
    · exact pe_tableIn (tgt := 879) d_Law_law_53 (by omega) (by omega) (by rw [h9]; rfl) (by decide) (lw_case_19 (by omega) s (by omega) hL k9)
set_option maxHeartbeats 4000000 in
set_option maxRecDepth 20000 in
theorem lw_loop (hL : L ≤ 3074) (hQ : ∀ h', Q (some (.int 1)) h' z) : ∀ (k n : Nat) (h : pz_H), L < 2 + 6 * n + k → 6 * n ≤ L → ST h n → pz_E l L xs (lwM nm) 7 fc fs 38 (lwS (2 + 6 * n)) [] h z Q := by
  have fin : ∀ (n : Nat) (h : pz_H), pz_E l L xs (lwM nm) 7 fc fs 918 (lwS (2 + 6 * n)) [] h z Q := fun n h => pe_iconst (v := 1) d_Law_law_918 (by decide) (pe_zret d_Law_law_919 rfl (by decide) (hQ h))
  intro k
  induction k with
  | zero =>
    intro n h hk hb s
    refine pe_iload_n (k := 3) d_Law_law_38 rfl ?_
    refine pe_sload_n (k := 0) d_Law_law_39 rfl ?_
    refine pe_slen d_Law_law_40 ?_
    refine pe_bipush (v := nI 6) d_Law_law_41 (by decide) ?_
    by_cases h6 : 6 ≤ L
    · refine pe_isubN (a := L) d_Law_law_43 h6 ?_
      exact pe_icmpN_gt (tgt := 918) d_Law_law_44 (by decide) (by omega) (by omega) (fun _ => fin n h) (fun c => absurd (show L - 6 < 2 + 6 * n by omega) c)
    · refine pe_isub (x := nI L) d_Law_law_43 ?_
      exact pe_icmp_gt (tgt := 918) d_Law_law_44 (by decide) (fun _ => fin n h) (fun c => absurd (lw_neg (L := L) (by omega) (by omega)) c)
  | succ k ih =>
    intro n h hk hb s
    refine pe_iload_n (k := 3) d_Law_law_38 rfl ?_
    refine pe_sload_n (k := 0) d_Law_law_39 rfl ?_
    refine pe_slen d_Law_law_40 ?_
    refine pe_bipush (v := nI 6) d_Law_law_41 (by decide) ?_
    by_cases h6 : 6 ≤ L
    · refine pe_isubN (a := L) d_Law_law_43 h6 ?_
      refine pe_icmpN_gt (tgt := 918) d_Law_law_44 (by decide) (by omega) (by omega) (fun _ => fin n h) (fun c => ?_)
      have k9 : ∀ h2, ST h2 (n + 1) → pz_E l L xs (lwM nm) 7 fc fs 912 (lwS (2 + 6 * n)) [] h2 z Q := fun h2 s2 => by
        refine pe_iinc (v := nI (2 + 6 * (n + 1))) d_Law_law_912 rfl (by rw [show Int32.ofInt 6 = nI 6 from by decide, nI_add]; rfl) (Nat.le_of_ble_eq_true rfl) rfl ?_
        refine pe_goto (tgt := 38) d_Law_law_915 (by decide) ?_
        exact ih (n + 1) h2 (by omega) (by omega) s2
      refine pe_sload_n (k := 0) d_Law_law_47 rfl ?_
      refine pe_iload_n (k := 3) d_Law_law_48 rfl ?_
      refine pe_sld d_Law_law_49 (sl_in (by omega) hL) ?_
      refine pe_bipush (v := nI 31) d_Law_law_50 (by decide) ?_
      refine pe_iand d_Law_law_52 ?_
      exact lw_sw _ (by omega) s (by omega) hL k9
    · refine pe_isub (x := nI L) d_Law_law_43 ?_
      exact pe_icmp_gt (tgt := 918) d_Law_law_44 (by decide) (fun _ => fin n h) (fun c => absurd (lw_neg (L := L) (by omega) (by omega)) c)
end LAW
set_option maxHeartbeats 4000000 in
set_option maxRecDepth 20000 in
theorem st_0 {h : pz_H} {x y : Int32} (hK : KOB h 0) (hm : MEM h (clp x) (fun _ => 0) (fil (fun _ => 0) (fun _ => -1) 0 (clp x)) (fun _ => 0) (fun _ => 0) (fun _ => false) (fun _ => 0) 0 0) (hd : DSK h (clp y) (fun _ => 0) (fil (fun _ => 0) (fun _ => -1) 0 (clp y))) (ho : ORD h (fun _ => 0) 0) (hr : FRA 13 h (fun _ => 0) 0) (hz : ∀ i, i < 6 → APZ (16 + 25 * i) h) (hMo : MOB h (clp x) (clp y) 0 0 0 0 0 0 0) (hOp : AB h 167 6 (fun _ => false)) (hIm : AB h 168 6 (fun _ => false)) (hFi : AI h 169 6 (fun _ => 0)) (hLi : AI h 170 6 (fun _ => 0)) (hOw : AI h 171 32 (fil (fun _ => 0) (fun _ => -1) 0 32)) (hTk : AI h 172 32 (fun _ => 0)) (hDl : AI h 173 32 (fun _ => 0)) (hRt : AI h 174 192 (fun _ => 0)) (hWd : AI h 175 128 (fun _ => 0)) (hGo : AI h 176 48 (fun _ => 0)) (hGm : AN h 177 6 (fun _ => 0)) (hLn : AN h 178 12 (fun _ => 0)) (hCd : AI h 179 768 (fun _ => 0)) (hSt : AI h 180 6 (fun _ => 0)) (hFm : AI h 181 16 (fun _ => 0)) (hFs : AN h 182 6 (fun _ => 0)) (hFl : AN h 183 24 (fun _ => 0)) (hFb : AI h 184 384 (fun _ => 0)) (hHo : AI h 185 32 (fil (fun _ => 0) (fun _ => -1) 0 32)) (hWo : AI h 186 256 (fun _ => 0)) (hDa : AI h 187 42 (fun _ => 0)) (hEn : AN h 188 6 (fun _ => 0)) (hKe : AI h 189 168 (fun _ => 0)) (hVa : AI h 190 168 (fun _ => 0)) : ST h 0 := by
  have hx := clp_le x
  have hy := clp_le y
  have hk : KER h (clp x) (clp y) (fun _ => 0) (fil (fun _ => 0) (fun _ => -1) 0 (clp x)) (fun _ => 0) (fun _ => 0) (fun _ => false) (fun _ => 0) 0 0 (fun _ => 0) (fil (fun _ => 0) (fun _ => -1) 0 (clp y)) (fun _ => 0) 0 (fun _ => 0) 0 0 (fun i => 16 + 25 * i + 15) (fun i => 16 + 25 * i + 20) (fun _ => false) (fun _ => false) (fun _ => 0) (fun _ => 0) (fun _ _ => 0) (fun _ => 0) (fun _ => 0) (fun _ _ _ => 0) (fun _ _ => 0) (fun _ => 0) (fun _ => 0) (fun _ _ => 0) (fun _ => 0) (fun _ _ => 0) (fun _ _ => 0) (fun _ _ => 0) (fun _ _ => 0) (fun _ => 0) (fun _ _ => 0) (fun _ _ => 0) (fun _ _ => 0) (fun _ _ => 0) (fun _ => 0) := ⟨hK, hm, hd, ho, hr, fun i hi => ⟨(hz i hi).1, (hz i hi).2.1, (hz i hi).2.2.1, (hz i hi).2.2.2.1, (hz i hi).2.2.2.2.1, (hz i hi).2.2.2.2.2, Or.inl ⟨rfl, rfl⟩⟩⟩
  have he : MOD h (clp x) (clp y) 0 0 0 0 0 (fun _ => false) (fun _ => false) 0 0 (fun _ => 0) (fun _ => 0) (fil (fun _ => 0) (fun _ => -1) 0 32) (fun _ => 0) (fun _ => 0) (fun _ => 0) (fun _ => 0) (fun _ => 0) (fun _ => 0) (fun _ => 0) (fun _ => 0) (fun _ => 0) (fun _ => 0) (fun _ => 0) (fun _ => 0) (fun _ => 0) (fil (fun _ => 0) (fun _ => -1) 0 32) (fun _ => 0) (fun _ => 0) (fun _ => 0) (fun _ => 0) (fun _ => 0) := ⟨hMo, hOp, hIm, hFi, hLi, hOw, hTk, hDl, hRt, hWd, hGo, hGm, hLn, hCd, hSt, hFm, hFs, hFl, hFb, hHo, hWo, hDa, hEn, hKe, hVa⟩
  have hrm : RM (clp x) (fun _ => 0) (fil (fun _ => 0) (fun _ => -1) 0 (clp x)) (fun _ => 0) (fun _ => 0) (fun _ => false) (fun _ => 0) 0 0 (fun _ => false) (fil (fun _ => 0) (fun _ => -1) 0 32) (fun _ => 0) (fun _ => 0) (fun _ => 0) (fun _ => 0) := ⟨fun q hq => by rw [fil_i (by omega), fil_i (by omega)], fun q hq => Or.inl (fil_i (by omega)), fun q hq h9 => absurd (fil_i (by omega)) h9, fun q hq h9 => absurd (show false = true from h9) (by decide), fun _ _ _ => rfl, fun _ _ => ⟨rfl, Or.inl rfl⟩, fun _ _ => rfl⟩
  have hrd : RD (clp y) (fun _ => 0) (fil (fun _ => 0) (fun _ => -1) 0 (clp y)) (fun _ => false) (fun _ => false) (fun _ => 0) (fun _ => 0) (fil (fun _ => 0) (fun _ => -1) 0 32) (fun _ => 0) := ⟨fun q hq => by rw [fil_i (by omega), fil_i (by omega)], fun q hq => Or.inl (fil_i (by omega)), fun _ _ _ _ _ _ _ _ => rfl, fun _ _ => Nat.zero_le 8, fun a b w h9 => absurd (show w < 0 from h9.2.2.2.2.2) (Nat.not_lt_zero w), fun a b w b2 w2 h9 => absurd (show w < 0 from h9.2.2.2.2.2) (Nat.not_lt_zero w)⟩
  have hro : RO (fun _ => 0) 0 (fun _ => false) (fun _ => 0) (fun _ => 0) := ⟨(fun j hj => absurd (show j < 0 from hj) (Nat.not_lt_zero j)), (fun j hj => absurd (show j < 0 from hj) (Nat.not_lt_zero j)), fun j i hj => absurd hj (Nat.not_lt_zero j)⟩
  have hR : REL (clp x) (clp y) (fun _ => 0) (fil (fun _ => 0) (fun _ => -1) 0 (clp x)) (fun _ => 0) (fun _ => 0) (fun _ => false) (fun _ => 0) 0 0 (fun _ => 0) (fil (fun _ => 0) (fun _ => -1) 0 (clp y)) (fun _ => 0) 0 (fun _ => 0) 0 0 (fun i => 16 + 25 * i + 15) (fun i => 16 + 25 * i + 20) (fun _ => false) (fun _ => false) (fun _ => 0) (fun _ => 0) (fun _ _ => 0) (fun _ => 0) (fun _ => 0) (fun _ _ _ => 0) (fun _ _ => 0) (fun _ => 0) (fun _ => 0) (fun _ _ => 0) (fun _ => 0) (fun _ _ => 0) (fun _ _ => 0) (fun _ _ => 0) (fun _ _ => 0) (fun _ => 0) (fun _ _ => 0) (fun _ _ => 0) (fun _ _ => 0) (fun _ _ => 0) (fun _ => 0) 0 0 (fun _ => 0) (fun _ => 0) (fil (fun _ => 0) (fun _ => -1) 0 32) (fun _ => 0) (fun _ => 0) (fun _ => 0) (fun _ => 0) (fun _ => 0) (fun _ => 0) (fun _ => 0) (fun _ => 0) (fun _ => 0) (fun _ => 0) (fun _ => 0) (fun _ => 0) (fun _ => 0) (fil (fun _ => 0) (fun _ => -1) 0 32) (fun _ => 0) (fun _ => 0) (fun _ => 0) (fun _ => 0) (fun _ => 0) 0 := ⟨Nat.le_refl 0, Nat.zero_le _, hrm, hrd, hro, (fun j hj => absurd (show j < 0 from hj) (Nat.not_lt_zero j)), fun a ha => ⟨((fun h9 => absurd (show false = true from h9) (by decide))), (rfl), ((fun j hj => absurd (show j < 0 from hj) (Nat.not_lt_zero j))), (fun _ => rfl), ((fun h9 => absurd (show false = true from h9) (by decide))), ((fun h9 => absurd (show false = true from h9) (by decide))), ((fun h9 => absurd (show false = true from h9) (by decide))), (fun _ => rfl), ((fun h9 => absurd (show false = true from h9) (by decide))), ((fun h9 => absurd (show false = true from h9) (by decide))), ((fun h9 => absurd (show false = true from h9) (by decide))), ((fun h9 => absurd (show false = true from h9) (by decide))), ((fun h9 => absurd (show false = true from h9) (by decide))), (fun _ => rfl), ((fun h9 => absurd (show false = true from h9) (by decide))), ((fun j hj => absurd (show j < 0 from hj) (Nat.not_lt_zero j))), (fun h9 => absurd (show 0 < 0 from h9) (Nat.lt_irrefl 0)), (fun h9 => absurd (show 0 < 0 from h9) (Nat.lt_irrefl 0))⟩⟩
  exact ST.mk hk he hR
set_option maxHeartbeats 4000000 in
set_option maxRecDepth 20000 in
theorem lw_go {l : Launch} {L : Nat} {xs : Nat → Int32} {nm : String} {Q : pz_Q} (hL : L ≤ 3074) (hQ : ∀ h', Q (some (.int 1)) h' 191) : pz_E l L xs (lwM nm) 7 426 8421 0 [some (.retAddr 0), none, none, none] [] (fun _ => none) 0 Q := by
  refine pe_less (fc' := 425 + 1) (fs' := 8415 + 6) (by omega) (by omega) ?_
  refine pe_new d_Law_law_0 n_Law_7 ?_
  refine pe_dup d_Law_law_3 rfl ?_
  refine pe_sload_n d_Law_law_4 rfl ?_
  refine pe_iconst (v := nI 0) d_Law_law_5 (by decide) ?_
  refine pe_callS (fc := 425) (fs := 8415) (mc' := 0) (ms' := 0) d_Law_law_6 m_Law_9 s_Law_cell (c_Law_cell hL 0 (by decide)) rfl rfl (by simp [Value.category]) (by decide) ?_
  intro v1 h1 z1 hq1
  obtain ⟨rfl, rfl, rfl⟩ := hq1
  change pz_E _ _ _ _ _ _ _ _ _ (.int (cl xs L 0) :: _) _ _ _
  refine pe_sload_n d_Law_law_9 rfl ?_
  refine pe_iconst (v := nI 1) d_Law_law_10 (by decide) ?_
  refine pe_callS (fc := 425) (fs := 8415) (mc' := 0) (ms' := 0) d_Law_law_11 m_Law_9 s_Law_cell (c_Law_cell hL 1 (by decide)) rfl rfl (by simp [Value.category]) (by decide) ?_
  intro v1 h1 z1 hq1
  obtain ⟨rfl, rfl, rfl⟩ := hq1
  change pz_E _ _ _ _ _ _ _ _ _ (.int (cl xs L 1) :: _) _ _ _
  refine pe_less (fc' := 25 + 400) (fs' := 2415 + 6000) (by omega) (by omega) ?_
  refine pe_callI (fc := 25) (fs := 2415) (mc' := 400) (ms' := 6000) d_Law_law_14 m_Law_15 j_K_init rfl rfl (c_K_init (cl xs L 0) (cl xs L 1) (pu_eq _ _ _)) rfl rfl (by simp [Value.category]) (by decide) ?_
  intro v1 h1 z1 hq1
  obtain ⟨rfl, rfl, hK, hm, hd, ho, hr, hz, -⟩ := hq1
  change pz_E _ _ _ _ _ _ _ _ _ [.ref 0] _ _ _
  refine pe_astore_n d_Law_law_17 (Nat.le_of_ble_eq_true rfl) rfl ?_
  dsimp only [List.set]
  refine pe_less (fc' := 24 + 1) (fs' := 2382 + 33) (by omega) (by omega) ?_
  refine pe_new d_Law_law_18 n_Law_18 ?_
  refine pe_pu (fun h2 e2 o2 => ?_)
  have hK := hK.on (fun c h1 h2 => o2 c (by omega)) (fun c h1 h2 => o2 c (by omega))
  have hm := hm.on (fun c h1 h2 => o2 c (by omega))
  have hd := hd.on (fun c h1 h2 => o2 c (by omega))
  have ho := ho.on (fun c h1 h2 => o2 c (by omega))
  have hr := hr.on (fun c h1 h2 => o2 c (by omega))
  have hz := fun i (hi : i < 6) => (hz i hi).on (fun c h1 h2 => o2 c (by omega))
  refine pe_dup d_Law_law_21 rfl ?_
  refine pe_sload_n d_Law_law_22 rfl ?_
  refine pe_iconst (v := nI 0) d_Law_law_23 (by decide) ?_
  refine pe_callS (fc := 24) (fs := 2382) (mc' := 0) (ms' := 0) d_Law_law_24 m_Law_9 s_Law_cell (c_Law_cell hL 0 (by decide)) rfl rfl (by simp [Value.category]) (by decide) ?_
  intro v1 h1 z1 hq1
  obtain ⟨rfl, rfl, rfl⟩ := hq1
  change pz_E _ _ _ _ _ _ _ _ _ (.int (cl xs L 0) :: _) _ _ _
  refine pe_sload_n d_Law_law_27 rfl ?_
  refine pe_iconst (v := nI 1) d_Law_law_28 (by decide) ?_
  refine pe_callS (fc := 24) (fs := 2382) (mc' := 0) (ms' := 0) d_Law_law_29 m_Law_9 s_Law_cell (c_Law_cell hL 1 (by decide)) rfl rfl (by simp [Value.category]) (by decide) ?_
  intro v1 h1 z1 hq1
  obtain ⟨rfl, rfl, rfl⟩ := hq1
  change pz_E _ _ _ _ _ _ _ _ _ (.int (cl xs L 1) :: _) _ _ _
  refine pe_less (fc' := 0 + 24) (fs' := 0 + 2382) (by omega) (by omega) ?_
  refine pe_callI (fc := 0) (fs := 0) (mc' := 24) (ms' := 2382) d_Law_law_32 m_Law_20 j_Mo_init rfl rfl (c_Mo_init (cl xs L 0) (cl xs L 1) e2) rfl rfl (by simp [Value.category]) (by decide) ?_
  intro v1 h1 z1 hq1
  obtain ⟨rfl, rfl, hMo, hOp, hIm, hFi, hLi, hOw, hTk, hDl, hRt, hWd, hGo, hGm, hLn, hCd, hSt, hFm, hFs, hFl, hFb, hHo, hWo, hDa, hEn, hKe, hVa, hf⟩ := hq1
  have hK := hK.on (hf.on (by omega)) (hf.on (by omega))
  have hm := hm.on (hf.on (by omega))
  have hd := hd.on (hf.on (by omega))
  have ho := ho.on (hf.on (by omega))
  have hr := hr.on (hf.on (by omega))
  have hz := fun i (hi : i < 6) => (hz i hi).on (hf.on (by omega))
  change pz_E _ _ _ _ _ _ _ _ _ [.ref 166] _ _ _
  refine pe_astore_n d_Law_law_35 (Nat.le_of_ble_eq_true rfl) rfl ?_
  refine pe_iconst (v := nI 2) d_Law_law_36 (by decide) ?_
  refine pe_istore_n d_Law_law_37 (Nat.le_of_ble_eq_true rfl) rfl ?_
  dsimp only [List.set]
  exact lw_loop hL hQ (L + 1) 0 h1 (by omega) (by omega) (st_0 hK hm hd ho hr hz hMo hOp hIm hFi hLi hOw hTk hDl hRt hWd hGo hGm hLn hCd hSt hFm hFs hFl hFb hHo hWo hDa hEn hKe hVa)
