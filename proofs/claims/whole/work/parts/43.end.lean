/-! the law's entry; the claim -/
/-! THE CLAIM OUT OF ONE WALK OF THE LAW'S BODY. Your part is whole_start (and what it stands on); all else here is the same for every law, but numbers. -/
def R_law : String := "BindingKernelLaw"
def lw_P (b : Addr) (xs : List Int32) (args : Array Value) (s : State) : Prop := args = #[.ref b] ∧ s.IntsAt b xs ∧ xs.length ≤ 3074 ∧ (Jvm.Cond.and given_1 narrow_1).before args s = true
def lw_Q (_ : Array Value) (s : State) (o : Outcome) (t : State) : Prop := o = .returned (some (.int 1)) ∧ Framed s o t [] 600000 7302250
def lw_Z (below : List Frame) (a : Array Value) (s : State) : State → Prop := fun t => ∃ o, t.status = .running ∧ Ended t below o ∧ lw_Q a s o t
/-- the law's own end, with 1 on the stack, nothing written that was there before, its room as the claim has it -/
theorem lw_ret {p : Program} {l : Launch} {e : Env} {s : State} {m : MethodId} {below : List Frame} {meth : Method} {c : Code} {b : Nat} (hx : p.tables.exec = Jvm.exec) (hb : c.code = code) (hr : meth.sig.returnType = ret) (hlocks : meth.locks = false) {pc : Nat} {H : Heap} {ls : Array Slot} (hdg : decode code pc = .ok (.ireturn, 1)) : W p l e room_1 s m #[Value.ref b] below meth c H [] 600000 7302250 (lw_Z below #[Value.ref b] s) (F0 m pc ls [.int 1]) := by
  intro T hT X
  obtain ⟨fs, hret, hrun, hended, hW, hframe⟩ := X.leave (v := some (.int 1)) (hlocks := hlocks) (fun h => by rw [hr] at h; cases h)
  have hmeth' : T.vm.method? m = some meth := X.method'
  refine ⟨T.setFrames fs, ?_, .returned (some (.int 1)), hrun, hended, rfl, ⟨_, rfl⟩, hW, hframe⟩
  jvm_step X.here [X.here.top, hx, hb, hdg, hmeth', hr, ret, narrow_b1]
  (try refine ⟨rfl, ?_⟩); (try refine ⟨rfl, ?_⟩)
  first | (intro acts; rw [hret _ acts rfl rfl rfl]) | rw [hret _ _ rfl rfl rfl]
  exact Steps.refl _
/-- what holds at the law's entry: the machine, the code, the tables' words (any of lw_tbl by 'hts w (by decide +kernel)'), the script of L ints xs at the cell b, what the Statement gives of the start (any of its parts by flat_of_before) -/
def lw_At (p : Program) (s : State) (m : MethodId) (meth : Method) (c : Code) (b L : Nat) (xs : Nat → Int32) : Prop :=
  p.tables.exec = Jvm.exec ∧ c.code = code ∧ meth.sig.returnType = ret ∧ c.maxLocals = 4 ∧ s.vm.findClass R_law = some m.cls ∧ (∀ w ∈ lw_tbl, w.before #[Value.ref b] s = true) ∧ va_X b L xs s s.heap ∧ b < s.heap.size ∧ meth.locks = false ∧ (Jvm.Cond.and given_1 narrow_1).before #[Value.ref b] s = true
theorem lw_in (i : Nat) {w : Cond} (h : tables_1[i]? = some w) : w ∈ lw_tbl := List.mem_append_right _ (List.mem_of_getElem? h)
theorem nw_in : ∀ w ∈ px_nw, w ∈ lw_tbl ∧ pz_nest w = true ∧ w.onTables = true := by
  unfold px_nw
  exact List.forall_mem_cons.mpr ⟨⟨lw_in 38 (by decide +kernel), rfl, rfl⟩, List.forall_mem_cons.mpr ⟨⟨lw_in 92 (by decide +kernel), rfl, rfl⟩, List.forall_mem_cons.mpr ⟨⟨lw_in 106 (by decide +kernel), rfl, rfl⟩, List.forall_mem_cons.mpr ⟨⟨lw_in 107 (by decide +kernel), rfl, rfl⟩, List.forall_mem_cons.mpr ⟨⟨lw_in 148 (by decide +kernel), rfl, rfl⟩, List.forall_mem_cons.mpr ⟨⟨lw_in 164 (by decide +kernel), rfl, rfl⟩, List.forall_mem_cons.mpr ⟨⟨lw_in 181 (by decide +kernel), rfl, rfl⟩, List.forall_mem_cons.mpr ⟨⟨lw_in 194 (by decide +kernel), rfl, rfl⟩, List.forall_mem_cons.mpr ⟨⟨lw_in 196 (by decide +kernel), rfl, rfl⟩, List.forall_mem_cons.mpr ⟨⟨lw_in 198 (by decide +kernel), rfl, rfl⟩, List.forall_mem_cons.mpr ⟨⟨lw_in 200 (by decide +kernel), rfl, rfl⟩, List.forall_mem_cons.mpr ⟨⟨lw_in 202 (by decide +kernel), rfl, rfl⟩, List.forall_mem_cons.mpr ⟨⟨lw_in 204 (by decide +kernel), rfl, rfl⟩, List.forall_mem_cons.mpr ⟨⟨lw_in 206 (by decide +kernel), rfl, rfl⟩, List.forall_mem_cons.mpr ⟨⟨lw_in 208 (by decide +kernel), rfl, rfl⟩, List.forall_mem_cons.mpr ⟨⟨lw_in 210 (by decide +kernel), rfl, rfl⟩, List.forall_mem_cons.mpr ⟨⟨lw_in 434 (by decide +kernel), rfl, rfl⟩, (fun _ h9 => absurd h9 List.not_mem_nil)⟩⟩⟩⟩⟩⟩⟩⟩⟩⟩⟩⟩⟩⟩⟩⟩⟩
theorem ao_in : ∀ C ∈ px_ao, Cond.arrayOver (.object C) ∈ lw_tbl := by
  unfold px_ao
  exact List.forall_mem_cons.mpr ⟨lw_in 114 (by decide +kernel), List.forall_mem_cons.mpr ⟨lw_in 143 (by decide +kernel), (fun _ h9 => absurd h9 List.not_mem_nil)⟩⟩
theorem mk_kn {own : String} {idx ci N : Nat} {fs0 : List Value} {args : Array Value} {s : State} (hts : ∀ w ∈ px_tbl, w.before args s = true) (hm : pz_mk own idx ci N fs0) : ∃ (cC : ClassId) (iS : Nat → Nat), ∀ q : vw_C, px_cl[ci]? = some q → u_Kn s q.1 q.2.1 q.2.2 cC iS := by
  obtain ⟨C, T, ty, h1, h2, h3, h4, h5, h6, -⟩ := hm
  obtain ⟨cC, iS, hk⟩ := u_known (T := T) (N := N) hts h2 (hts _ h5)
  refine ⟨cC, iS, fun q hq => ?_⟩
  rw [h1] at hq
  cases hq
  exact hk
theorem px_kn {args : Array Value} {s : State} (hts : ∀ w ∈ px_tbl, w.before args s = true) : ∀ ci : Nat, ∃ (cC : ClassId) (iS : Nat → Nat), ∀ q : vw_C, px_cl[ci]? = some q → u_Kn s q.1 q.2.1 q.2.2 cC iS := fun ci => match ci with
  | 0 => mk_kn hts n_Law_7
  | 1 => mk_kn hts n_K_7
  | 2 => mk_kn hts n_K_22
  | 3 => mk_kn hts n_K_29
  | 4 => mk_kn hts n_K_36
  | 5 => mk_kn hts n_K_47
  | 6 => mk_kn hts n_Application_7
  | 7 => mk_kn hts n_Application_16
  | 8 => mk_kn hts n_Application_23
  | 9 => mk_kn hts n_Application_30
  | 10 => mk_kn hts n_Law_18
  | k + 11 => ⟨0, fun _ => 0, fun q hq => by simp [px_cl] at hq⟩
theorem arr_c {args : Array Value} {s : State} {ty : FieldType} (hty : ∀ C, ty ≠ .object C) (h : (Cond.arrayClass ty).before args s = true) : ∃ cA : ClassId, ArrOfT s cA ty ∧ va_RA s cA ty := by
  obtain ⟨cA, kA, comp, hfind, hk, hkind⟩ := Cond.arrayClass_spec h
  refine ⟨cA, fun n z => ⟨fun k h => (by cases h), kA, hk, comp, hkind⟩, ?_⟩
  cases ty <;> first | exact hfind | exact absurd rfl (hty _)
theorem arr_o {args : Array Value} {s : State} {C : String} (h : (Cond.arrayOver (.object C)).before args s = true) : ∃ cA : ClassId, ArrOfT s cA (.object C) ∧ va_RA s cA (.object C) := by
  obtain ⟨comp, c, k, h1, h2, h3, h4, h5⟩ := Cond.arrayOver_spec h
  exact ⟨c, fun n z => ⟨fun k h => (by cases h), k, h3, comp, h4⟩, k, comp, h3, h4, h1, h5⟩
theorem px_kt {args : Array Value} {s : State} (hts : ∀ w ∈ px_tbl, w.before args s = true) (hao : ∀ C ∈ px_ao, (Cond.arrayOver (.object C)).before args s = true) : ∀ i : Nat, ∃ cA : ClassId, ∀ ty, px_ts[i]? = some ty → ArrOfT s cA ty ∧ va_RA s cA ty := fun i => match i with
  | 0 => by obtain ⟨cA, h⟩ := arr_c (ty := .int) (fun C e => by cases e) (hts _ ac_int); exact ⟨cA, fun ty (e : some FieldType.int = some ty) => by cases e; exact h⟩
  | 1 => by obtain ⟨cA, h⟩ := arr_c (ty := .boolean) (fun C e => by cases e) (hts _ ac_boolean); exact ⟨cA, fun ty (e : some FieldType.boolean = some ty) => by cases e; exact h⟩
  | 2 => by obtain ⟨cA, h⟩ := arr_o (hao "BindingKernel$Application" (by simp [px_ao])); exact ⟨cA, fun ty (e : some (FieldType.object "BindingKernel$Application") = some ty) => by cases e; exact h⟩
  | 3 => by obtain ⟨cA, h⟩ := arr_o (hao "BindingKernel$Frame" (by simp [px_ao])); exact ⟨cA, fun ty (e : some (FieldType.object "BindingKernel$Frame") = some ty) => by cases e; exact h⟩
  | k + 4 => ⟨0, fun ty e => by simp [px_ts] at e⟩
theorem px_K {args : Array Value} {s : State} (hts : ∀ w ∈ lw_tbl, w.before args s = true) : ∃ (D : va_G) (cA : Nat → ClassId), va_K D px_cl (pz_tys cA) s ∧ pz_N s := by
  have ht2 : ∀ w ∈ px_tbl, w.before args s = true := fun w hw => hts w (List.mem_filter.mp hw).1
  have h1 := px_kn ht2
  have h2 := px_kt ht2 (fun C hC => hts _ (ao_in C hC))
  refine ⟨(fun c => (h1 c).choose, fun c => (h1 c).choose_spec.choose), fun i => (h2 i).choose, ⟨fun c q hq => (h1 c).choose_spec.choose_spec q hq, fun k q hq => ?_⟩, fun w hw => ⟨(nw_in w hw).2.1, va_Nw.of (nw_in w hw).2.2 (hts w (nw_in w hw).1)⟩, fun C hC => va_AO.of (hts _ (ao_in C hC))⟩
  unfold pz_tys at hq
  rw [List.getElem?_map] at hq
  cases hk : (List.range px_ts.length)[k]? with
  | none => rw [hk] at hq; cases hq
  | some j =>
    rw [hk] at hq
    have hj := List.getElem?_eq_some_iff.mp hk
    obtain ⟨hl, hj⟩ := hj
    rw [List.getElem_range] at hj
    subst hj
    rw [List.length_range] at hl
    have hd9 : px_ts[k]? = some (px_ts.getD k .int) := by
      rw [List.getD_eq_getElem?_getD, List.getElem?_eq_getElem hl]
      rfl
    have hq : some ((h2 k).choose, px_ts.getD k .int) = some q := hq
    cases hq
    exact (h2 k).choose_spec _ hd9
set_option maxHeartbeats 4000000 in
set_option maxRecDepth 20000 in
/-- YOUR PART: from the entry, for every script of at most 3074 ints, the law comes to its end with true -/
theorem whole_start {p : Program} {e : Env} {s : State} {m : MethodId} {below : List Frame} {meth : Method} {c : Code} (l : Launch) {b L : Nat} {xs : Nat → Int32} (hL : L ≤ 3074) (C0 : lw_At p s m meth c b L xs) : W p l e room_1 s m #[Value.ref b] below meth c s.heap [] 0 0 (lw_Z below #[Value.ref b] s) (entryFrame m ([Value.ref b] : List Value).toArray 4) := by
  obtain ⟨hx, hb, hr, hml, hown, hts, hX, hbl, hlocks, hgv⟩ := id C0
  obtain ⟨D, cA, hK, hN⟩ := px_K hts
  have hts2 : ∀ w ∈ px_tbl, w.before #[Value.ref b] s = true := fun w hw => hts w (List.mem_filter.mp hw).1
  have hg := lw_go (l := l) (L := L) (xs := xs) (nm := meth.name) (Q := fun v _ _ => v = some (.int 1)) hL (fun _ => rfl)
  rw [lg_entry_eq]
  refine hg p e s m #[Value.ref b] below meth c room_1 s.heap [] 0 0 D s.heap.size b cA room_1.cells room_1.slots (lw_Z below #[Value.ref b] s) _ ⟨⟨hx, hb, hml, hown, hts2⟩, rfl, ⟨by decide, by decide, Nat.le_refl _, Nat.le_refl _⟩, ⟨hK, hN, hbl, Nat.le_refl _, hX⟩, ⟨(fun k q h => by simp [pz_w] at h), rfl, (fun k c (h : (none : Option pz_C) = some c) => by cases h), fun k hk => absurd hk (Nat.not_lt_zero k)⟩, va_S.rf, pz_entry s.heap.size b [.retAddr 0] maxLocals (Nat.le_of_ble_eq_true rfl), ⟨by decide, by decide⟩, fun v h' z' H' locs' cells' slots' pc' A' hr9 hq hP hS hc hs => ?_⟩
  cases hq
  refine va_forget (fun q hq => hS.2.2 q hq) ?_
  refine W.widen hc hs ?_
  exact lw_ret hx hb hr hlocks hr9.1
-- ===== YOUR PART ENDS =====
set_option maxHeartbeats 4000000 in
theorem lw_walk (l : Launch) (b : Addr) (xs : List Int32) : MetFree l x (headSpec (Jvm.Cond.code x code maxLocals ret :: tables_1) room_1) (lw_P b xs) (fun _ _ _ _ _ => True) lw_Q := by
  refine MetFree.of_bodyS (code := code) (maxLocals := maxLocals) (ret := ret) (by decide) ?_ ?_
  · intro args s m h hn
    obtain ⟨meth, c, h1, h2, h3, h4, h5, h6, -, -⟩ := Cond.code_spec hn (atoms_spec (ws := Jvm.Cond.code x code maxLocals ret :: tables_1) h _ List.mem_cons_self)
    exact ⟨meth, c, h1, h2, h3, h4, h5, h6⟩
  · intro p e s m args below meth c s₁ B hml0 hP _
    obtain ⟨rfl, hx, hbd, hgv⟩ := hP
    obtain ⟨scr, harrAt, hlist, hof, hsmall⟩ := hx
    obtain ⟨hcb, hkn, -, -⟩ := State.arrayAt?_spec harrAt
    have hown : s.vm.findClass R_law = some m.cls := findClass_of_methodNamed B.named
    have hts0 : ∀ c ∈ (Jvm.Cond.code x code maxLocals ret :: tables_1), c.before #[Value.ref b] s = true := atoms_spec (ws := Jvm.Cond.code x code maxLocals ret :: tables_1) B.pre
    have hts : ∀ w ∈ lw_tbl, w.before #[Value.ref b] s = true := k2_hts_sels lw_privs (fun w hw => hts0 w (List.mem_cons_of_mem _ hw)) lw_privs_ok
    have hml : c.maxLocals = 4 := B.maxLocals_eq (hts0 _ List.mem_cons_self)
    have X₀ : Stand p l e room_1 s m #[Value.ref b] below meth c s₁ [] 0 0 := Stand.of_body B
    have hh0 : s₁.heap = s.heap := by rw [B.state]; rfl
    have hsz : scr.slots.size = xs.length := by rw [← Array.length_toList, hlist, List.length_map]
    have hval : ∀ j : Nat, j < xs.length → scr.slots[j]? = some (.int (xs.getD j 0)) := fun j hj => by
      rw [← Array.getElem?_toList, hlist]
      simp [hj]
    have hbl : b < s.heap.size := (Array.getElem?_eq_some_iff.mp hcb).1
    have hX : va_X b xs.length (fun j => xs.getD j 0) s s.heap := ⟨scr, hcb, hof, hkn, hsz, hval⟩
    have K : W p l e room_1 s m #[Value.ref b] below meth c s₁.heap [] 0 0 (lw_Z below #[Value.ref b] s) (entryFrame m ([Value.ref b] : List Value).toArray 4) := by
      rw [hh0]
      exact whole_start l hbd ⟨B.exec, B.bytes, B.returns, hml, hown, hts, hX, hbl, B.notSynchronized, hgv⟩
    obtain ⟨t, a1, o, b1, b2, b3⟩ := K s₁ rfl X₀
    exact ⟨t, o, a1, b1, b2, b3⟩
theorem lw_pre_spec {args : Array Value} {s : State} (h : (Jvm.Cond.and given_1 narrow_1).before args s = true) (hr : rest_1_c.before args s = true) : ∃ (b : Addr) (xs : List Int32), lw_P b xs args s := by
  have hs := flat_of_before _ h
  have hq := flat_of_before _ hr
  have hc : (Cond.count 1).before args s = true := hs _ (by decide +kernel)
  have harr : (Cond.arrayOf (.arg 0) .int).before args s = true := hs _ (by decide +kernel)
  have hle : (Cond.le (.length (.arg 0)) (.int 3074)).before args s = true := hs _ (by decide +kernel)
  have hlen : (Cond.isInt (.length (.arg 0))).before args s = true := hq _ (by decide +kernel)
  have hall : (Cond.all (.arg 0) (.isInt (.elem (.arg 0) (.index 0)))).before args s = true := hq _ (by decide +kernel)
  obtain ⟨b, xs, hb, hx⟩ := State.ints_of_pre rfl harr hlen hall
  have hsm : xs.length < 2 ^ 31 := hx.choose_spec.2.2.2
  have hev : (Term.length (.arg 0)).eval args s none [] s = some (.int xs.length.toInt32) := hx.length_eval hb
  have hv := Cond.le_ints hev (show (Term.int 3074).eval args s none [] s = some (.int 3074) from rfl)
  have hd : xs.length.toInt32 ≤ 3074 := by
    simpa [Cond.before, Cond.holds, hv] using hle
  have hN : xs.length ≤ 3074 := (Int32.ofNat_le_ofNat hsm (by decide)).mp (show Int32.ofNat xs.length ≤ Int32.ofNat 3074 from hd)
  exact ⟨b, xs, Cond.one_arg hc (show args[0]? = some (.ref b) from hb), hx, hN, h⟩
theorem lw_comes (l : Launch) : Comes l x (Jvm.Cond.code x code maxLocals ret :: tables_1) room_1 (fun tb e args s => Calls_1 tb e args s ∧ rest_1 tb e args s ∧ Pre_1 tb e args s)
    (fun _ _ args s o t => lw_Q args s o t) := by
  intro p e ha hc hk s m args below hf hfit hheap happ hpre
  obtain ⟨b, xs, hP⟩ := lw_pre_spec hpre.2.2 hpre.2.1
  obtain ⟨k, o, h1, h2, h3, hQ⟩ := lw_walk l b xs p e ha hc hk s m args below hf ((Spec.applies_iff_loose hf).mp happ).1 hP trivial
  exact ⟨k, o, h1, h2, h3, hQ⟩
theorem lw_frame {s t : State} {o : Outcome} {args : Array Value} (h : Framed s o t [] 600000 7302250) :
    Framed s o t (fieldLocs frame_1_writes args s ++ arrayLocs frame_1_arrays args s ++ staticLocs frame_1_statics s) 600000 7302250 := h
theorem lw_limb (L : Cond) (hL : ∀ (args : Array Value) (s t : State), L.after args s (.returned (some (.int 1))) t = true) :
    ArmFor flags0 classFile x code maxLocals ret World_1 tables_1 room_1 Calls_1 rest_1 Pre_1
      (fun tb e a s o t => postC L tb e a s o t ∧ Framed s o t (fieldLocs frame_1_writes a s ++ arrayLocs frame_1_arrays a s ++ staticLocs frame_1_statics s) 600000 7302250) := by
  intro l _ _ _ p e ha hc hk s m args below hf hfit hheap happ hpre
  obtain ⟨k, o, h1, h2, h3, rfl, hF⟩ := lw_comes l p e ha hc hk s m args below hf hfit hheap happ hpre
  exact ⟨k, _, h1, h2, h3, hL args s _, lw_frame hF⟩
theorem i_vc : Claimed_1_1 ∧ Claimed_1_2 := ⟨lw_limb limb_1_1 (fun args s t => by simp [limb_1_1, Cond.after, Cond.holds, Cond.value]), lw_limb limb_1_2 (fun args s t => Cond.after_iff.mpr (by
  first | (rw [show limb_1_2 = Cond.eq .result (.int 1) from rfl, Cond.eq_ints (x := 1) (y := 1) rfl rfl]; simp; done) | (simp [limb_1_2, Cond.value, Term.eval]; done)))⟩
