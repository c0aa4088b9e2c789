section
-- ===== PART A: goes FIRST, ahead of the names: the tables' words, and 'selects' of the private methods out of them =====
/-- a private method of a class that the tables say can be made, by its rows of tables_1 -/
def lw_okq (q : MethodName × Nat) : Prop := (q.1.cls ≠ "java/lang/invoke/MethodHandle" ∧ q.1.cls ≠ "java/lang/invoke/VarHandle") ∧ Cond.instantiable q.1.cls q.2 ∈ tables_1 ∧ Cond.privateMethod q.1 ∈ tables_1 ∧ Cond.instanceMethod q.1 ∈ tables_1
theorem lw_p0 : lw_okq (⟨"BindingKernel", "isOpen", "(I)Z"⟩, 6) := ⟨⟨by decide +kernel, by decide +kernel⟩, List.mem_of_getElem? (i := 15) (by decide +kernel), List.mem_of_getElem? (i := 291) (by decide +kernel), List.mem_of_getElem? (i := 292) (by decide +kernel)⟩
theorem lw_p1 : lw_okq (⟨"BindingKernel", "owns", "(II)Z"⟩, 6) := ⟨⟨by decide +kernel, by decide +kernel⟩, List.mem_of_getElem? (i := 15) (by decide +kernel), List.mem_of_getElem? (i := 359) (by decide +kernel), List.mem_of_getElem? (i := 360) (by decide +kernel)⟩
theorem lw_p2 : lw_okq (⟨"BindingKernel", "mayUse", "(IIII)Z"⟩, 6) := ⟨⟨by decide +kernel, by decide +kernel⟩, List.mem_of_getElem? (i := 15) (by decide +kernel), List.mem_of_getElem? (i := 381) (by decide +kernel), List.mem_of_getElem? (i := 382) (by decide +kernel)⟩
theorem lw_p3 : lw_okq (⟨"BindingKernel", "firstAccepting", "()I"⟩, 6) := ⟨⟨by decide +kernel, by decide +kernel⟩, List.mem_of_getElem? (i := 15) (by decide +kernel), List.mem_of_getElem? (i := 481) (by decide +kernel), List.mem_of_getElem? (i := 482) (by decide +kernel)⟩
theorem lw_p4 : lw_okq (⟨"BindingKernel", "deliver", "(I)I"⟩, 6) := ⟨⟨by decide +kernel, by decide +kernel⟩, List.mem_of_getElem? (i := 15) (by decide +kernel), List.mem_of_getElem? (i := 507) (by decide +kernel), List.mem_of_getElem? (i := 508) (by decide +kernel)⟩
theorem lw_p5 : lw_okq (⟨"BindingKernel", "relink", "(IIII)I"⟩, 6) := ⟨⟨by decide +kernel, by decide +kernel⟩, List.mem_of_getElem? (i := 15) (by decide +kernel), List.mem_of_getElem? (i := 564) (by decide +kernel), List.mem_of_getElem? (i := 565) (by decide +kernel)⟩
theorem lw_p6 : lw_okq (⟨"BindingKernel$EntryTable", "blockOf", "(I)I"⟩, 2) := ⟨⟨by decide +kernel, by decide +kernel⟩, List.mem_of_getElem? (i := 157) (by decide +kernel), List.mem_of_getElem? (i := 592) (by decide +kernel), List.mem_of_getElem? (i := 593) (by decide +kernel)⟩
theorem lw_p7 : lw_okq (⟨"BindingKernel", "countOf", "(II)I"⟩, 6) := ⟨⟨by decide +kernel, by decide +kernel⟩, List.mem_of_getElem? (i := 15) (by decide +kernel), List.mem_of_getElem? (i := 656) (by decide +kernel), List.mem_of_getElem? (i := 657) (by decide +kernel)⟩
theorem lw_p8 : lw_okq (⟨"BindingKernelModel", "out", "(II)Z"⟩, 33) := ⟨⟨by decide +kernel, by decide +kernel⟩, List.mem_of_getElem? (i := 668) (by decide +kernel), List.mem_of_getElem? (i := 778) (by decide +kernel), List.mem_of_getElem? (i := 779) (by decide +kernel)⟩
theorem lw_p9 : lw_okq (⟨"BindingKernelModel", "freeBlock", "()I"⟩, 33) := ⟨⟨by decide +kernel, by decide +kernel⟩, List.mem_of_getElem? (i := 668) (by decide +kernel), List.mem_of_getElem? (i := 782) (by decide +kernel), List.mem_of_getElem? (i := 783) (by decide +kernel)⟩
theorem lw_p10 : lw_okq (⟨"BindingKernelModel", "renew", "(II)V"⟩, 33) := ⟨⟨by decide +kernel, by decide +kernel⟩, List.mem_of_getElem? (i := 668) (by decide +kernel), List.mem_of_getElem? (i := 786) (by decide +kernel), List.mem_of_getElem? (i := 787) (by decide +kernel)⟩
theorem lw_p11 : lw_okq (⟨"BindingKernelModel", "isLink", "(II)Z"⟩, 33) := ⟨⟨by decide +kernel, by decide +kernel⟩, List.mem_of_getElem? (i := 668) (by decide +kernel), List.mem_of_getElem? (i := 790) (by decide +kernel), List.mem_of_getElem? (i := 791) (by decide +kernel)⟩
theorem lw_p12 : lw_okq (⟨"BindingKernelModel", "shut", "(I)Z"⟩, 33) := ⟨⟨by decide +kernel, by decide +kernel⟩, List.mem_of_getElem? (i := 668) (by decide +kernel), List.mem_of_getElem? (i := 798) (by decide +kernel), List.mem_of_getElem? (i := 799) (by decide +kernel)⟩
theorem lw_p13 : lw_okq (⟨"BindingKernelModel", "free", "(I)V"⟩, 33) := ⟨⟨by decide +kernel, by decide +kernel⟩, List.mem_of_getElem? (i := 668) (by decide +kernel), List.mem_of_getElem? (i := 802) (by decide +kernel), List.mem_of_getElem? (i := 803) (by decide +kernel)⟩
theorem lw_p14 : lw_okq (⟨"BindingKernelModel", "withdraw", "(I)V"⟩, 33) := ⟨⟨by decide +kernel, by decide +kernel⟩, List.mem_of_getElem? (i := 668) (by decide +kernel), List.mem_of_getElem? (i := 806) (by decide +kernel), List.mem_of_getElem? (i := 807) (by decide +kernel)⟩
theorem lw_p15 : lw_okq (⟨"BindingKernelModel", "sound", "(I)Z"⟩, 33) := ⟨⟨by decide +kernel, by decide +kernel⟩, List.mem_of_getElem? (i := 668) (by decide +kernel), List.mem_of_getElem? (i := 847) (by decide +kernel), List.mem_of_getElem? (i := 848) (by decide +kernel)⟩
def lw_privs_1 : List (MethodName × Nat) := [(⟨"BindingKernel", "isOpen", "(I)Z"⟩, 6), (⟨"BindingKernel", "owns", "(II)Z"⟩, 6), (⟨"BindingKernel", "mayUse", "(IIII)Z"⟩, 6), (⟨"BindingKernel", "firstAccepting", "()I"⟩, 6), (⟨"BindingKernel", "deliver", "(I)I"⟩, 6), (⟨"BindingKernel", "relink", "(IIII)I"⟩, 6), (⟨"BindingKernel$EntryTable", "blockOf", "(I)I"⟩, 2), (⟨"BindingKernel", "countOf", "(II)I"⟩, 6), (⟨"BindingKernelModel", "out", "(II)Z"⟩, 33), (⟨"BindingKernelModel", "freeBlock", "()I"⟩, 33), (⟨"BindingKernelModel", "renew", "(II)V"⟩, 33), (⟨"BindingKernelModel", "isLink", "(II)Z"⟩, 33), (⟨"BindingKernelModel", "shut", "(I)Z"⟩, 33), (⟨"BindingKernelModel", "free", "(I)V"⟩, 33), (⟨"BindingKernelModel", "withdraw", "(I)V"⟩, 33), (⟨"BindingKernelModel", "sound", "(I)Z"⟩, 33)]
theorem lw_r1 : ∀ q ∈ lw_privs_1, lw_okq q := List.forall_mem_cons.mpr ⟨lw_p0, List.forall_mem_cons.mpr ⟨lw_p1, List.forall_mem_cons.mpr ⟨lw_p2, List.forall_mem_cons.mpr ⟨lw_p3, List.forall_mem_cons.mpr ⟨lw_p4, List.forall_mem_cons.mpr ⟨lw_p5, List.forall_mem_cons.mpr ⟨lw_p6, List.forall_mem_cons.mpr ⟨lw_p7, List.forall_mem_cons.mpr ⟨lw_p8, List.forall_mem_cons.mpr ⟨lw_p9, List.forall_mem_cons.mpr ⟨lw_p10, List.forall_mem_cons.mpr ⟨lw_p11, List.forall_mem_cons.mpr ⟨lw_p12, List.forall_mem_cons.mpr ⟨lw_p13, List.forall_mem_cons.mpr ⟨lw_p14, List.forall_mem_cons.mpr ⟨lw_p15, fun _ h => absurd h List.not_mem_nil⟩⟩⟩⟩⟩⟩⟩⟩⟩⟩⟩⟩⟩⟩⟩⟩
theorem lw_p16 : lw_okq (⟨"BindingKernelModel", "accepts", "(I)Z"⟩, 33) := ⟨⟨by decide +kernel, by decide +kernel⟩, List.mem_of_getElem? (i := 668) (by decide +kernel), List.mem_of_getElem? (i := 859) (by decide +kernel), List.mem_of_getElem? (i := 860) (by decide +kernel)⟩
theorem lw_p17 : lw_okq (⟨"BindingKernelModel", "plain", "(II)Z"⟩, 33) := ⟨⟨by decide +kernel, by decide +kernel⟩, List.mem_of_getElem? (i := 668) (by decide +kernel), List.mem_of_getElem? (i := 863) (by decide +kernel), List.mem_of_getElem? (i := 864) (by decide +kernel)⟩
theorem lw_p18 : lw_okq (⟨"BindingKernelModel", "hasLinks", "(II)Z"⟩, 33) := ⟨⟨by decide +kernel, by decide +kernel⟩, List.mem_of_getElem? (i := 668) (by decide +kernel), List.mem_of_getElem? (i := 879) (by decide +kernel), List.mem_of_getElem? (i := 880) (by decide +kernel)⟩
theorem lw_p19 : lw_okq (⟨"BindingKernelModel", "entryOf", "(II)I"⟩, 33) := ⟨⟨by decide +kernel, by decide +kernel⟩, List.mem_of_getElem? (i := 668) (by decide +kernel), List.mem_of_getElem? (i := 887) (by decide +kernel), List.mem_of_getElem? (i := 888) (by decide +kernel)⟩
theorem lw_p20 : lw_okq (⟨"BindingKernelModel", "pagesOf", "(IZ)I"⟩, 33) := ⟨⟨by decide +kernel, by decide +kernel⟩, List.mem_of_getElem? (i := 668) (by decide +kernel), List.mem_of_getElem? (i := 903) (by decide +kernel), List.mem_of_getElem? (i := 904) (by decide +kernel)⟩
theorem lw_p21 : lw_okq (⟨"BindingKernelModel", "blocksOf", "(I)I"⟩, 33) := ⟨⟨by decide +kernel, by decide +kernel⟩, List.mem_of_getElem? (i := 668) (by decide +kernel), List.mem_of_getElem? (i := 907) (by decide +kernel), List.mem_of_getElem? (i := 908) (by decide +kernel)⟩
def lw_privs_2 : List (MethodName × Nat) := [(⟨"BindingKernelModel", "accepts", "(I)Z"⟩, 33), (⟨"BindingKernelModel", "plain", "(II)Z"⟩, 33), (⟨"BindingKernelModel", "hasLinks", "(II)Z"⟩, 33), (⟨"BindingKernelModel", "entryOf", "(II)I"⟩, 33), (⟨"BindingKernelModel", "pagesOf", "(IZ)I"⟩, 33), (⟨"BindingKernelModel", "blocksOf", "(I)I"⟩, 33)]
theorem lw_r2 : ∀ q ∈ lw_privs_2, lw_okq q := List.forall_mem_cons.mpr ⟨lw_p16, List.forall_mem_cons.mpr ⟨lw_p17, List.forall_mem_cons.mpr ⟨lw_p18, List.forall_mem_cons.mpr ⟨lw_p19, List.forall_mem_cons.mpr ⟨lw_p20, List.forall_mem_cons.mpr ⟨lw_p21, fun _ h => absurd h List.not_mem_nil⟩⟩⟩⟩⟩⟩
def lw_privs : List (MethodName × Nat) := lw_privs_1 ++ (lw_privs_2)
def lw_tbl : List Cond := k2_sels lw_privs ++ tables_1
theorem lw_privs_ok : ∀ q ∈ lw_privs, lw_okq q := by
  show ∀ q ∈ lw_privs_1 ++ (lw_privs_2), lw_okq q
  exact List.forall_mem_append.mpr ⟨lw_r1, lw_r2⟩
end
section
abbrev pz_M : Type := MethodName × ByteArray × Nat × Option FieldType
/-! names: the words, the kinds of cells and of arrays, the methods -/
def px_tbl : List Cond := lw_tbl.filter goodWord
def px_lc : Nat := 32
theorem px_good : GoodIn px_tbl px_tbl := fun w h => ⟨h, good_of_word (List.mem_filter.mp h).2⟩
theorem px_in (i : Nat) {w : Cond} (h : tables_1[i]? = some w) (hg : goodWord w = true) : w ∈ px_tbl := List.mem_filter.mpr ⟨List.mem_append_right _ (List.mem_of_getElem? h), hg⟩
theorem px_inp (i : Nat) {w : Cond} (h : (k2_sels lw_privs)[i]? = some w) (hg : goodWord w = true) : w ∈ px_tbl := List.mem_filter.mpr ⟨List.mem_append_left _ (List.mem_of_getElem? h), hg⟩
def pT_0 : u_T := fun k => match k with
  | 0 => ("BindingKernel", "apps", "[LBindingKernel$Application;", true)
  | 1 => ("BindingKernel", "memory", "LBindingKernel$Memory;", true)
  | 2 => ("BindingKernel", "filterOrder", "LBindingKernel$FilterOrder;", true)
  | 3 => ("BindingKernel", "arriving", "LBindingKernel$Frame;", true)
  | 4 => ("BindingKernel", "disk", "LBindingKernel$Disk;", true)
  | _ => ("BindingKernel", "framesLost", "I", false)
def pY_0 : Nat → FieldType := fun k => match k with
  | 0 => .array (.object "BindingKernel$Application")
  | 1 => .object "BindingKernel$Memory"
  | 2 => .object "BindingKernel$FilterOrder"
  | 3 => .object "BindingKernel$Frame"
  | 4 => .object "BindingKernel$Disk"
  | _ => .int
theorem pN_0 : ∀ a, a < 6 → ∀ b, b < 6 → a ≠ b → (pT_0 a).2.1 ≠ (pT_0 b).2.1 := by decide +kernel
theorem pO_0 : ∀ k, k < 6 → parseFieldDescriptor (pT_0 k).2.2.1 = some (pY_0 k) := by decide +kernel
def pT_1 : u_T := fun k => match k with
  | 0 => ("BindingKernel$Memory", "size", "I", true)
  | 1 => ("BindingKernel$Memory", "words", "[I", true)
  | 2 => ("BindingKernel$Memory", "owners", "[I", true)
  | 3 => ("BindingKernel$Memory", "rights", "[I", true)
  | 4 => ("BindingKernel$Memory", "takings", "[I", true)
  | 5 => ("BindingKernel$Memory", "named", "[Z", true)
  | 6 => ("BindingKernel$Memory", "deadlines", "[I", true)
  | 7 => ("BindingKernel$Memory", "takingsSoFar", "I", false)
  | _ => ("BindingKernel$Memory", "clock", "I", false)
def pY_1 : Nat → FieldType := fun k => match k with
  | 0 => .int
  | 1 => .array .int
  | 2 => .array .int
  | 3 => .array .int
  | 4 => .array .int
  | 5 => .array .boolean
  | 6 => .array .int
  | 7 => .int
  | _ => .int
theorem pN_1 : ∀ a, a < 9 → ∀ b, b < 9 → a ≠ b → (pT_1 a).2.1 ≠ (pT_1 b).2.1 := by decide +kernel
theorem pO_1 : ∀ k, k < 9 → parseFieldDescriptor (pT_1 k).2.2.1 = some (pY_1 k) := by decide +kernel
def pT_2 : u_T := fun k => match k with
  | 0 => ("BindingKernel$Disk", "size", "I", true)
  | 1 => ("BindingKernel$Disk", "words", "[I", true)
  | _ => ("BindingKernel$Disk", "owners", "[I", true)
def pY_2 : Nat → FieldType := fun k => match k with
  | 0 => .int
  | 1 => .array .int
  | _ => .array .int
theorem pN_2 : ∀ a, a < 3 → ∀ b, b < 3 → a ≠ b → (pT_2 a).2.1 ≠ (pT_2 b).2.1 := by decide +kernel
theorem pO_2 : ∀ k, k < 3 → parseFieldDescriptor (pT_2 k).2.2.1 = some (pY_2 k) := by decide +kernel
def pT_3 : u_T := fun k => match k with
  | 0 => ("BindingKernel$FilterOrder", "appsInOrder", "[I", true)
  | _ => ("BindingKernel$FilterOrder", "length", "I", false)
def pY_3 : Nat → FieldType := fun k => match k with
  | 0 => .array .int
  | _ => .int
theorem pN_3 : ∀ a, a < 2 → ∀ b, b < 2 → a ≠ b → (pT_3 a).2.1 ≠ (pT_3 b).2.1 := by decide +kernel
theorem pO_3 : ∀ k, k < 2 → parseFieldDescriptor (pT_3 k).2.2.1 = some (pY_3 k) := by decide +kernel
def pT_4 : u_T := fun k => match k with
  | 0 => ("BindingKernel$Frame", "bytes", "[I", true)
  | _ => ("BindingKernel$Frame", "length", "I", false)
def pY_4 : Nat → FieldType := fun k => match k with
  | 0 => .array .int
  | _ => .int
theorem pN_4 : ∀ a, a < 2 → ∀ b, b < 2 → a ≠ b → (pT_4 a).2.1 ≠ (pT_4 b).2.1 := by decide +kernel
theorem pO_4 : ∀ k, k < 2 → parseFieldDescriptor (pT_4 k).2.2.1 = some (pY_4 k) := by decide +kernel
def pT_5 : u_T := fun k => match k with
  | 0 => ("BindingKernel$Application", "pagesTakenAway", "LBindingKernel$PageList;", true)
  | 1 => ("BindingKernel$Application", "frames", "LBindingKernel$FrameQueue;", true)
  | 2 => ("BindingKernel$Application", "table", "LBindingKernel$EntryTable;", true)
  | 3 => ("BindingKernel$Application", "draft", "LBindingKernel$Program;", false)
  | 4 => ("BindingKernel$Application", "filter", "LBindingKernel$Program;", false)
  | 5 => ("BindingKernel$Application", "isOpen", "Z", false)
  | 6 => ("BindingKernel$Application", "isMap", "Z", false)
  | 7 => ("BindingKernel$Application", "firstLink", "I", false)
  | _ => ("BindingKernel$Application", "links", "I", false)
def pY_5 : Nat → FieldType := fun k => match k with
  | 0 => .object "BindingKernel$PageList"
  | 1 => .object "BindingKernel$FrameQueue"
  | 2 => .object "BindingKernel$EntryTable"
  | 3 => .object "BindingKernel$Program"
  | 4 => .object "BindingKernel$Program"
  | 5 => .boolean
  | 6 => .boolean
  | 7 => .int
  | _ => .int
theorem pN_5 : ∀ a, a < 9 → ∀ b, b < 9 → a ≠ b → (pT_5 a).2.1 ≠ (pT_5 b).2.1 := by decide +kernel
theorem pO_5 : ∀ k, k < 9 → parseFieldDescriptor (pT_5 k).2.2.1 = some (pY_5 k) := by decide +kernel
def pT_6 : u_T := fun k => match k with
  | 0 => ("BindingKernel$PageList", "pages", "[I", true)
  | 1 => ("BindingKernel$PageList", "length", "I", false)
  | _ => ("BindingKernel$PageList", "end", "I", false)
def pY_6 : Nat → FieldType := fun k => match k with
  | 0 => .array .int
  | 1 => .int
  | _ => .int
theorem pN_6 : ∀ a, a < 3 → ∀ b, b < 3 → a ≠ b → (pT_6 a).2.1 ≠ (pT_6 b).2.1 := by decide +kernel
theorem pO_6 : ∀ k, k < 3 → parseFieldDescriptor (pT_6 k).2.2.1 = some (pY_6 k) := by decide +kernel
def pT_7 : u_T := fun k => match k with
  | 0 => ("BindingKernel$FrameQueue", "frames", "[LBindingKernel$Frame;", true)
  | 1 => ("BindingKernel$FrameQueue", "first", "I", false)
  | _ => ("BindingKernel$FrameQueue", "length", "I", false)
def pY_7 : Nat → FieldType := fun k => match k with
  | 0 => .array (.object "BindingKernel$Frame")
  | 1 => .int
  | _ => .int
theorem pN_7 : ∀ a, a < 3 → ∀ b, b < 3 → a ≠ b → (pT_7 a).2.1 ≠ (pT_7 b).2.1 := by decide +kernel
theorem pO_7 : ∀ k, k < 3 → parseFieldDescriptor (pT_7 k).2.2.1 = some (pY_7 k) := by decide +kernel
def pT_8 : u_T := fun k => match k with
  | 0 => ("BindingKernel$EntryTable", "dataBlocks", "[I", true)
  | _ => ("BindingKernel$EntryTable", "length", "I", false)
def pY_8 : Nat → FieldType := fun k => match k with
  | 0 => .array .int
  | _ => .int
theorem pN_8 : ∀ a, a < 2 → ∀ b, b < 2 → a ≠ b → (pT_8 a).2.1 ≠ (pT_8 b).2.1 := by decide +kernel
theorem pO_8 : ∀ k, k < 2 → parseFieldDescriptor (pT_8 k).2.2.1 = some (pY_8 k) := by decide +kernel
def pT_9 : u_T := fun k => match k with
  | 0 => ("BindingKernel$Program", "codes", "[I", true)
  | 1 => ("BindingKernel$Program", "operands", "[I", true)
  | 2 => ("BindingKernel$Program", "yeses", "[I", true)
  | 3 => ("BindingKernel$Program", "noes", "[I", true)
  | _ => ("BindingKernel$Program", "length", "I", false)
def pY_9 : Nat → FieldType := fun k => match k with
  | 0 => .array .int
  | 1 => .array .int
  | 2 => .array .int
  | 3 => .array .int
  | _ => .int
theorem pN_9 : ∀ a, a < 5 → ∀ b, b < 5 → a ≠ b → (pT_9 a).2.1 ≠ (pT_9 b).2.1 := by decide +kernel
theorem pO_9 : ∀ k, k < 5 → parseFieldDescriptor (pT_9 k).2.2.1 = some (pY_9 k) := by decide +kernel
def pT_10 : u_T := fun k => match k with
  | 0 => ("BindingKernelModel", "pages", "I", true)
  | 1 => ("BindingKernelModel", "blocks", "I", true)
  | 2 => ("BindingKernelModel", "open", "[Z", true)
  | 3 => ("BindingKernelModel", "isMap", "[Z", true)
  | 4 => ("BindingKernelModel", "first", "[I", true)
  | 5 => ("BindingKernelModel", "links", "[I", true)
  | 6 => ("BindingKernelModel", "now", "I", false)
  | 7 => ("BindingKernelModel", "taking", "I", false)
  | 8 => ("BindingKernelModel", "lost", "I", false)
  | 9 => ("BindingKernelModel", "owner", "[I", true)
  | 10 => ("BindingKernelModel", "took", "[I", true)
  | 11 => ("BindingKernelModel", "deadline", "[I", true)
  | 12 => ("BindingKernelModel", "right", "[I", true)
  | 13 => ("BindingKernelModel", "words", "[I", true)
  | 14 => ("BindingKernelModel", "gone", "[I", true)
  | 15 => ("BindingKernelModel", "goneMany", "[I", true)
  | 16 => ("BindingKernelModel", "length", "[I", true)
  | 17 => ("BindingKernelModel", "code", "[I", true)
  | 18 => ("BindingKernelModel", "standing", "[I", true)
  | 19 => ("BindingKernelModel", "filters", "I", false)
  | 20 => ("BindingKernelModel", "bytes", "I", false)
  | 21 => ("BindingKernelModel", "frame", "[I", true)
  | 22 => ("BindingKernelModel", "frames", "[I", true)
  | 23 => ("BindingKernelModel", "frameLength", "[I", true)
  | 24 => ("BindingKernelModel", "frameByte", "[I", true)
  | 25 => ("BindingKernelModel", "a", "I", false)
  | 26 => ("BindingKernelModel", "x", "I", false)
  | 27 => ("BindingKernelModel", "holds", "[I", true)
  | 28 => ("BindingKernelModel", "word", "[I", true)
  | 29 => ("BindingKernelModel", "data", "[I", true)
  | 30 => ("BindingKernelModel", "entries", "[I", true)
  | 31 => ("BindingKernelModel", "keys", "[I", true)
  | _ => ("BindingKernelModel", "values", "[I", true)
def pY_10 : Nat → FieldType := fun k => match k with
  | 0 => .int
  | 1 => .int
  | 2 => .array .boolean
  | 3 => .array .boolean
  | 4 => .array .int
  | 5 => .array .int
  | 6 => .int
  | 7 => .int
  | 8 => .int
  | 9 => .array .int
  | 10 => .array .int
  | 11 => .array .int
  | 12 => .array .int
  | 13 => .array .int
  | 14 => .array .int
  | 15 => .array .int
  | 16 => .array .int
  | 17 => .array .int
  | 18 => .array .int
  | 19 => .int
  | 20 => .int
  | 21 => .array .int
  | 22 => .array .int
  | 23 => .array .int
  | 24 => .array .int
  | 25 => .int
  | 26 => .int
  | 27 => .array .int
  | 28 => .array .int
  | 29 => .array .int
  | 30 => .array .int
  | 31 => .array .int
  | _ => .array .int
theorem pN_10 : ∀ a, a < 33 → ∀ b, b < 33 → a ≠ b → (pT_10 a).2.1 ≠ (pT_10 b).2.1 := by decide +kernel
theorem pO_10 : ∀ k, k < 33 → parseFieldDescriptor (pT_10 k).2.2.1 = some (pY_10 k) := by decide +kernel
def px_cl : List vw_C := [("BindingKernel", pT_0, 6), ("BindingKernel$Memory", pT_1, 9), ("BindingKernel$Disk", pT_2, 3), ("BindingKernel$FilterOrder", pT_3, 2), ("BindingKernel$Frame", pT_4, 2), ("BindingKernel$Application", pT_5, 9), ("BindingKernel$PageList", pT_6, 3), ("BindingKernel$FrameQueue", pT_7, 3), ("BindingKernel$EntryTable", pT_8, 2), ("BindingKernel$Program", pT_9, 5), ("BindingKernelModel", pT_10, 33)]
def px_ts : List FieldType := [.int, .boolean, .object "BindingKernel$Application", .object "BindingKernel$Frame"]
def px_ao : List String := ["BindingKernel$Application", "BindingKernel$Frame"]
def px_nw : List Cond := [.fieldLinkNest "BindingKernel" 138 "BindingKernel$Memory" "size" "I" "BindingKernel", .fieldLinkNest "BindingKernel" 296 "BindingKernel$FilterOrder" "length" "I" "BindingKernel", .fieldLinkNest "BindingKernel$Program" 52 "BindingKernel$Frame" "length" "I" "BindingKernel", .fieldLinkNest "BindingKernel" 186 "BindingKernel$Frame" "length" "I" "BindingKernel", .fieldLinkNest "BindingKernel" 198 "BindingKernel$FrameQueue" "length" "I" "BindingKernel", .fieldLinkNest "BindingKernel" 286 "BindingKernel$EntryTable" "length" "I" "BindingKernel", .fieldLinkNest "BindingKernel" 171 "BindingKernel$Program" "length" "I" "BindingKernel", .fieldLinkNest "BindingKernel" 147 "BindingKernel$Application" "pagesTakenAway" "LBindingKernel$PageList;" "BindingKernel", .fieldLinkNest "BindingKernel" 194 "BindingKernel$Application" "frames" "LBindingKernel$FrameQueue;" "BindingKernel", .fieldLinkNest "BindingKernel" 230 "BindingKernel$Application" "table" "LBindingKernel$EntryTable;" "BindingKernel", .fieldLinkNest "BindingKernel" 161 "BindingKernel$Application" "draft" "LBindingKernel$Program;" "BindingKernel", .fieldLinkNest "BindingKernel" 300 "BindingKernel$Application" "filter" "LBindingKernel$Program;" "BindingKernel", .fieldLinkNest "BindingKernel" 62 "BindingKernel$Application" "isOpen" "Z" "BindingKernel", .fieldLinkNest "BindingKernel" 218 "BindingKernel$Application" "isMap" "Z" "BindingKernel", .fieldLinkNest "BindingKernel" 74 "BindingKernel$Application" "firstLink" "I" "BindingKernel", .fieldLinkNest "BindingKernel" 77 "BindingKernel$Application" "links" "I" "BindingKernel", .methodLinkNest "BindingKernel$Program" 26 ⟨"BindingKernel", "isIn", "(III)Z"⟩ "BindingKernel"]
theorem pI_0 : ∀ w ∈ u_ws "BindingKernel" pT_0 6, w ∈ px_tbl := fun w h => by
  have h1 : u_ws "BindingKernel" pT_0 6 = [236, 238, 240, 242, 244, 246].filterMap (fun i => tables_1[i]?) := by decide +kernel
  have h2 : (u_ws "BindingKernel" pT_0 6).all goodWord = true := by decide +kernel
  have h3 := List.all_eq_true.mp h2 w h
  rw [h1] at h
  obtain ⟨i, -, hi⟩ := List.mem_filterMap.mp h
  exact px_in i hi h3
theorem pI_1 : ∀ w ∈ u_ws "BindingKernel$Memory" pT_1 9, w ∈ px_tbl := fun w h => by
  have h1 : u_ws "BindingKernel$Memory" pT_1 9 = [47, 49, 51, 53, 55, 57, 59, 61, 63].filterMap (fun i => tables_1[i]?) := by decide +kernel
  have h2 : (u_ws "BindingKernel$Memory" pT_1 9).all goodWord = true := by decide +kernel
  have h3 := List.all_eq_true.mp h2 w h
  rw [h1] at h
  obtain ⟨i, -, hi⟩ := List.mem_filterMap.mp h
  exact px_in i hi h3
theorem pI_2 : ∀ w ∈ u_ws "BindingKernel$Disk" pT_2 3, w ∈ px_tbl := fun w h => by
  have h1 : u_ws "BindingKernel$Disk" pT_2 3 = [77, 79, 81].filterMap (fun i => tables_1[i]?) := by decide +kernel
  have h2 : (u_ws "BindingKernel$Disk" pT_2 3).all goodWord = true := by decide +kernel
  have h3 := List.all_eq_true.mp h2 w h
  rw [h1] at h
  obtain ⟨i, -, hi⟩ := List.mem_filterMap.mp h
  exact px_in i hi h3
theorem pI_3 : ∀ w ∈ u_ws "BindingKernel$FilterOrder" pT_3 2, w ∈ px_tbl := fun w h => by
  have h1 : u_ws "BindingKernel$FilterOrder" pT_3 2 = [93, 95].filterMap (fun i => tables_1[i]?) := by decide +kernel
  have h2 : (u_ws "BindingKernel$FilterOrder" pT_3 2).all goodWord = true := by decide +kernel
  have h3 := List.all_eq_true.mp h2 w h
  rw [h1] at h
  obtain ⟨i, -, hi⟩ := List.mem_filterMap.mp h
  exact px_in i hi h3
theorem pI_4 : ∀ w ∈ u_ws "BindingKernel$Frame" pT_4 2, w ∈ px_tbl := fun w h => by
  have h1 : u_ws "BindingKernel$Frame" pT_4 2 = [108, 110].filterMap (fun i => tables_1[i]?) := by decide +kernel
  have h2 : (u_ws "BindingKernel$Frame" pT_4 2).all goodWord = true := by decide +kernel
  have h3 := List.all_eq_true.mp h2 w h
  rw [h1] at h
  obtain ⟨i, -, hi⟩ := List.mem_filterMap.mp h
  exact px_in i hi h3
theorem pI_5 : ∀ w ∈ u_ws "BindingKernel$Application" pT_5 9, w ∈ px_tbl := fun w h => by
  have h1 : u_ws "BindingKernel$Application" pT_5 9 = [211, 213, 215, 217, 219, 221, 223, 225, 227].filterMap (fun i => tables_1[i]?) := by decide +kernel
  have h2 : (u_ws "BindingKernel$Application" pT_5 9).all goodWord = true := by decide +kernel
  have h3 := List.all_eq_true.mp h2 w h
  rw [h1] at h
  obtain ⟨i, -, hi⟩ := List.mem_filterMap.mp h
  exact px_in i hi h3
theorem pI_6 : ∀ w ∈ u_ws "BindingKernel$PageList" pT_6 3, w ∈ px_tbl := fun w h => by
  have h1 : u_ws "BindingKernel$PageList" pT_6 3 = [129, 131, 133].filterMap (fun i => tables_1[i]?) := by decide +kernel
  have h2 : (u_ws "BindingKernel$PageList" pT_6 3).all goodWord = true := by decide +kernel
  have h3 := List.all_eq_true.mp h2 w h
  rw [h1] at h
  obtain ⟨i, -, hi⟩ := List.mem_filterMap.mp h
  exact px_in i hi h3
theorem pI_7 : ∀ w ∈ u_ws "BindingKernel$FrameQueue" pT_7 3, w ∈ px_tbl := fun w h => by
  have h1 : u_ws "BindingKernel$FrameQueue" pT_7 3 = [149, 151, 153].filterMap (fun i => tables_1[i]?) := by decide +kernel
  have h2 : (u_ws "BindingKernel$FrameQueue" pT_7 3).all goodWord = true := by decide +kernel
  have h3 := List.all_eq_true.mp h2 w h
  rw [h1] at h
  obtain ⟨i, -, hi⟩ := List.mem_filterMap.mp h
  exact px_in i hi h3
theorem pI_8 : ∀ w ∈ u_ws "BindingKernel$EntryTable" pT_8 2, w ∈ px_tbl := fun w h => by
  have h1 : u_ws "BindingKernel$EntryTable" pT_8 2 = [165, 167].filterMap (fun i => tables_1[i]?) := by decide +kernel
  have h2 : (u_ws "BindingKernel$EntryTable" pT_8 2).all goodWord = true := by decide +kernel
  have h3 := List.all_eq_true.mp h2 w h
  rw [h1] at h
  obtain ⟨i, -, hi⟩ := List.mem_filterMap.mp h
  exact px_in i hi h3
theorem pI_9 : ∀ w ∈ u_ws "BindingKernel$Program" pT_9 5, w ∈ px_tbl := fun w h => by
  have h1 : u_ws "BindingKernel$Program" pT_9 5 = [182, 184, 186, 188, 190].filterMap (fun i => tables_1[i]?) := by decide +kernel
  have h2 : (u_ws "BindingKernel$Program" pT_9 5).all goodWord = true := by decide +kernel
  have h3 := List.all_eq_true.mp h2 w h
  rw [h1] at h
  obtain ⟨i, -, hi⟩ := List.mem_filterMap.mp h
  exact px_in i hi h3
theorem pI_10 : ∀ w ∈ u_ws "BindingKernelModel" pT_10 33, w ∈ px_tbl := fun w h => by
  have h1 : u_ws "BindingKernelModel" pT_10 33 = [706, 708, 710, 712, 714, 716, 718, 720, 722, 724, 726, 728, 730, 732, 734, 736, 738, 740, 742, 744, 746, 748, 750, 752, 754, 756, 758, 760, 762, 764, 766, 768, 770].filterMap (fun i => tables_1[i]?) := by decide +kernel
  have h2 : (u_ws "BindingKernelModel" pT_10 33).all goodWord = true := by decide +kernel
  have h3 := List.all_eq_true.mp h2 w h
  rw [h1] at h
  obtain ⟨i, -, hi⟩ := List.mem_filterMap.mp h
  exact px_in i hi h3
abbrev M_K_init : pz_M := (⟨"BindingKernel", "<init>", "(II)V"⟩, prog_1_method_1_code, 4, none)
abbrev M_K_clampSize : pz_M := (⟨"BindingKernel", "clampSize", "(I)I"⟩, prog_1_method_23_code, 1, some .int)
abbrev M_Math_min : pz_M := (⟨"java/lang/Math", "min", "(II)I"⟩, prog_13_method_69_code, 2, some .int)
abbrev M_Math_max : pz_M := (⟨"java/lang/Math", "max", "(II)I"⟩, prog_13_method_65_code, 2, some .int)
abbrev M_Memory_init : pz_M := (⟨"BindingKernel$Memory", "<init>", "(I)V"⟩, prog_8_method_1_code, 3, none)
abbrev M_Disk_init : pz_M := (⟨"BindingKernel$Disk", "<init>", "(I)V"⟩, prog_3_method_1_code, 3, none)
abbrev M_FilterOrder_init : pz_M := (⟨"BindingKernel$FilterOrder", "<init>", "()V"⟩, prog_5_method_1_code, 1, none)
abbrev M_Frame_init : pz_M := (⟨"BindingKernel$Frame", "<init>", "()V"⟩, prog_6_method_1_code, 1, none)
abbrev M_Application_init : pz_M := (⟨"BindingKernel$Application", "<init>", "()V"⟩, prog_2_method_1_code, 1, none)
abbrev M_PageList_init : pz_M := (⟨"BindingKernel$PageList", "<init>", "()V"⟩, prog_9_method_1_code, 1, none)
abbrev M_FrameQueue_init : pz_M := (⟨"BindingKernel$FrameQueue", "<init>", "()V"⟩, prog_7_method_1_code, 2, none)
abbrev M_EntryTable_init : pz_M := (⟨"BindingKernel$EntryTable", "<init>", "()V"⟩, prog_4_method_1_code, 1, none)
abbrev M_Program_init : pz_M := (⟨"BindingKernel$Program", "<init>", "()V"⟩, prog_10_method_1_code, 1, none)
abbrev M_K_open : pz_M := (⟨"BindingKernel", "open", "(IZII)I"⟩, prog_1_method_2_code, 6, some .int)
abbrev M_K_isApp : pz_M := (⟨"BindingKernel", "isApp", "(I)Z"⟩, prog_1_method_25_code, 1, some .boolean)
abbrev M_K_isIn : pz_M := (⟨"BindingKernel", "isIn", "(III)Z"⟩, prog_1_method_24_code, 3, some .boolean)
abbrev M_K_isLayout : pz_M := (⟨"BindingKernel", "isLayout", "(II)Z"⟩, prog_1_method_26_code, 2, some .boolean)
abbrev M_Disk_leastFree : pz_M := (⟨"BindingKernel$Disk", "leastFree", "()I"⟩, prog_3_method_5_code, 2, some .int)
abbrev M_Disk_isFree : pz_M := (⟨"BindingKernel$Disk", "isFree", "(I)Z"⟩, prog_3_method_4_code, 2, some .boolean)
abbrev M_Application_begin : pz_M := (⟨"BindingKernel$Application", "begin", "(ZII)V"⟩, prog_2_method_2_code, 4, none)
abbrev M_PageList_clear : pz_M := (⟨"BindingKernel$PageList", "clear", "()V"⟩, prog_9_method_2_code, 1, none)
abbrev M_Disk_bind : pz_M := (⟨"BindingKernel$Disk", "bind", "(IIII)V"⟩, prog_3_method_7_code, 7, none)
abbrev M_Disk_setWord : pz_M := (⟨"BindingKernel$Disk", "setWord", "(III)V"⟩, prog_3_method_12_code, 4, none)
abbrev M_K_close : pz_M := (⟨"BindingKernel", "close", "(I)I"⟩, prog_1_method_3_code, 2, some .int)
abbrev M_K_isOpen : pz_M := (⟨"BindingKernel", "isOpen", "(I)Z"⟩, prog_1_method_27_code, 2, some .boolean)
abbrev M_Memory_forget : pz_M := (⟨"BindingKernel$Memory", "forget", "(I)V"⟩, prog_8_method_9_code, 3, none)
abbrev M_Memory_setRight : pz_M := (⟨"BindingKernel$Memory", "setRight", "(III)V"⟩, prog_8_method_11_code, 4, none)
abbrev M_Memory_free : pz_M := (⟨"BindingKernel$Memory", "free", "(I)V"⟩, prog_8_method_8_code, 3, none)
abbrev M_Disk_freeAllOf : pz_M := (⟨"BindingKernel$Disk", "freeAllOf", "(I)V"⟩, prog_3_method_9_code, 3, none)
abbrev M_Disk_free : pz_M := (⟨"BindingKernel$Disk", "free", "(I)V"⟩, prog_3_method_8_code, 2, none)
abbrev M_FilterOrder_drop : pz_M := (⟨"BindingKernel$FilterOrder", "drop", "(I)V"⟩, prog_5_method_5_code, 4, none)
abbrev M_FilterOrder_placeOf : pz_M := (⟨"BindingKernel$FilterOrder", "placeOf", "(I)I"⟩, prog_5_method_3_code, 3, some .int)
abbrev M_Application_end : pz_M := (⟨"BindingKernel$Application", "end", "()V"⟩, prog_2_method_3_code, 1, none)
abbrev M_Program_clear : pz_M := (⟨"BindingKernel$Program", "clear", "()V"⟩, prog_10_method_5_code, 1, none)
abbrev M_FrameQueue_clear : pz_M := (⟨"BindingKernel$FrameQueue", "clear", "()V"⟩, prog_7_method_3_code, 1, none)
abbrev M_EntryTable_clear : pz_M := (⟨"BindingKernel$EntryTable", "clear", "()V"⟩, prog_4_method_2_code, 1, none)
abbrev M_K_take : pz_M := (⟨"BindingKernel", "take", "(I)I"⟩, prog_1_method_4_code, 3, some .int)
abbrev M_Memory_leastFree : pz_M := (⟨"BindingKernel$Memory", "leastFree", "()I"⟩, prog_8_method_4_code, 2, some .int)
abbrev M_Memory_bind : pz_M := (⟨"BindingKernel$Memory", "bind", "(II)V"⟩, prog_8_method_7_code, 4, none)
abbrev M_Memory_setWord : pz_M := (⟨"BindingKernel$Memory", "setWord", "(III)V"⟩, prog_8_method_13_code, 4, none)
abbrev M_K_release : pz_M := (⟨"BindingKernel", "release", "(II)I"⟩, prog_1_method_5_code, 3, some .int)
abbrev M_K_owns : pz_M := (⟨"BindingKernel", "owns", "(II)Z"⟩, prog_1_method_28_code, 3, some .boolean)
abbrev M_Memory_hasPage : pz_M := (⟨"BindingKernel$Memory", "hasPage", "(I)Z"⟩, prog_8_method_2_code, 2, some .boolean)
abbrev M_Memory_ownerOf : pz_M := (⟨"BindingKernel$Memory", "ownerOf", "(I)I"⟩, prog_8_method_3_code, 2, some .int)
abbrev M_K_share : pz_M := (⟨"BindingKernel", "share", "(IIII)I"⟩, prog_1_method_6_code, 5, some .int)
abbrev M_K_store : pz_M := (⟨"BindingKernel", "store", "(IIII)I"⟩, prog_1_method_7_code, 5, some .int)
abbrev M_K_mayUse : pz_M := (⟨"BindingKernel", "mayUse", "(IIII)Z"⟩, prog_1_method_29_code, 5, some .boolean)
abbrev M_Memory_rightOf : pz_M := (⟨"BindingKernel$Memory", "rightOf", "(II)I"⟩, prog_8_method_10_code, 3, some .int)
abbrev M_K_fetch : pz_M := (⟨"BindingKernel", "fetch", "(III)J"⟩, prog_1_method_8_code, 4, some .long)
abbrev M_Memory_wordOf : pz_M := (⟨"BindingKernel$Memory", "wordOf", "(II)I"⟩, prog_8_method_12_code, 3, some .int)
abbrev M_K_revoke : pz_M := (⟨"BindingKernel", "revoke", "(III)I"⟩, prog_1_method_9_code, 6, some .int)
abbrev M_Memory_pageToName : pz_M := (⟨"BindingKernel$Memory", "pageToName", "(I)I"⟩, prog_8_method_14_code, 5, some .int)
abbrev M_Memory_nameAfter : pz_M := (⟨"BindingKernel$Memory", "nameAfter", "(II)V"⟩, prog_8_method_15_code, 3, none)
abbrev M_K_tick : pz_M := (⟨"BindingKernel", "tick", "(I)I"⟩, prog_1_method_10_code, 4, some .int)
abbrev M_Memory_passTime : pz_M := (⟨"BindingKernel$Memory", "passTime", "(I)V"⟩, prog_8_method_16_code, 2, none)
abbrev M_Memory_firstDue : pz_M := (⟨"BindingKernel$Memory", "firstDue", "()I"⟩, prog_8_method_17_code, 3, some .int)
abbrev M_PageList_append : pz_M := (⟨"BindingKernel$PageList", "append", "(I)V"⟩, prog_9_method_3_code, 2, none)
abbrev M_K_op : pz_M := (⟨"BindingKernel", "op", "(IIIII)I"⟩, prog_1_method_11_code, 7, some .int)
abbrev M_Program_isInstruction : pz_M := (⟨"BindingKernel$Program", "isInstruction", "(IIII)Z"⟩, prog_10_method_2_code, 4, some .boolean)
abbrev M_Program_isTest : pz_M := (⟨"BindingKernel$Program", "isTest", "(I)Z"⟩, prog_10_method_3_code, 1, some .boolean)
abbrev M_Program_isFull : pz_M := (⟨"BindingKernel$Program", "isFull", "()Z"⟩, prog_10_method_4_code, 1, some .boolean)
abbrev M_Program_append : pz_M := (⟨"BindingKernel$Program", "append", "(IIII)V"⟩, prog_10_method_6_code, 5, none)
abbrev M_K_install : pz_M := (⟨"BindingKernel", "install", "(I)I"⟩, prog_1_method_12_code, 2, some .int)
abbrev M_Program_isSound : pz_M := (⟨"BindingKernel$Program", "isSound", "()Z"⟩, prog_10_method_7_code, 3, some .boolean)
abbrev M_FilterOrder_append : pz_M := (⟨"BindingKernel$FilterOrder", "append", "(I)V"⟩, prog_5_method_4_code, 2, none)
abbrev M_Application_draftBecomesFilter : pz_M := (⟨"BindingKernel$Application", "draftBecomesFilter", "()V"⟩, prog_2_method_5_code, 2, none)
abbrev M_K_push : pz_M := (⟨"BindingKernel", "push", "(I)I"⟩, prog_1_method_13_code, 2, some .int)
abbrev M_Frame_isFull : pz_M := (⟨"BindingKernel$Frame", "isFull", "()Z"⟩, prog_6_method_2_code, 1, some .boolean)
abbrev M_Frame_append : pz_M := (⟨"BindingKernel$Frame", "append", "(I)V"⟩, prog_6_method_4_code, 2, none)
abbrev M_K_arrive : pz_M := (⟨"BindingKernel", "arrive", "()I"⟩, prog_1_method_14_code, 3, some .int)
abbrev M_K_firstAccepting : pz_M := (⟨"BindingKernel", "firstAccepting", "()I"⟩, prog_1_method_30_code, 3, some .int)
abbrev M_FilterOrder_appAt : pz_M := (⟨"BindingKernel$FilterOrder", "appAt", "(I)I"⟩, prog_5_method_2_code, 2, some .int)
abbrev M_Program_accepts : pz_M := (⟨"BindingKernel$Program", "accepts", "(LBindingKernel$Frame;)Z"⟩, prog_10_method_8_code, 10, some .boolean)
abbrev M_Frame_hasByte : pz_M := (⟨"BindingKernel$Frame", "hasByte", "(J)Z"⟩, prog_6_method_5_code, 3, some .boolean)
abbrev M_Frame_byteAt : pz_M := (⟨"BindingKernel$Frame", "byteAt", "(I)I"⟩, prog_6_method_6_code, 2, some .int)
abbrev M_Program_reckon : pz_M := (⟨"BindingKernel$Program", "reckon", "(III)I"⟩, prog_10_method_9_code, 3, some .int)
abbrev M_Program_holds : pz_M := (⟨"BindingKernel$Program", "holds", "(III)Z"⟩, prog_10_method_10_code, 3, some .boolean)
abbrev M_K_deliver : pz_M := (⟨"BindingKernel", "deliver", "(I)I"⟩, prog_1_method_31_code, 2, some .int)
abbrev M_FrameQueue_isFull : pz_M := (⟨"BindingKernel$FrameQueue", "isFull", "()Z"⟩, prog_7_method_2_code, 1, some .boolean)
abbrev M_FrameQueue_append : pz_M := (⟨"BindingKernel$FrameQueue", "append", "(LBindingKernel$Frame;)V"⟩, prog_7_method_4_code, 2, none)
abbrev M_Frame_copyFrom : pz_M := (⟨"BindingKernel$Frame", "copyFrom", "(LBindingKernel$Frame;)V"⟩, prog_6_method_7_code, 2, none)
abbrev M_Frame_clear : pz_M := (⟨"BindingKernel$Frame", "clear", "()V"⟩, prog_6_method_3_code, 1, none)
abbrev M_K_got : pz_M := (⟨"BindingKernel", "got", "(II)I"⟩, prog_1_method_15_code, 4, some .int)
abbrev M_FrameQueue_oldest : pz_M := (⟨"BindingKernel$FrameQueue", "oldest", "()LBindingKernel$Frame;"⟩, prog_7_method_5_code, 1, some (.object "BindingKernel$Frame"))
abbrev M_K_next : pz_M := (⟨"BindingKernel", "next", "(I)I"⟩, prog_1_method_16_code, 2, some .int)
abbrev M_FrameQueue_dropOldest : pz_M := (⟨"BindingKernel$FrameQueue", "dropOldest", "()V"⟩, prog_7_method_6_code, 1, none)
abbrev M_K_write : pz_M := (⟨"BindingKernel", "write", "(IIII)I"⟩, prog_1_method_17_code, 5, some .int)
abbrev M_Disk_hasBlock : pz_M := (⟨"BindingKernel$Disk", "hasBlock", "(I)Z"⟩, prog_3_method_2_code, 2, some .boolean)
abbrev M_Disk_ownerOf : pz_M := (⟨"BindingKernel$Disk", "ownerOf", "(I)I"⟩, prog_3_method_3_code, 2, some .int)
abbrev M_Application_isLink : pz_M := (⟨"BindingKernel$Application", "isLink", "(I)Z"⟩, prog_2_method_4_code, 2, some .boolean)
abbrev M_K_relink : pz_M := (⟨"BindingKernel", "relink", "(IIII)I"⟩, prog_1_method_32_code, 8, some .int)
abbrev M_Disk_wordOf : pz_M := (⟨"BindingKernel$Disk", "wordOf", "(II)I"⟩, prog_3_method_11_code, 3, some .int)
abbrev M_Disk_namesBlocks : pz_M := (⟨"BindingKernel$Disk", "namesBlocks", "(III)Z"⟩, prog_3_method_10_code, 5, some .boolean)
abbrev M_K_put : pz_M := (⟨"BindingKernel", "put", "(IIIZ)I"⟩, prog_1_method_18_code, 7, some .int)
abbrev M_EntryTable_placeOf : pz_M := (⟨"BindingKernel$EntryTable", "placeOf", "(LBindingKernel$Disk;I)I"⟩, prog_4_method_3_code, 4, some .int)
abbrev M_EntryTable_keyAt : pz_M := (⟨"BindingKernel$EntryTable", "keyAt", "(LBindingKernel$Disk;I)I"⟩, prog_4_method_6_code, 3, some .int)
abbrev M_EntryTable_blockOf : pz_M := (⟨"BindingKernel$EntryTable", "blockOf", "(I)I"⟩, prog_4_method_9_code, 2, some .int)
abbrev M_EntryTable_keyWordOf : pz_M := (⟨"BindingKernel$EntryTable", "keyWordOf", "(I)I"⟩, prog_4_method_10_code, 1, some .int)
abbrev M_EntryTable_append : pz_M := (⟨"BindingKernel$EntryTable", "append", "(LBindingKernel$Disk;III)I"⟩, prog_4_method_4_code, 6, some .int)
abbrev M_EntryTable_setEntry : pz_M := (⟨"BindingKernel$EntryTable", "setEntry", "(LBindingKernel$Disk;III)V"⟩, prog_4_method_8_code, 5, none)
abbrev M_EntryTable_removeAt : pz_M := (⟨"BindingKernel$EntryTable", "removeAt", "(LBindingKernel$Disk;I)V"⟩, prog_4_method_5_code, 4, none)
abbrev M_EntryTable_valueAt : pz_M := (⟨"BindingKernel$EntryTable", "valueAt", "(LBindingKernel$Disk;I)I"⟩, prog_4_method_7_code, 3, some .int)
abbrev M_K_get : pz_M := (⟨"BindingKernel", "get", "(II)J"⟩, prog_1_method_19_code, 4, some .long)
abbrev M_Math_floorDiv : pz_M := (⟨"java/lang/Math", "floorDiv", "(II)I"⟩, prog_13_method_47_code, 3, some .int)
abbrev M_Math_floorMod : pz_M := (⟨"java/lang/Math", "floorMod", "(II)I"⟩, prog_13_method_50_code, 3, some .int)
abbrev M_K_holder : pz_M := (⟨"BindingKernel", "holder", "(II)I"⟩, prog_1_method_20_code, 4, some .int)
abbrev M_PageList_keeps : pz_M := (⟨"BindingKernel$PageList", "keeps", "(I)Z"⟩, prog_9_method_4_code, 2, some .boolean)
abbrev M_PageList_beforeLast : pz_M := (⟨"BindingKernel$PageList", "beforeLast", "(I)I"⟩, prog_9_method_5_code, 2, some .int)
abbrev M_K_count : pz_M := (⟨"BindingKernel", "count", "(II)I"⟩, prog_1_method_21_code, 3, some .int)
abbrev M_Memory_pagesOf : pz_M := (⟨"BindingKernel$Memory", "pagesOf", "(I)I"⟩, prog_8_method_5_code, 4, some .int)
abbrev M_Disk_blocksOf : pz_M := (⟨"BindingKernel$Disk", "blocksOf", "(I)I"⟩, prog_3_method_6_code, 4, some .int)
abbrev M_K_countOf : pz_M := (⟨"BindingKernel", "countOf", "(II)I"⟩, prog_1_method_22_code, 3, some .int)
abbrev M_Memory_namedPagesOf : pz_M := (⟨"BindingKernel$Memory", "namedPagesOf", "(I)I"⟩, prog_8_method_6_code, 4, some .int)
abbrev M_Law_cell : pz_M := (⟨"BindingKernelLaw", "cell", "([II)I"⟩, method_2_code, 2, some .int)
abbrev M_Mo_init : pz_M := (⟨"BindingKernelModel", "<init>", "(II)V"⟩, prog_12_method_1_code, 4, none)
abbrev M_Mo_open : pz_M := (⟨"BindingKernelModel", "open", "(IZII)I"⟩, prog_12_method_7_code, 6, some .int)
abbrev M_Mo_out : pz_M := (⟨"BindingKernelModel", "out", "(II)Z"⟩, prog_12_method_2_code, 3, some .boolean)
abbrev M_Mo_freeBlock : pz_M := (⟨"BindingKernelModel", "freeBlock", "()I"⟩, prog_12_method_4_code, 2, some .int)
abbrev M_Mo_renew : pz_M := (⟨"BindingKernelModel", "renew", "(II)V"⟩, prog_12_method_5_code, 4, none)
abbrev M_Mo_isLink : pz_M := (⟨"BindingKernelModel", "isLink", "(II)Z"⟩, prog_12_method_6_code, 3, some .boolean)
abbrev M_Mo_close : pz_M := (⟨"BindingKernelModel", "close", "(I)I"⟩, prog_12_method_8_code, 3, some .int)
abbrev M_Mo_shut : pz_M := (⟨"BindingKernelModel", "shut", "(I)Z"⟩, prog_12_method_3_code, 2, some .boolean)
abbrev M_Mo_free : pz_M := (⟨"BindingKernelModel", "free", "(I)V"⟩, prog_12_method_9_code, 3, none)
abbrev M_Mo_withdraw : pz_M := (⟨"BindingKernelModel", "withdraw", "(I)V"⟩, prog_12_method_18_code, 4, none)
abbrev M_Mo_take : pz_M := (⟨"BindingKernelModel", "take", "(I)I"⟩, prog_12_method_10_code, 4, some .int)
abbrev M_Mo_release : pz_M := (⟨"BindingKernelModel", "release", "(II)I"⟩, prog_12_method_11_code, 3, some .int)
abbrev M_Mo_share : pz_M := (⟨"BindingKernelModel", "share", "(IIII)I"⟩, prog_12_method_12_code, 5, some .int)
abbrev M_Mo_store : pz_M := (⟨"BindingKernelModel", "store", "(IIII)I"⟩, prog_12_method_13_code, 5, some .int)
abbrev M_Mo_fetch : pz_M := (⟨"BindingKernelModel", "fetch", "(III)J"⟩, prog_12_method_14_code, 4, some .long)
abbrev M_Mo_revoke : pz_M := (⟨"BindingKernelModel", "revoke", "(III)I"⟩, prog_12_method_15_code, 9, some .int)
abbrev M_Mo_tick : pz_M := (⟨"BindingKernelModel", "tick", "(I)I"⟩, prog_12_method_16_code, 7, some .int)
abbrev M_Mo_op : pz_M := (⟨"BindingKernelModel", "op", "(IIIII)I"⟩, prog_12_method_17_code, 7, some .int)
abbrev M_Mo_install : pz_M := (⟨"BindingKernelModel", "install", "(I)I"⟩, prog_12_method_20_code, 5, some .int)
abbrev M_Mo_sound : pz_M := (⟨"BindingKernelModel", "sound", "(I)Z"⟩, prog_12_method_19_code, 5, some .boolean)
abbrev M_Mo_push : pz_M := (⟨"BindingKernelModel", "push", "(I)I"⟩, prog_12_method_21_code, 2, some .int)
abbrev M_Mo_arrive : pz_M := (⟨"BindingKernelModel", "arrive", "()I"⟩, prog_12_method_24_code, 5, some .int)
abbrev M_Mo_accepts : pz_M := (⟨"BindingKernelModel", "accepts", "(I)Z"⟩, prog_12_method_23_code, 7, some .boolean)
abbrev M_Mo_plain : pz_M := (⟨"BindingKernelModel", "plain", "(II)Z"⟩, prog_12_method_22_code, 5, some .boolean)
abbrev M_Mo_got : pz_M := (⟨"BindingKernelModel", "got", "(II)I"⟩, prog_12_method_25_code, 3, some .int)
abbrev M_Mo_next : pz_M := (⟨"BindingKernelModel", "next", "(I)I"⟩, prog_12_method_26_code, 3, some .int)
abbrev M_Mo_write : pz_M := (⟨"BindingKernelModel", "write", "(IIII)I"⟩, prog_12_method_28_code, 7, some .int)
abbrev M_Mo_hasLinks : pz_M := (⟨"BindingKernelModel", "hasLinks", "(II)Z"⟩, prog_12_method_27_code, 4, some .boolean)
abbrev M_Mo_put : pz_M := (⟨"BindingKernelModel", "put", "(IIIZ)I"⟩, prog_12_method_30_code, 8, some .int)
abbrev M_Mo_entryOf : pz_M := (⟨"BindingKernelModel", "entryOf", "(II)I"⟩, prog_12_method_29_code, 4, some .int)
abbrev M_Mo_get : pz_M := (⟨"BindingKernelModel", "get", "(II)J"⟩, prog_12_method_31_code, 4, some .long)
abbrev M_Mo_holder : pz_M := (⟨"BindingKernelModel", "holder", "(II)I"⟩, prog_12_method_32_code, 3, some .int)
abbrev M_Mo_count : pz_M := (⟨"BindingKernelModel", "count", "(II)I"⟩, prog_12_method_35_code, 4, some .int)
abbrev M_Mo_pagesOf : pz_M := (⟨"BindingKernelModel", "pagesOf", "(IZ)I"⟩, prog_12_method_33_code, 5, some .int)
abbrev M_Mo_blocksOf : pz_M := (⟨"BindingKernelModel", "blocksOf", "(I)I"⟩, prog_12_method_34_code, 4, some .int)
abbrev M_Law_law : pz_M := (⟨"BindingKernelLaw", "law", "([I)Z"⟩, code, maxLocals, ret)
end
section
/-! decode rows -/
theorem d_K_init_0 : decode M_K_init.2.1 0 = .ok (.aload_n 0, 1) := by decide +kernel
theorem d_K_init_1 : decode M_K_init.2.1 1 = .ok (.invokespecial 1, 3) := by decide +kernel
theorem d_K_init_4 : decode M_K_init.2.1 4 = .ok (.aload_n 0, 1) := by decide +kernel
theorem d_K_init_5 : decode M_K_init.2.1 5 = .ok (.new 7, 3) := by decide +kernel
theorem d_K_init_8 : decode M_K_init.2.1 8 = .ok (.dup, 1) := by decide +kernel
theorem d_K_init_9 : decode M_K_init.2.1 9 = .ok (.iload_n 1, 1) := by decide +kernel
theorem d_K_init_10 : decode M_K_init.2.1 10 = .ok (.invokestatic 9, 3) := by decide +kernel
theorem d_K_init_13 : decode M_K_init.2.1 13 = .ok (.invokespecial 15, 3) := by decide +kernel
theorem d_K_init_16 : decode M_K_init.2.1 16 = .ok (.putfield 18, 3) := by decide +kernel
theorem d_K_init_19 : decode M_K_init.2.1 19 = .ok (.aload_n 0, 1) := by decide +kernel
theorem d_K_init_20 : decode M_K_init.2.1 20 = .ok (.new 22, 3) := by decide +kernel
theorem d_K_init_23 : decode M_K_init.2.1 23 = .ok (.dup, 1) := by decide +kernel
theorem d_K_init_24 : decode M_K_init.2.1 24 = .ok (.iload_n 2, 1) := by decide +kernel
theorem d_K_init_25 : decode M_K_init.2.1 25 = .ok (.invokestatic 9, 3) := by decide +kernel
theorem d_K_init_28 : decode M_K_init.2.1 28 = .ok (.invokespecial 24, 3) := by decide +kernel
theorem d_K_init_31 : decode M_K_init.2.1 31 = .ok (.putfield 25, 3) := by decide +kernel
theorem d_K_init_34 : decode M_K_init.2.1 34 = .ok (.aload_n 0, 1) := by decide +kernel
theorem d_K_init_35 : decode M_K_init.2.1 35 = .ok (.new 29, 3) := by decide +kernel
theorem d_K_init_38 : decode M_K_init.2.1 38 = .ok (.dup, 1) := by decide +kernel
theorem d_K_init_39 : decode M_K_init.2.1 39 = .ok (.invokespecial 31, 3) := by decide +kernel
theorem d_K_init_42 : decode M_K_init.2.1 42 = .ok (.putfield 32, 3) := by decide +kernel
theorem d_K_init_45 : decode M_K_init.2.1 45 = .ok (.aload_n 0, 1) := by decide +kernel
theorem d_K_init_46 : decode M_K_init.2.1 46 = .ok (.new 36, 3) := by decide +kernel
theorem d_K_init_49 : decode M_K_init.2.1 49 = .ok (.dup, 1) := by decide +kernel
theorem d_K_init_50 : decode M_K_init.2.1 50 = .ok (.invokespecial 38, 3) := by decide +kernel
theorem d_K_init_53 : decode M_K_init.2.1 53 = .ok (.putfield 39, 3) := by decide +kernel
theorem d_K_init_56 : decode M_K_init.2.1 56 = .ok (.aload_n 0, 1) := by decide +kernel
theorem d_K_init_57 : decode M_K_init.2.1 57 = .ok (.iconst 0, 1) := by decide +kernel
theorem d_K_init_58 : decode M_K_init.2.1 58 = .ok (.putfield 43, 3) := by decide +kernel
theorem d_K_init_61 : decode M_K_init.2.1 61 = .ok (.aload_n 0, 1) := by decide +kernel
theorem d_K_init_62 : decode M_K_init.2.1 62 = .ok (.bipush 6, 2) := by decide +kernel
theorem d_K_init_64 : decode M_K_init.2.1 64 = .ok (.anewarray 47, 3) := by decide +kernel
theorem d_K_init_67 : decode M_K_init.2.1 67 = .ok (.putfield 49, 3) := by decide +kernel
theorem d_K_init_70 : decode M_K_init.2.1 70 = .ok (.iconst 0, 1) := by decide +kernel
theorem d_K_init_71 : decode M_K_init.2.1 71 = .ok (.istore_n 3, 1) := by decide +kernel
theorem d_K_init_72 : decode M_K_init.2.1 72 = .ok (.iload_n 3, 1) := by decide +kernel
theorem d_K_init_73 : decode M_K_init.2.1 73 = .ok (.bipush 6, 2) := by decide +kernel
theorem d_K_init_75 : decode M_K_init.2.1 75 = .ok (.if_icmp .ge 22, 3) := by decide +kernel
theorem d_K_init_78 : decode M_K_init.2.1 78 = .ok (.aload_n 0, 1) := by decide +kernel
theorem d_K_init_79 : decode M_K_init.2.1 79 = .ok (.getfield 49, 3) := by decide +kernel
theorem d_K_init_82 : decode M_K_init.2.1 82 = .ok (.iload_n 3, 1) := by decide +kernel
theorem d_K_init_83 : decode M_K_init.2.1 83 = .ok (.new 47, 3) := by decide +kernel
theorem d_K_init_86 : decode M_K_init.2.1 86 = .ok (.dup, 1) := by decide +kernel
theorem d_K_init_87 : decode M_K_init.2.1 87 = .ok (.invokespecial 53, 3) := by decide +kernel
theorem d_K_init_90 : decode M_K_init.2.1 90 = .ok (.aastore, 1) := by decide +kernel
theorem d_K_init_91 : decode M_K_init.2.1 91 = .ok (.iinc 3 1, 3) := by decide +kernel
theorem d_K_init_94 : decode M_K_init.2.1 94 = .ok (.goto (-22), 3) := by decide +kernel
theorem d_K_init_97 : decode M_K_init.2.1 97 = .ok (.return_, 1) := by decide +kernel
theorem d_K_clampSize_0 : decode M_K_clampSize.2.1 0 = .ok (.iconst 4, 1) := by decide +kernel
theorem d_K_clampSize_1 : decode M_K_clampSize.2.1 1 = .ok (.bipush 32, 2) := by decide +kernel
theorem d_K_clampSize_3 : decode M_K_clampSize.2.1 3 = .ok (.iload_n 0, 1) := by decide +kernel
theorem d_K_clampSize_4 : decode M_K_clampSize.2.1 4 = .ok (.invokestatic 287, 3) := by decide +kernel
theorem d_K_clampSize_7 : decode M_K_clampSize.2.1 7 = .ok (.invokestatic 290, 3) := by decide +kernel
theorem d_K_clampSize_10 : decode M_K_clampSize.2.1 10 = .ok (.ireturn, 1) := by decide +kernel
theorem d_Math_min_0 : decode M_Math_min.2.1 0 = .ok (.iload_n 0, 1) := by decide +kernel
theorem d_Math_min_1 : decode M_Math_min.2.1 1 = .ok (.iload_n 1, 1) := by decide +kernel
theorem d_Math_min_2 : decode M_Math_min.2.1 2 = .ok (.if_icmp .gt 7, 3) := by decide +kernel
theorem d_Math_min_5 : decode M_Math_min.2.1 5 = .ok (.iload_n 0, 1) := by decide +kernel
theorem d_Math_min_6 : decode M_Math_min.2.1 6 = .ok (.goto 4, 3) := by decide +kernel
theorem d_Math_min_9 : decode M_Math_min.2.1 9 = .ok (.iload_n 1, 1) := by decide +kernel
theorem d_Math_min_10 : decode M_Math_min.2.1 10 = .ok (.ireturn, 1) := by decide +kernel
theorem d_Math_max_0 : decode M_Math_max.2.1 0 = .ok (.iload_n 0, 1) := by decide +kernel
theorem d_Math_max_1 : decode M_Math_max.2.1 1 = .ok (.iload_n 1, 1) := by decide +kernel
theorem d_Math_max_2 : decode M_Math_max.2.1 2 = .ok (.if_icmp .lt 7, 3) := by decide +kernel
theorem d_Math_max_5 : decode M_Math_max.2.1 5 = .ok (.iload_n 0, 1) := by decide +kernel
theorem d_Math_max_6 : decode M_Math_max.2.1 6 = .ok (.goto 4, 3) := by decide +kernel
theorem d_Math_max_9 : decode M_Math_max.2.1 9 = .ok (.iload_n 1, 1) := by decide +kernel
theorem d_Math_max_10 : decode M_Math_max.2.1 10 = .ok (.ireturn, 1) := by decide +kernel
theorem d_Memory_init_0 : decode M_Memory_init.2.1 0 = .ok (.aload_n 0, 1) := by decide +kernel
theorem d_Memory_init_1 : decode M_Memory_init.2.1 1 = .ok (.invokespecial 3, 3) := by decide +kernel
theorem d_Memory_init_4 : decode M_Memory_init.2.1 4 = .ok (.aload_n 0, 1) := by decide +kernel
theorem d_Memory_init_5 : decode M_Memory_init.2.1 5 = .ok (.iload_n 1, 1) := by decide +kernel
theorem d_Memory_init_6 : decode M_Memory_init.2.1 6 = .ok (.putfield 9, 3) := by decide +kernel
theorem d_Memory_init_9 : decode M_Memory_init.2.1 9 = .ok (.aload_n 0, 1) := by decide +kernel
theorem d_Memory_init_10 : decode M_Memory_init.2.1 10 = .ok (.iload_n 1, 1) := by decide +kernel
theorem d_Memory_init_11 : decode M_Memory_init.2.1 11 = .ok (.iconst 4, 1) := by decide +kernel
theorem d_Memory_init_12 : decode M_Memory_init.2.1 12 = .ok (.imul, 1) := by decide +kernel
theorem d_Memory_init_13 : decode M_Memory_init.2.1 13 = .ok (.newarray .int, 2) := by decide +kernel
theorem d_Memory_init_15 : decode M_Memory_init.2.1 15 = .ok (.putfield 15, 3) := by decide +kernel
theorem d_Memory_init_18 : decode M_Memory_init.2.1 18 = .ok (.aload_n 0, 1) := by decide +kernel
theorem d_Memory_init_19 : decode M_Memory_init.2.1 19 = .ok (.iload_n 1, 1) := by decide +kernel
theorem d_Memory_init_20 : decode M_Memory_init.2.1 20 = .ok (.newarray .int, 2) := by decide +kernel
theorem d_Memory_init_22 : decode M_Memory_init.2.1 22 = .ok (.putfield 19, 3) := by decide +kernel
theorem d_Memory_init_25 : decode M_Memory_init.2.1 25 = .ok (.aload_n 0, 1) := by decide +kernel
theorem d_Memory_init_26 : decode M_Memory_init.2.1 26 = .ok (.iload_n 1, 1) := by decide +kernel
theorem d_Memory_init_27 : decode M_Memory_init.2.1 27 = .ok (.bipush 6, 2) := by decide +kernel
theorem d_Memory_init_29 : decode M_Memory_init.2.1 29 = .ok (.imul, 1) := by decide +kernel
theorem d_Memory_init_30 : decode M_Memory_init.2.1 30 = .ok (.newarray .int, 2) := by decide +kernel
theorem d_Memory_init_32 : decode M_Memory_init.2.1 32 = .ok (.putfield 22, 3) := by decide +kernel
theorem d_Memory_init_35 : decode M_Memory_init.2.1 35 = .ok (.aload_n 0, 1) := by decide +kernel
theorem d_Memory_init_36 : decode M_Memory_init.2.1 36 = .ok (.iload_n 1, 1) := by decide +kernel
theorem d_Memory_init_37 : decode M_Memory_init.2.1 37 = .ok (.newarray .int, 2) := by decide +kernel
theorem d_Memory_init_39 : decode M_Memory_init.2.1 39 = .ok (.putfield 25, 3) := by decide +kernel
theorem d_Memory_init_42 : decode M_Memory_init.2.1 42 = .ok (.aload_n 0, 1) := by decide +kernel
theorem d_Memory_init_43 : decode M_Memory_init.2.1 43 = .ok (.iload_n 1, 1) := by decide +kernel
theorem d_Memory_init_44 : decode M_Memory_init.2.1 44 = .ok (.newarray .boolean, 2) := by decide +kernel
theorem d_Memory_init_46 : decode M_Memory_init.2.1 46 = .ok (.putfield 28, 3) := by decide +kernel
theorem d_Memory_init_49 : decode M_Memory_init.2.1 49 = .ok (.aload_n 0, 1) := by decide +kernel
theorem d_Memory_init_50 : decode M_Memory_init.2.1 50 = .ok (.iload_n 1, 1) := by decide +kernel
theorem d_Memory_init_51 : decode M_Memory_init.2.1 51 = .ok (.newarray .int, 2) := by decide +kernel
theorem d_Memory_init_53 : decode M_Memory_init.2.1 53 = .ok (.putfield 32, 3) := by decide +kernel
theorem d_Memory_init_56 : decode M_Memory_init.2.1 56 = .ok (.aload_n 0, 1) := by decide +kernel
theorem d_Memory_init_57 : decode M_Memory_init.2.1 57 = .ok (.iconst 0, 1) := by decide +kernel
theorem d_Memory_init_58 : decode M_Memory_init.2.1 58 = .ok (.putfield 35, 3) := by decide +kernel
theorem d_Memory_init_61 : decode M_Memory_init.2.1 61 = .ok (.aload_n 0, 1) := by decide +kernel
theorem d_Memory_init_62 : decode M_Memory_init.2.1 62 = .ok (.iconst 0, 1) := by decide +kernel
theorem d_Memory_init_63 : decode M_Memory_init.2.1 63 = .ok (.putfield 38, 3) := by decide +kernel
theorem d_Memory_init_66 : decode M_Memory_init.2.1 66 = .ok (.iconst 0, 1) := by decide +kernel
theorem d_Memory_init_67 : decode M_Memory_init.2.1 67 = .ok (.istore_n 2, 1) := by decide +kernel
theorem d_Memory_init_68 : decode M_Memory_init.2.1 68 = .ok (.iload_n 2, 1) := by decide +kernel
theorem d_Memory_init_69 : decode M_Memory_init.2.1 69 = .ok (.iload_n 1, 1) := by decide +kernel
theorem d_Memory_init_70 : decode M_Memory_init.2.1 70 = .ok (.if_icmp .ge 16, 3) := by decide +kernel
theorem d_Memory_init_73 : decode M_Memory_init.2.1 73 = .ok (.aload_n 0, 1) := by decide +kernel
theorem d_Memory_init_74 : decode M_Memory_init.2.1 74 = .ok (.getfield 19, 3) := by decide +kernel
theorem d_Memory_init_77 : decode M_Memory_init.2.1 77 = .ok (.iload_n 2, 1) := by decide +kernel
theorem d_Memory_init_78 : decode M_Memory_init.2.1 78 = .ok (.iconst (-1), 1) := by decide +kernel
theorem d_Memory_init_79 : decode M_Memory_init.2.1 79 = .ok (.iastore, 1) := by decide +kernel
theorem d_Memory_init_80 : decode M_Memory_init.2.1 80 = .ok (.iinc 2 1, 3) := by decide +kernel
theorem d_Memory_init_83 : decode M_Memory_init.2.1 83 = .ok (.goto (-15), 3) := by decide +kernel
theorem d_Memory_init_86 : decode M_Memory_init.2.1 86 = .ok (.return_, 1) := by decide +kernel
theorem d_Disk_init_0 : decode M_Disk_init.2.1 0 = .ok (.aload_n 0, 1) := by decide +kernel
theorem d_Disk_init_1 : decode M_Disk_init.2.1 1 = .ok (.invokespecial 3, 3) := by decide +kernel
theorem d_Disk_init_4 : decode M_Disk_init.2.1 4 = .ok (.aload_n 0, 1) := by decide +kernel
theorem d_Disk_init_5 : decode M_Disk_init.2.1 5 = .ok (.iload_n 1, 1) := by decide +kernel
theorem d_Disk_init_6 : decode M_Disk_init.2.1 6 = .ok (.putfield 9, 3) := by decide +kernel
theorem d_Disk_init_9 : decode M_Disk_init.2.1 9 = .ok (.aload_n 0, 1) := by decide +kernel
theorem d_Disk_init_10 : decode M_Disk_init.2.1 10 = .ok (.iload_n 1, 1) := by decide +kernel
theorem d_Disk_init_11 : decode M_Disk_init.2.1 11 = .ok (.bipush 8, 2) := by decide +kernel
theorem d_Disk_init_13 : decode M_Disk_init.2.1 13 = .ok (.imul, 1) := by decide +kernel
theorem d_Disk_init_14 : decode M_Disk_init.2.1 14 = .ok (.newarray .int, 2) := by decide +kernel
theorem d_Disk_init_16 : decode M_Disk_init.2.1 16 = .ok (.putfield 15, 3) := by decide +kernel
theorem d_Disk_init_19 : decode M_Disk_init.2.1 19 = .ok (.aload_n 0, 1) := by decide +kernel
theorem d_Disk_init_20 : decode M_Disk_init.2.1 20 = .ok (.iload_n 1, 1) := by decide +kernel
theorem d_Disk_init_21 : decode M_Disk_init.2.1 21 = .ok (.newarray .int, 2) := by decide +kernel
theorem d_Disk_init_23 : decode M_Disk_init.2.1 23 = .ok (.putfield 19, 3) := by decide +kernel
theorem d_Disk_init_26 : decode M_Disk_init.2.1 26 = .ok (.iconst 0, 1) := by decide +kernel
theorem d_Disk_init_27 : decode M_Disk_init.2.1 27 = .ok (.istore_n 2, 1) := by decide +kernel
theorem d_Disk_init_28 : decode M_Disk_init.2.1 28 = .ok (.iload_n 2, 1) := by decide +kernel
theorem d_Disk_init_29 : decode M_Disk_init.2.1 29 = .ok (.iload_n 1, 1) := by decide +kernel
theorem d_Disk_init_30 : decode M_Disk_init.2.1 30 = .ok (.if_icmp .ge 16, 3) := by decide +kernel
theorem d_Disk_init_33 : decode M_Disk_init.2.1 33 = .ok (.aload_n 0, 1) := by decide +kernel
theorem d_Disk_init_34 : decode M_Disk_init.2.1 34 = .ok (.getfield 19, 3) := by decide +kernel
theorem d_Disk_init_37 : decode M_Disk_init.2.1 37 = .ok (.iload_n 2, 1) := by decide +kernel
theorem d_Disk_init_38 : decode M_Disk_init.2.1 38 = .ok (.iconst (-1), 1) := by decide +kernel
theorem d_Disk_init_39 : decode M_Disk_init.2.1 39 = .ok (.iastore, 1) := by decide +kernel
theorem d_Disk_init_40 : decode M_Disk_init.2.1 40 = .ok (.iinc 2 1, 3) := by decide +kernel
theorem d_Disk_init_43 : decode M_Disk_init.2.1 43 = .ok (.goto (-15), 3) := by decide +kernel
theorem d_Disk_init_46 : decode M_Disk_init.2.1 46 = .ok (.return_, 1) := by decide +kernel
theorem d_FilterOrder_init_0 : decode M_FilterOrder_init.2.1 0 = .ok (.aload_n 0, 1) := by decide +kernel
theorem d_FilterOrder_init_1 : decode M_FilterOrder_init.2.1 1 = .ok (.invokespecial 3, 3) := by decide +kernel
theorem d_FilterOrder_init_4 : decode M_FilterOrder_init.2.1 4 = .ok (.aload_n 0, 1) := by decide +kernel
theorem d_FilterOrder_init_5 : decode M_FilterOrder_init.2.1 5 = .ok (.bipush 6, 2) := by decide +kernel
theorem d_FilterOrder_init_7 : decode M_FilterOrder_init.2.1 7 = .ok (.newarray .int, 2) := by decide +kernel
theorem d_FilterOrder_init_9 : decode M_FilterOrder_init.2.1 9 = .ok (.putfield 9, 3) := by decide +kernel
theorem d_FilterOrder_init_12 : decode M_FilterOrder_init.2.1 12 = .ok (.aload_n 0, 1) := by decide +kernel
theorem d_FilterOrder_init_13 : decode M_FilterOrder_init.2.1 13 = .ok (.iconst 0, 1) := by decide +kernel
theorem d_FilterOrder_init_14 : decode M_FilterOrder_init.2.1 14 = .ok (.putfield 15, 3) := by decide +kernel
theorem d_FilterOrder_init_17 : decode M_FilterOrder_init.2.1 17 = .ok (.return_, 1) := by decide +kernel
theorem d_Frame_init_0 : decode M_Frame_init.2.1 0 = .ok (.aload_n 0, 1) := by decide +kernel
theorem d_Frame_init_1 : decode M_Frame_init.2.1 1 = .ok (.invokespecial 1, 3) := by decide +kernel
theorem d_Frame_init_4 : decode M_Frame_init.2.1 4 = .ok (.aload_n 0, 1) := by decide +kernel
theorem d_Frame_init_5 : decode M_Frame_init.2.1 5 = .ok (.bipush 16, 2) := by decide +kernel
theorem d_Frame_init_7 : decode M_Frame_init.2.1 7 = .ok (.newarray .int, 2) := by decide +kernel
theorem d_Frame_init_9 : decode M_Frame_init.2.1 9 = .ok (.putfield 9, 3) := by decide +kernel
theorem d_Frame_init_12 : decode M_Frame_init.2.1 12 = .ok (.aload_n 0, 1) := by decide +kernel
theorem d_Frame_init_13 : decode M_Frame_init.2.1 13 = .ok (.iconst 0, 1) := by decide +kernel
theorem d_Frame_init_14 : decode M_Frame_init.2.1 14 = .ok (.putfield 13, 3) := by decide +kernel
theorem d_Frame_init_17 : decode M_Frame_init.2.1 17 = .ok (.return_, 1) := by decide +kernel
theorem d_Application_init_0 : decode M_Application_init.2.1 0 = .ok (.aload_n 0, 1) := by decide +kernel
theorem d_Application_init_1 : decode M_Application_init.2.1 1 = .ok (.invokespecial 1, 3) := by decide +kernel
theorem d_Application_init_4 : decode M_Application_init.2.1 4 = .ok (.aload_n 0, 1) := by decide +kernel
theorem d_Application_init_5 : decode M_Application_init.2.1 5 = .ok (.new 7, 3) := by decide +kernel
theorem d_Application_init_8 : decode M_Application_init.2.1 8 = .ok (.dup, 1) := by decide +kernel
theorem d_Application_init_9 : decode M_Application_init.2.1 9 = .ok (.invokespecial 9, 3) := by decide +kernel
theorem d_Application_init_12 : decode M_Application_init.2.1 12 = .ok (.putfield 10, 3) := by decide +kernel
theorem d_Application_init_15 : decode M_Application_init.2.1 15 = .ok (.aload_n 0, 1) := by decide +kernel
theorem d_Application_init_16 : decode M_Application_init.2.1 16 = .ok (.new 16, 3) := by decide +kernel
theorem d_Application_init_19 : decode M_Application_init.2.1 19 = .ok (.dup, 1) := by decide +kernel
theorem d_Application_init_20 : decode M_Application_init.2.1 20 = .ok (.invokespecial 18, 3) := by decide +kernel
theorem d_Application_init_23 : decode M_Application_init.2.1 23 = .ok (.putfield 19, 3) := by decide +kernel
theorem d_Application_init_26 : decode M_Application_init.2.1 26 = .ok (.aload_n 0, 1) := by decide +kernel
theorem d_Application_init_27 : decode M_Application_init.2.1 27 = .ok (.new 23, 3) := by decide +kernel
theorem d_Application_init_30 : decode M_Application_init.2.1 30 = .ok (.dup, 1) := by decide +kernel
theorem d_Application_init_31 : decode M_Application_init.2.1 31 = .ok (.invokespecial 25, 3) := by decide +kernel
theorem d_Application_init_34 : decode M_Application_init.2.1 34 = .ok (.putfield 26, 3) := by decide +kernel
theorem d_Application_init_37 : decode M_Application_init.2.1 37 = .ok (.aload_n 0, 1) := by decide +kernel
theorem d_Application_init_38 : decode M_Application_init.2.1 38 = .ok (.new 30, 3) := by decide +kernel
theorem d_Application_init_41 : decode M_Application_init.2.1 41 = .ok (.dup, 1) := by decide +kernel
theorem d_Application_init_42 : decode M_Application_init.2.1 42 = .ok (.invokespecial 32, 3) := by decide +kernel
theorem d_Application_init_45 : decode M_Application_init.2.1 45 = .ok (.putfield 33, 3) := by decide +kernel
theorem d_Application_init_48 : decode M_Application_init.2.1 48 = .ok (.aload_n 0, 1) := by decide +kernel
theorem d_Application_init_49 : decode M_Application_init.2.1 49 = .ok (.new 30, 3) := by decide +kernel
theorem d_Application_init_52 : decode M_Application_init.2.1 52 = .ok (.dup, 1) := by decide +kernel
theorem d_Application_init_53 : decode M_Application_init.2.1 53 = .ok (.invokespecial 32, 3) := by decide +kernel
theorem d_Application_init_56 : decode M_Application_init.2.1 56 = .ok (.putfield 37, 3) := by decide +kernel
theorem d_Application_init_59 : decode M_Application_init.2.1 59 = .ok (.aload_n 0, 1) := by decide +kernel
theorem d_Application_init_60 : decode M_Application_init.2.1 60 = .ok (.iconst 0, 1) := by decide +kernel
theorem d_Application_init_61 : decode M_Application_init.2.1 61 = .ok (.putfield 40, 3) := by decide +kernel
theorem d_Application_init_64 : decode M_Application_init.2.1 64 = .ok (.aload_n 0, 1) := by decide +kernel
theorem d_Application_init_65 : decode M_Application_init.2.1 65 = .ok (.iconst 0, 1) := by decide +kernel
theorem d_Application_init_66 : decode M_Application_init.2.1 66 = .ok (.putfield 44, 3) := by decide +kernel
theorem d_Application_init_69 : decode M_Application_init.2.1 69 = .ok (.aload_n 0, 1) := by decide +kernel
theorem d_Application_init_70 : decode M_Application_init.2.1 70 = .ok (.iconst 0, 1) := by decide +kernel
theorem d_Application_init_71 : decode M_Application_init.2.1 71 = .ok (.putfield 47, 3) := by decide +kernel
theorem d_Application_init_74 : decode M_Application_init.2.1 74 = .ok (.aload_n 0, 1) := by decide +kernel
theorem d_Application_init_75 : decode M_Application_init.2.1 75 = .ok (.iconst 0, 1) := by decide +kernel
theorem d_Application_init_76 : decode M_Application_init.2.1 76 = .ok (.putfield 51, 3) := by decide +kernel
theorem d_Application_init_79 : decode M_Application_init.2.1 79 = .ok (.return_, 1) := by decide +kernel
theorem d_PageList_init_0 : decode M_PageList_init.2.1 0 = .ok (.aload_n 0, 1) := by decide +kernel
theorem d_PageList_init_1 : decode M_PageList_init.2.1 1 = .ok (.invokespecial 1, 3) := by decide +kernel
theorem d_PageList_init_4 : decode M_PageList_init.2.1 4 = .ok (.aload_n 0, 1) := by decide +kernel
theorem d_PageList_init_5 : decode M_PageList_init.2.1 5 = .ok (.bipush 8, 2) := by decide +kernel
theorem d_PageList_init_7 : decode M_PageList_init.2.1 7 = .ok (.newarray .int, 2) := by decide +kernel
theorem d_PageList_init_9 : decode M_PageList_init.2.1 9 = .ok (.putfield 9, 3) := by decide +kernel
theorem d_PageList_init_12 : decode M_PageList_init.2.1 12 = .ok (.aload_n 0, 1) := by decide +kernel
theorem d_PageList_init_13 : decode M_PageList_init.2.1 13 = .ok (.iconst 0, 1) := by decide +kernel
theorem d_PageList_init_14 : decode M_PageList_init.2.1 14 = .ok (.putfield 13, 3) := by decide +kernel
theorem d_PageList_init_17 : decode M_PageList_init.2.1 17 = .ok (.aload_n 0, 1) := by decide +kernel
theorem d_PageList_init_18 : decode M_PageList_init.2.1 18 = .ok (.iconst 0, 1) := by decide +kernel
theorem d_PageList_init_19 : decode M_PageList_init.2.1 19 = .ok (.putfield 17, 3) := by decide +kernel
theorem d_PageList_init_22 : decode M_PageList_init.2.1 22 = .ok (.return_, 1) := by decide +kernel
theorem d_FrameQueue_init_0 : decode M_FrameQueue_init.2.1 0 = .ok (.aload_n 0, 1) := by decide +kernel
theorem d_FrameQueue_init_1 : decode M_FrameQueue_init.2.1 1 = .ok (.invokespecial 1, 3) := by decide +kernel
theorem d_FrameQueue_init_4 : decode M_FrameQueue_init.2.1 4 = .ok (.aload_n 0, 1) := by decide +kernel
theorem d_FrameQueue_init_5 : decode M_FrameQueue_init.2.1 5 = .ok (.iconst 4, 1) := by decide +kernel
theorem d_FrameQueue_init_6 : decode M_FrameQueue_init.2.1 6 = .ok (.anewarray 9, 3) := by decide +kernel
theorem d_FrameQueue_init_9 : decode M_FrameQueue_init.2.1 9 = .ok (.putfield 11, 3) := by decide +kernel
theorem d_FrameQueue_init_12 : decode M_FrameQueue_init.2.1 12 = .ok (.aload_n 0, 1) := by decide +kernel
theorem d_FrameQueue_init_13 : decode M_FrameQueue_init.2.1 13 = .ok (.iconst 0, 1) := by decide +kernel
theorem d_FrameQueue_init_14 : decode M_FrameQueue_init.2.1 14 = .ok (.putfield 15, 3) := by decide +kernel
theorem d_FrameQueue_init_17 : decode M_FrameQueue_init.2.1 17 = .ok (.aload_n 0, 1) := by decide +kernel
theorem d_FrameQueue_init_18 : decode M_FrameQueue_init.2.1 18 = .ok (.iconst 0, 1) := by decide +kernel
theorem d_FrameQueue_init_19 : decode M_FrameQueue_init.2.1 19 = .ok (.putfield 19, 3) := by decide +kernel
theorem d_FrameQueue_init_22 : decode M_FrameQueue_init.2.1 22 = .ok (.iconst 0, 1) := by decide +kernel
theorem d_FrameQueue_init_23 : decode M_FrameQueue_init.2.1 23 = .ok (.istore_n 1, 1) := by decide +kernel
theorem d_FrameQueue_init_24 : decode M_FrameQueue_init.2.1 24 = .ok (.iload_n 1, 1) := by decide +kernel
theorem d_FrameQueue_init_25 : decode M_FrameQueue_init.2.1 25 = .ok (.iconst 4, 1) := by decide +kernel
theorem d_FrameQueue_init_26 : decode M_FrameQueue_init.2.1 26 = .ok (.if_icmp .ge 22, 3) := by decide +kernel
theorem d_FrameQueue_init_29 : decode M_FrameQueue_init.2.1 29 = .ok (.aload_n 0, 1) := by decide +kernel
theorem d_FrameQueue_init_30 : decode M_FrameQueue_init.2.1 30 = .ok (.getfield 11, 3) := by decide +kernel
theorem d_FrameQueue_init_33 : decode M_FrameQueue_init.2.1 33 = .ok (.iload_n 1, 1) := by decide +kernel
theorem d_FrameQueue_init_34 : decode M_FrameQueue_init.2.1 34 = .ok (.new 9, 3) := by decide +kernel
theorem d_FrameQueue_init_37 : decode M_FrameQueue_init.2.1 37 = .ok (.dup, 1) := by decide +kernel
theorem d_FrameQueue_init_38 : decode M_FrameQueue_init.2.1 38 = .ok (.invokespecial 22, 3) := by decide +kernel
theorem d_FrameQueue_init_41 : decode M_FrameQueue_init.2.1 41 = .ok (.aastore, 1) := by decide +kernel
theorem d_FrameQueue_init_42 : decode M_FrameQueue_init.2.1 42 = .ok (.iinc 1 1, 3) := by decide +kernel
theorem d_FrameQueue_init_45 : decode M_FrameQueue_init.2.1 45 = .ok (.goto (-21), 3) := by decide +kernel
theorem d_FrameQueue_init_48 : decode M_FrameQueue_init.2.1 48 = .ok (.return_, 1) := by decide +kernel
theorem d_EntryTable_init_0 : decode M_EntryTable_init.2.1 0 = .ok (.aload_n 0, 1) := by decide +kernel
theorem d_EntryTable_init_1 : decode M_EntryTable_init.2.1 1 = .ok (.invokespecial 3, 3) := by decide +kernel
theorem d_EntryTable_init_4 : decode M_EntryTable_init.2.1 4 = .ok (.aload_n 0, 1) := by decide +kernel
theorem d_EntryTable_init_5 : decode M_EntryTable_init.2.1 5 = .ok (.bipush 7, 2) := by decide +kernel
theorem d_EntryTable_init_7 : decode M_EntryTable_init.2.1 7 = .ok (.newarray .int, 2) := by decide +kernel
theorem d_EntryTable_init_9 : decode M_EntryTable_init.2.1 9 = .ok (.putfield 11, 3) := by decide +kernel
theorem d_EntryTable_init_12 : decode M_EntryTable_init.2.1 12 = .ok (.aload_n 0, 1) := by decide +kernel
theorem d_EntryTable_init_13 : decode M_EntryTable_init.2.1 13 = .ok (.iconst 0, 1) := by decide +kernel
theorem d_EntryTable_init_14 : decode M_EntryTable_init.2.1 14 = .ok (.putfield 15, 3) := by decide +kernel
theorem d_EntryTable_init_17 : decode M_EntryTable_init.2.1 17 = .ok (.return_, 1) := by decide +kernel
theorem d_Program_init_0 : decode M_Program_init.2.1 0 = .ok (.aload_n 0, 1) := by decide +kernel
theorem d_Program_init_1 : decode M_Program_init.2.1 1 = .ok (.invokespecial 1, 3) := by decide +kernel
theorem d_Program_init_4 : decode M_Program_init.2.1 4 = .ok (.aload_n 0, 1) := by decide +kernel
theorem d_Program_init_5 : decode M_Program_init.2.1 5 = .ok (.bipush 16, 2) := by decide +kernel
theorem d_Program_init_7 : decode M_Program_init.2.1 7 = .ok (.newarray .int, 2) := by decide +kernel
theorem d_Program_init_9 : decode M_Program_init.2.1 9 = .ok (.putfield 9, 3) := by decide +kernel
theorem d_Program_init_12 : decode M_Program_init.2.1 12 = .ok (.aload_n 0, 1) := by decide +kernel
theorem d_Program_init_13 : decode M_Program_init.2.1 13 = .ok (.bipush 16, 2) := by decide +kernel
theorem d_Program_init_15 : decode M_Program_init.2.1 15 = .ok (.newarray .int, 2) := by decide +kernel
theorem d_Program_init_17 : decode M_Program_init.2.1 17 = .ok (.putfield 13, 3) := by decide +kernel
theorem d_Program_init_20 : decode M_Program_init.2.1 20 = .ok (.aload_n 0, 1) := by decide +kernel
theorem d_Program_init_21 : decode M_Program_init.2.1 21 = .ok (.bipush 16, 2) := by decide +kernel
theorem d_Program_init_23 : decode M_Program_init.2.1 23 = .ok (.newarray .int, 2) := by decide +kernel
theorem d_Program_init_25 : decode M_Program_init.2.1 25 = .ok (.putfield 16, 3) := by decide +kernel
theorem d_Program_init_28 : decode M_Program_init.2.1 28 = .ok (.aload_n 0, 1) := by decide +kernel
theorem d_Program_init_29 : decode M_Program_init.2.1 29 = .ok (.bipush 16, 2) := by decide +kernel
theorem d_Program_init_31 : decode M_Program_init.2.1 31 = .ok (.newarray .int, 2) := by decide +kernel
theorem d_Program_init_33 : decode M_Program_init.2.1 33 = .ok (.putfield 19, 3) := by decide +kernel
theorem d_Program_init_36 : decode M_Program_init.2.1 36 = .ok (.aload_n 0, 1) := by decide +kernel
theorem d_Program_init_37 : decode M_Program_init.2.1 37 = .ok (.iconst 0, 1) := by decide +kernel
theorem d_Program_init_38 : decode M_Program_init.2.1 38 = .ok (.putfield 22, 3) := by decide +kernel
theorem d_Program_init_41 : decode M_Program_init.2.1 41 = .ok (.return_, 1) := by decide +kernel
theorem d_K_open_0 : decode M_K_open.2.1 0 = .ok (.iload_n 1, 1) := by decide +kernel
theorem d_K_open_1 : decode M_K_open.2.1 1 = .ok (.invokestatic 54, 3) := by decide +kernel
theorem d_K_open_4 : decode M_K_open.2.1 4 = .ok (.ifCond .eq 28, 3) := by decide +kernel
theorem d_K_open_7 : decode M_K_open.2.1 7 = .ok (.iload_n 2, 1) := by decide +kernel
theorem d_K_open_8 : decode M_K_open.2.1 8 = .ok (.ifCond .ne 12, 3) := by decide +kernel
theorem d_K_open_11 : decode M_K_open.2.1 11 = .ok (.iload_n 3, 1) := by decide +kernel
theorem d_K_open_12 : decode M_K_open.2.1 12 = .ok (.iload 4, 2) := by decide +kernel
theorem d_K_open_14 : decode M_K_open.2.1 14 = .ok (.invokestatic 58, 3) := by decide +kernel
theorem d_K_open_17 : decode M_K_open.2.1 17 = .ok (.ifCond .eq 15, 3) := by decide +kernel
theorem d_K_open_20 : decode M_K_open.2.1 20 = .ok (.aload_n 0, 1) := by decide +kernel
theorem d_K_open_21 : decode M_K_open.2.1 21 = .ok (.getfield 49, 3) := by decide +kernel
theorem d_K_open_24 : decode M_K_open.2.1 24 = .ok (.iload_n 1, 1) := by decide +kernel
theorem d_K_open_25 : decode M_K_open.2.1 25 = .ok (.aaload, 1) := by decide +kernel
theorem d_K_open_26 : decode M_K_open.2.1 26 = .ok (.getfield 62, 3) := by decide +kernel
theorem d_K_open_29 : decode M_K_open.2.1 29 = .ok (.ifCond .eq 5, 3) := by decide +kernel
theorem d_K_open_32 : decode M_K_open.2.1 32 = .ok (.iconst (-1), 1) := by decide +kernel
theorem d_K_open_33 : decode M_K_open.2.1 33 = .ok (.ireturn, 1) := by decide +kernel
theorem d_K_open_34 : decode M_K_open.2.1 34 = .ok (.aload_n 0, 1) := by decide +kernel
theorem d_K_open_35 : decode M_K_open.2.1 35 = .ok (.getfield 25, 3) := by decide +kernel
theorem d_K_open_38 : decode M_K_open.2.1 38 = .ok (.invokevirtual 66, 3) := by decide +kernel
theorem d_K_open_41 : decode M_K_open.2.1 41 = .ok (.istore 5, 2) := by decide +kernel
theorem d_K_open_43 : decode M_K_open.2.1 43 = .ok (.iload 5, 2) := by decide +kernel
theorem d_K_open_45 : decode M_K_open.2.1 45 = .ok (.iconst (-1), 1) := by decide +kernel
theorem d_K_open_46 : decode M_K_open.2.1 46 = .ok (.if_icmp .ne 6, 3) := by decide +kernel
theorem d_K_open_49 : decode M_K_open.2.1 49 = .ok (.bipush (-2), 2) := by decide +kernel
theorem d_K_open_51 : decode M_K_open.2.1 51 = .ok (.ireturn, 1) := by decide +kernel
theorem d_K_open_52 : decode M_K_open.2.1 52 = .ok (.aload_n 0, 1) := by decide +kernel
theorem d_K_open_53 : decode M_K_open.2.1 53 = .ok (.getfield 49, 3) := by decide +kernel
theorem d_K_open_56 : decode M_K_open.2.1 56 = .ok (.iload_n 1, 1) := by decide +kernel
theorem d_K_open_57 : decode M_K_open.2.1 57 = .ok (.aaload, 1) := by decide +kernel
theorem d_K_open_58 : decode M_K_open.2.1 58 = .ok (.iload_n 2, 1) := by decide +kernel
theorem d_K_open_59 : decode M_K_open.2.1 59 = .ok (.iload_n 3, 1) := by decide +kernel
theorem d_K_open_60 : decode M_K_open.2.1 60 = .ok (.iload 4, 2) := by decide +kernel
theorem d_K_open_62 : decode M_K_open.2.1 62 = .ok (.invokevirtual 70, 3) := by decide +kernel
theorem d_K_open_65 : decode M_K_open.2.1 65 = .ok (.aload_n 0, 1) := by decide +kernel
theorem d_K_open_66 : decode M_K_open.2.1 66 = .ok (.getfield 25, 3) := by decide +kernel
theorem d_K_open_69 : decode M_K_open.2.1 69 = .ok (.iload 5, 2) := by decide +kernel
theorem d_K_open_71 : decode M_K_open.2.1 71 = .ok (.iload_n 1, 1) := by decide +kernel
theorem d_K_open_72 : decode M_K_open.2.1 72 = .ok (.aload_n 0, 1) := by decide +kernel
theorem d_K_open_73 : decode M_K_open.2.1 73 = .ok (.getfield 49, 3) := by decide +kernel
theorem d_K_open_76 : decode M_K_open.2.1 76 = .ok (.iload_n 1, 1) := by decide +kernel
theorem d_K_open_77 : decode M_K_open.2.1 77 = .ok (.aaload, 1) := by decide +kernel
theorem d_K_open_78 : decode M_K_open.2.1 78 = .ok (.getfield 74, 3) := by decide +kernel
theorem d_K_open_81 : decode M_K_open.2.1 81 = .ok (.aload_n 0, 1) := by decide +kernel
theorem d_K_open_82 : decode M_K_open.2.1 82 = .ok (.getfield 49, 3) := by decide +kernel
theorem d_K_open_85 : decode M_K_open.2.1 85 = .ok (.iload_n 1, 1) := by decide +kernel
theorem d_K_open_86 : decode M_K_open.2.1 86 = .ok (.aaload, 1) := by decide +kernel
theorem d_K_open_87 : decode M_K_open.2.1 87 = .ok (.getfield 77, 3) := by decide +kernel
theorem d_K_open_90 : decode M_K_open.2.1 90 = .ok (.invokevirtual 80, 3) := by decide +kernel
theorem d_K_open_93 : decode M_K_open.2.1 93 = .ok (.iconst 0, 1) := by decide +kernel
theorem d_K_open_94 : decode M_K_open.2.1 94 = .ok (.ireturn, 1) := by decide +kernel
theorem d_K_isApp_0 : decode M_K_isApp.2.1 0 = .ok (.iload_n 0, 1) := by decide +kernel
theorem d_K_isApp_1 : decode M_K_isApp.2.1 1 = .ok (.iconst 0, 1) := by decide +kernel
theorem d_K_isApp_2 : decode M_K_isApp.2.1 2 = .ok (.iconst 5, 1) := by decide +kernel
theorem d_K_isApp_3 : decode M_K_isApp.2.1 3 = .ok (.invokestatic 108, 3) := by decide +kernel
theorem d_K_isApp_6 : decode M_K_isApp.2.1 6 = .ok (.ireturn, 1) := by decide +kernel
theorem d_K_isIn_0 : decode M_K_isIn.2.1 0 = .ok (.iload_n 0, 1) := by decide +kernel
theorem d_K_isIn_1 : decode M_K_isIn.2.1 1 = .ok (.iload_n 1, 1) := by decide +kernel
theorem d_K_isIn_2 : decode M_K_isIn.2.1 2 = .ok (.if_icmp .lt 12, 3) := by decide +kernel
theorem d_K_isIn_5 : decode M_K_isIn.2.1 5 = .ok (.iload_n 0, 1) := by decide +kernel
theorem d_K_isIn_6 : decode M_K_isIn.2.1 6 = .ok (.iload_n 2, 1) := by decide +kernel
theorem d_K_isIn_7 : decode M_K_isIn.2.1 7 = .ok (.if_icmp .gt 7, 3) := by decide +kernel
theorem d_K_isIn_10 : decode M_K_isIn.2.1 10 = .ok (.iconst 1, 1) := by decide +kernel
theorem d_K_isIn_11 : decode M_K_isIn.2.1 11 = .ok (.goto 4, 3) := by decide +kernel
theorem d_K_isIn_14 : decode M_K_isIn.2.1 14 = .ok (.iconst 0, 1) := by decide +kernel
theorem d_K_isIn_15 : decode M_K_isIn.2.1 15 = .ok (.ireturn, 1) := by decide +kernel
theorem d_K_isLayout_0 : decode M_K_isLayout.2.1 0 = .ok (.iload_n 0, 1) := by decide +kernel
theorem d_K_isLayout_1 : decode M_K_isLayout.2.1 1 = .ok (.iconst 0, 1) := by decide +kernel
theorem d_K_isLayout_2 : decode M_K_isLayout.2.1 2 = .ok (.bipush 7, 2) := by decide +kernel
theorem d_K_isLayout_4 : decode M_K_isLayout.2.1 4 = .ok (.invokestatic 108, 3) := by decide +kernel
theorem d_K_isLayout_7 : decode M_K_isLayout.2.1 7 = .ok (.ifCond .eq 19, 3) := by decide +kernel
theorem d_K_isLayout_10 : decode M_K_isLayout.2.1 10 = .ok (.iload_n 1, 1) := by decide +kernel
theorem d_K_isLayout_11 : decode M_K_isLayout.2.1 11 = .ok (.iconst 0, 1) := by decide +kernel
theorem d_K_isLayout_12 : decode M_K_isLayout.2.1 12 = .ok (.bipush 8, 2) := by decide +kernel
theorem d_K_isLayout_14 : decode M_K_isLayout.2.1 14 = .ok (.iload_n 0, 1) := by decide +kernel
theorem d_K_isLayout_15 : decode M_K_isLayout.2.1 15 = .ok (.isub, 1) := by decide +kernel
theorem d_K_isLayout_16 : decode M_K_isLayout.2.1 16 = .ok (.invokestatic 108, 3) := by decide +kernel
theorem d_K_isLayout_19 : decode M_K_isLayout.2.1 19 = .ok (.ifCond .eq 7, 3) := by decide +kernel
theorem d_K_isLayout_22 : decode M_K_isLayout.2.1 22 = .ok (.iconst 1, 1) := by decide +kernel
theorem d_K_isLayout_23 : decode M_K_isLayout.2.1 23 = .ok (.goto 4, 3) := by decide +kernel
theorem d_K_isLayout_26 : decode M_K_isLayout.2.1 26 = .ok (.iconst 0, 1) := by decide +kernel
theorem d_K_isLayout_27 : decode M_K_isLayout.2.1 27 = .ok (.ireturn, 1) := by decide +kernel
theorem d_Disk_leastFree_0 : decode M_Disk_leastFree.2.1 0 = .ok (.iconst 0, 1) := by decide +kernel
theorem d_Disk_leastFree_1 : decode M_Disk_leastFree.2.1 1 = .ok (.istore_n 1, 1) := by decide +kernel
theorem d_Disk_leastFree_2 : decode M_Disk_leastFree.2.1 2 = .ok (.iload_n 1, 1) := by decide +kernel
theorem d_Disk_leastFree_3 : decode M_Disk_leastFree.2.1 3 = .ok (.aload_n 0, 1) := by decide +kernel
theorem d_Disk_leastFree_4 : decode M_Disk_leastFree.2.1 4 = .ok (.getfield 9, 3) := by decide +kernel
theorem d_Disk_leastFree_7 : decode M_Disk_leastFree.2.1 7 = .ok (.if_icmp .ge 19, 3) := by decide +kernel
theorem d_Disk_leastFree_10 : decode M_Disk_leastFree.2.1 10 = .ok (.aload_n 0, 1) := by decide +kernel
theorem d_Disk_leastFree_11 : decode M_Disk_leastFree.2.1 11 = .ok (.iload_n 1, 1) := by decide +kernel
theorem d_Disk_leastFree_12 : decode M_Disk_leastFree.2.1 12 = .ok (.invokevirtual 22, 3) := by decide +kernel
theorem d_Disk_leastFree_15 : decode M_Disk_leastFree.2.1 15 = .ok (.ifCond .eq 5, 3) := by decide +kernel
theorem d_Disk_leastFree_18 : decode M_Disk_leastFree.2.1 18 = .ok (.iload_n 1, 1) := by decide +kernel
theorem d_Disk_leastFree_19 : decode M_Disk_leastFree.2.1 19 = .ok (.ireturn, 1) := by decide +kernel
theorem d_Disk_leastFree_20 : decode M_Disk_leastFree.2.1 20 = .ok (.iinc 1 1, 3) := by decide +kernel
theorem d_Disk_leastFree_23 : decode M_Disk_leastFree.2.1 23 = .ok (.goto (-21), 3) := by decide +kernel
theorem d_Disk_leastFree_26 : decode M_Disk_leastFree.2.1 26 = .ok (.iconst (-1), 1) := by decide +kernel
theorem d_Disk_leastFree_27 : decode M_Disk_leastFree.2.1 27 = .ok (.ireturn, 1) := by decide +kernel
theorem d_Disk_isFree_0 : decode M_Disk_isFree.2.1 0 = .ok (.aload_n 0, 1) := by decide +kernel
theorem d_Disk_isFree_1 : decode M_Disk_isFree.2.1 1 = .ok (.getfield 19, 3) := by decide +kernel
theorem d_Disk_isFree_4 : decode M_Disk_isFree.2.1 4 = .ok (.iload_n 1, 1) := by decide +kernel
theorem d_Disk_isFree_5 : decode M_Disk_isFree.2.1 5 = .ok (.iaload, 1) := by decide +kernel
theorem d_Disk_isFree_6 : decode M_Disk_isFree.2.1 6 = .ok (.iconst (-1), 1) := by decide +kernel
theorem d_Disk_isFree_7 : decode M_Disk_isFree.2.1 7 = .ok (.if_icmp .ne 7, 3) := by decide +kernel
theorem d_Disk_isFree_10 : decode M_Disk_isFree.2.1 10 = .ok (.iconst 1, 1) := by decide +kernel
theorem d_Disk_isFree_11 : decode M_Disk_isFree.2.1 11 = .ok (.goto 4, 3) := by decide +kernel
theorem d_Disk_isFree_14 : decode M_Disk_isFree.2.1 14 = .ok (.iconst 0, 1) := by decide +kernel
theorem d_Disk_isFree_15 : decode M_Disk_isFree.2.1 15 = .ok (.ireturn, 1) := by decide +kernel
theorem d_Application_begin_0 : decode M_Application_begin.2.1 0 = .ok (.aload_n 0, 1) := by decide +kernel
theorem d_Application_begin_1 : decode M_Application_begin.2.1 1 = .ok (.iconst 1, 1) := by decide +kernel
theorem d_Application_begin_2 : decode M_Application_begin.2.1 2 = .ok (.putfield 40, 3) := by decide +kernel
theorem d_Application_begin_5 : decode M_Application_begin.2.1 5 = .ok (.aload_n 0, 1) := by decide +kernel
theorem d_Application_begin_6 : decode M_Application_begin.2.1 6 = .ok (.iload_n 1, 1) := by decide +kernel
theorem d_Application_begin_7 : decode M_Application_begin.2.1 7 = .ok (.putfield 44, 3) := by decide +kernel
theorem d_Application_begin_10 : decode M_Application_begin.2.1 10 = .ok (.aload_n 0, 1) := by decide +kernel
theorem d_Application_begin_11 : decode M_Application_begin.2.1 11 = .ok (.iload_n 1, 1) := by decide +kernel
theorem d_Application_begin_12 : decode M_Application_begin.2.1 12 = .ok (.ifCond .eq 7, 3) := by decide +kernel
theorem d_Application_begin_15 : decode M_Application_begin.2.1 15 = .ok (.iconst 0, 1) := by decide +kernel
theorem d_Application_begin_16 : decode M_Application_begin.2.1 16 = .ok (.goto 4, 3) := by decide +kernel
theorem d_Application_begin_19 : decode M_Application_begin.2.1 19 = .ok (.iload_n 2, 1) := by decide +kernel
theorem d_Application_begin_20 : decode M_Application_begin.2.1 20 = .ok (.putfield 47, 3) := by decide +kernel
theorem d_Application_begin_23 : decode M_Application_begin.2.1 23 = .ok (.aload_n 0, 1) := by decide +kernel
theorem d_Application_begin_24 : decode M_Application_begin.2.1 24 = .ok (.iload_n 1, 1) := by decide +kernel
theorem d_Application_begin_25 : decode M_Application_begin.2.1 25 = .ok (.ifCond .eq 7, 3) := by decide +kernel
theorem d_Application_begin_28 : decode M_Application_begin.2.1 28 = .ok (.iconst 0, 1) := by decide +kernel
theorem d_Application_begin_29 : decode M_Application_begin.2.1 29 = .ok (.goto 4, 3) := by decide +kernel
theorem d_Application_begin_32 : decode M_Application_begin.2.1 32 = .ok (.iload_n 3, 1) := by decide +kernel
theorem d_Application_begin_33 : decode M_Application_begin.2.1 33 = .ok (.putfield 51, 3) := by decide +kernel
theorem d_Application_begin_36 : decode M_Application_begin.2.1 36 = .ok (.aload_n 0, 1) := by decide +kernel
theorem d_Application_begin_37 : decode M_Application_begin.2.1 37 = .ok (.getfield 10, 3) := by decide +kernel
theorem d_Application_begin_40 : decode M_Application_begin.2.1 40 = .ok (.invokevirtual 54, 3) := by decide +kernel
theorem d_Application_begin_43 : decode M_Application_begin.2.1 43 = .ok (.return_, 1) := by decide +kernel
theorem d_PageList_clear_0 : decode M_PageList_clear.2.1 0 = .ok (.aload_n 0, 1) := by decide +kernel
theorem d_PageList_clear_1 : decode M_PageList_clear.2.1 1 = .ok (.iconst 0, 1) := by decide +kernel
theorem d_PageList_clear_2 : decode M_PageList_clear.2.1 2 = .ok (.putfield 13, 3) := by decide +kernel
theorem d_PageList_clear_5 : decode M_PageList_clear.2.1 5 = .ok (.aload_n 0, 1) := by decide +kernel
theorem d_PageList_clear_6 : decode M_PageList_clear.2.1 6 = .ok (.iconst 0, 1) := by decide +kernel
theorem d_PageList_clear_7 : decode M_PageList_clear.2.1 7 = .ok (.putfield 17, 3) := by decide +kernel
theorem d_PageList_clear_10 : decode M_PageList_clear.2.1 10 = .ok (.return_, 1) := by decide +kernel
theorem d_Disk_bind_0 : decode M_Disk_bind.2.1 0 = .ok (.aload_n 0, 1) := by decide +kernel
theorem d_Disk_bind_1 : decode M_Disk_bind.2.1 1 = .ok (.getfield 19, 3) := by decide +kernel
theorem d_Disk_bind_4 : decode M_Disk_bind.2.1 4 = .ok (.iload_n 1, 1) := by decide +kernel
theorem d_Disk_bind_5 : decode M_Disk_bind.2.1 5 = .ok (.iload_n 2, 1) := by decide +kernel
theorem d_Disk_bind_6 : decode M_Disk_bind.2.1 6 = .ok (.iastore, 1) := by decide +kernel
theorem d_Disk_bind_7 : decode M_Disk_bind.2.1 7 = .ok (.iconst 0, 1) := by decide +kernel
theorem d_Disk_bind_8 : decode M_Disk_bind.2.1 8 = .ok (.istore 5, 2) := by decide +kernel
theorem d_Disk_bind_10 : decode M_Disk_bind.2.1 10 = .ok (.iload 5, 2) := by decide +kernel
theorem d_Disk_bind_12 : decode M_Disk_bind.2.1 12 = .ok (.bipush 8, 2) := by decide +kernel
theorem d_Disk_bind_14 : decode M_Disk_bind.2.1 14 = .ok (.if_icmp .ge 48, 3) := by decide +kernel
theorem d_Disk_bind_17 : decode M_Disk_bind.2.1 17 = .ok (.iload 5, 2) := by decide +kernel
theorem d_Disk_bind_19 : decode M_Disk_bind.2.1 19 = .ok (.iload_n 3, 1) := by decide +kernel
theorem d_Disk_bind_20 : decode M_Disk_bind.2.1 20 = .ok (.if_icmp .lt 16, 3) := by decide +kernel
theorem d_Disk_bind_23 : decode M_Disk_bind.2.1 23 = .ok (.iload 5, 2) := by decide +kernel
theorem d_Disk_bind_25 : decode M_Disk_bind.2.1 25 = .ok (.iload_n 3, 1) := by decide +kernel
theorem d_Disk_bind_26 : decode M_Disk_bind.2.1 26 = .ok (.iload 4, 2) := by decide +kernel
theorem d_Disk_bind_28 : decode M_Disk_bind.2.1 28 = .ok (.iadd, 1) := by decide +kernel
theorem d_Disk_bind_29 : decode M_Disk_bind.2.1 29 = .ok (.if_icmp .ge 7, 3) := by decide +kernel
theorem d_Disk_bind_32 : decode M_Disk_bind.2.1 32 = .ok (.iconst 1, 1) := by decide +kernel
theorem d_Disk_bind_33 : decode M_Disk_bind.2.1 33 = .ok (.goto 4, 3) := by decide +kernel
theorem d_Disk_bind_36 : decode M_Disk_bind.2.1 36 = .ok (.iconst 0, 1) := by decide +kernel
theorem d_Disk_bind_37 : decode M_Disk_bind.2.1 37 = .ok (.istore 6, 2) := by decide +kernel
theorem d_Disk_bind_39 : decode M_Disk_bind.2.1 39 = .ok (.aload_n 0, 1) := by decide +kernel
theorem d_Disk_bind_40 : decode M_Disk_bind.2.1 40 = .ok (.iload_n 1, 1) := by decide +kernel
theorem d_Disk_bind_41 : decode M_Disk_bind.2.1 41 = .ok (.iload 5, 2) := by decide +kernel
theorem d_Disk_bind_43 : decode M_Disk_bind.2.1 43 = .ok (.iload 6, 2) := by decide +kernel
theorem d_Disk_bind_45 : decode M_Disk_bind.2.1 45 = .ok (.ifCond .eq 7, 3) := by decide +kernel
theorem d_Disk_bind_48 : decode M_Disk_bind.2.1 48 = .ok (.iconst (-1), 1) := by decide +kernel
theorem d_Disk_bind_49 : decode M_Disk_bind.2.1 49 = .ok (.goto 4, 3) := by decide +kernel
theorem d_Disk_bind_52 : decode M_Disk_bind.2.1 52 = .ok (.iconst 0, 1) := by decide +kernel
theorem d_Disk_bind_53 : decode M_Disk_bind.2.1 53 = .ok (.invokevirtual 26, 3) := by decide +kernel
theorem d_Disk_bind_56 : decode M_Disk_bind.2.1 56 = .ok (.iinc 5 1, 3) := by decide +kernel
theorem d_Disk_bind_59 : decode M_Disk_bind.2.1 59 = .ok (.goto (-49), 3) := by decide +kernel
theorem d_Disk_bind_62 : decode M_Disk_bind.2.1 62 = .ok (.return_, 1) := by decide +kernel
theorem d_Disk_setWord_0 : decode M_Disk_setWord.2.1 0 = .ok (.aload_n 0, 1) := by decide +kernel
theorem d_Disk_setWord_1 : decode M_Disk_setWord.2.1 1 = .ok (.getfield 15, 3) := by decide +kernel
theorem d_Disk_setWord_4 : decode M_Disk_setWord.2.1 4 = .ok (.iload_n 1, 1) := by decide +kernel
theorem d_Disk_setWord_5 : decode M_Disk_setWord.2.1 5 = .ok (.bipush 8, 2) := by decide +kernel
theorem d_Disk_setWord_7 : decode M_Disk_setWord.2.1 7 = .ok (.imul, 1) := by decide +kernel
theorem d_Disk_setWord_8 : decode M_Disk_setWord.2.1 8 = .ok (.iload_n 2, 1) := by decide +kernel
theorem d_Disk_setWord_9 : decode M_Disk_setWord.2.1 9 = .ok (.iadd, 1) := by decide +kernel
theorem d_Disk_setWord_10 : decode M_Disk_setWord.2.1 10 = .ok (.iload_n 3, 1) := by decide +kernel
theorem d_Disk_setWord_11 : decode M_Disk_setWord.2.1 11 = .ok (.iastore, 1) := by decide +kernel
theorem d_Disk_setWord_12 : decode M_Disk_setWord.2.1 12 = .ok (.return_, 1) := by decide +kernel
theorem d_K_close_0 : decode M_K_close.2.1 0 = .ok (.aload_n 0, 1) := by decide +kernel
theorem d_K_close_1 : decode M_K_close.2.1 1 = .ok (.iload_n 1, 1) := by decide +kernel
theorem d_K_close_2 : decode M_K_close.2.1 2 = .ok (.invokevirtual 84, 3) := by decide +kernel
theorem d_K_close_5 : decode M_K_close.2.1 5 = .ok (.ifCond .ne 5, 3) := by decide +kernel
theorem d_K_close_8 : decode M_K_close.2.1 8 = .ok (.iconst (-1), 1) := by decide +kernel
theorem d_K_close_9 : decode M_K_close.2.1 9 = .ok (.ireturn, 1) := by decide +kernel
theorem d_K_close_10 : decode M_K_close.2.1 10 = .ok (.aload_n 0, 1) := by decide +kernel
theorem d_K_close_11 : decode M_K_close.2.1 11 = .ok (.getfield 18, 3) := by decide +kernel
theorem d_K_close_14 : decode M_K_close.2.1 14 = .ok (.iload_n 1, 1) := by decide +kernel
theorem d_K_close_15 : decode M_K_close.2.1 15 = .ok (.invokevirtual 86, 3) := by decide +kernel
theorem d_K_close_18 : decode M_K_close.2.1 18 = .ok (.aload_n 0, 1) := by decide +kernel
theorem d_K_close_19 : decode M_K_close.2.1 19 = .ok (.getfield 25, 3) := by decide +kernel
theorem d_K_close_22 : decode M_K_close.2.1 22 = .ok (.iload_n 1, 1) := by decide +kernel
theorem d_K_close_23 : decode M_K_close.2.1 23 = .ok (.invokevirtual 89, 3) := by decide +kernel
theorem d_K_close_26 : decode M_K_close.2.1 26 = .ok (.aload_n 0, 1) := by decide +kernel
theorem d_K_close_27 : decode M_K_close.2.1 27 = .ok (.getfield 32, 3) := by decide +kernel
theorem d_K_close_30 : decode M_K_close.2.1 30 = .ok (.iload_n 1, 1) := by decide +kernel
theorem d_K_close_31 : decode M_K_close.2.1 31 = .ok (.invokevirtual 92, 3) := by decide +kernel
theorem d_K_close_34 : decode M_K_close.2.1 34 = .ok (.aload_n 0, 1) := by decide +kernel
theorem d_K_close_35 : decode M_K_close.2.1 35 = .ok (.getfield 49, 3) := by decide +kernel
theorem d_K_close_38 : decode M_K_close.2.1 38 = .ok (.iload_n 1, 1) := by decide +kernel
theorem d_K_close_39 : decode M_K_close.2.1 39 = .ok (.aaload, 1) := by decide +kernel
theorem d_K_close_40 : decode M_K_close.2.1 40 = .ok (.invokevirtual 95, 3) := by decide +kernel
theorem d_K_close_43 : decode M_K_close.2.1 43 = .ok (.iconst 0, 1) := by decide +kernel
theorem d_K_close_44 : decode M_K_close.2.1 44 = .ok (.ireturn, 1) := by decide +kernel
theorem d_K_isOpen_0 : decode M_K_isOpen.2.1 0 = .ok (.iload_n 1, 1) := by decide +kernel
theorem d_K_isOpen_1 : decode M_K_isOpen.2.1 1 = .ok (.invokestatic 54, 3) := by decide +kernel
theorem d_K_isOpen_4 : decode M_K_isOpen.2.1 4 = .ok (.ifCond .eq 19, 3) := by decide +kernel
theorem d_K_isOpen_7 : decode M_K_isOpen.2.1 7 = .ok (.aload_n 0, 1) := by decide +kernel
theorem d_K_isOpen_8 : decode M_K_isOpen.2.1 8 = .ok (.getfield 49, 3) := by decide +kernel
theorem d_K_isOpen_11 : decode M_K_isOpen.2.1 11 = .ok (.iload_n 1, 1) := by decide +kernel
theorem d_K_isOpen_12 : decode M_K_isOpen.2.1 12 = .ok (.aaload, 1) := by decide +kernel
theorem d_K_isOpen_13 : decode M_K_isOpen.2.1 13 = .ok (.getfield 62, 3) := by decide +kernel
theorem d_K_isOpen_16 : decode M_K_isOpen.2.1 16 = .ok (.ifCond .eq 7, 3) := by decide +kernel
theorem d_K_isOpen_19 : decode M_K_isOpen.2.1 19 = .ok (.iconst 1, 1) := by decide +kernel
theorem d_K_isOpen_20 : decode M_K_isOpen.2.1 20 = .ok (.goto 4, 3) := by decide +kernel
theorem d_K_isOpen_23 : decode M_K_isOpen.2.1 23 = .ok (.iconst 0, 1) := by decide +kernel
theorem d_K_isOpen_24 : decode M_K_isOpen.2.1 24 = .ok (.ireturn, 1) := by decide +kernel
theorem d_Memory_forget_0 : decode M_Memory_forget.2.1 0 = .ok (.iconst 0, 1) := by decide +kernel
theorem d_Memory_forget_1 : decode M_Memory_forget.2.1 1 = .ok (.istore_n 2, 1) := by decide +kernel
theorem d_Memory_forget_2 : decode M_Memory_forget.2.1 2 = .ok (.iload_n 2, 1) := by decide +kernel
theorem d_Memory_forget_3 : decode M_Memory_forget.2.1 3 = .ok (.aload_n 0, 1) := by decide +kernel
theorem d_Memory_forget_4 : decode M_Memory_forget.2.1 4 = .ok (.getfield 9, 3) := by decide +kernel
theorem d_Memory_forget_7 : decode M_Memory_forget.2.1 7 = .ok (.if_icmp .ge 31, 3) := by decide +kernel
theorem d_Memory_forget_10 : decode M_Memory_forget.2.1 10 = .ok (.aload_n 0, 1) := by decide +kernel
theorem d_Memory_forget_11 : decode M_Memory_forget.2.1 11 = .ok (.iload_n 2, 1) := by decide +kernel
theorem d_Memory_forget_12 : decode M_Memory_forget.2.1 12 = .ok (.iload_n 1, 1) := by decide +kernel
theorem d_Memory_forget_13 : decode M_Memory_forget.2.1 13 = .ok (.iconst 0, 1) := by decide +kernel
theorem d_Memory_forget_14 : decode M_Memory_forget.2.1 14 = .ok (.invokevirtual 45, 3) := by decide +kernel
theorem d_Memory_forget_17 : decode M_Memory_forget.2.1 17 = .ok (.aload_n 0, 1) := by decide +kernel
theorem d_Memory_forget_18 : decode M_Memory_forget.2.1 18 = .ok (.getfield 19, 3) := by decide +kernel
theorem d_Memory_forget_21 : decode M_Memory_forget.2.1 21 = .ok (.iload_n 2, 1) := by decide +kernel
theorem d_Memory_forget_22 : decode M_Memory_forget.2.1 22 = .ok (.iaload, 1) := by decide +kernel
theorem d_Memory_forget_23 : decode M_Memory_forget.2.1 23 = .ok (.iload_n 1, 1) := by decide +kernel
theorem d_Memory_forget_24 : decode M_Memory_forget.2.1 24 = .ok (.if_icmp .ne 8, 3) := by decide +kernel
theorem d_Memory_forget_27 : decode M_Memory_forget.2.1 27 = .ok (.aload_n 0, 1) := by decide +kernel
theorem d_Memory_forget_28 : decode M_Memory_forget.2.1 28 = .ok (.iload_n 2, 1) := by decide +kernel
theorem d_Memory_forget_29 : decode M_Memory_forget.2.1 29 = .ok (.invokevirtual 48, 3) := by decide +kernel
theorem d_Memory_forget_32 : decode M_Memory_forget.2.1 32 = .ok (.iinc 2 1, 3) := by decide +kernel
theorem d_Memory_forget_35 : decode M_Memory_forget.2.1 35 = .ok (.goto (-33), 3) := by decide +kernel
theorem d_Memory_forget_38 : decode M_Memory_forget.2.1 38 = .ok (.return_, 1) := by decide +kernel
theorem d_Memory_setRight_0 : decode M_Memory_setRight.2.1 0 = .ok (.aload_n 0, 1) := by decide +kernel
theorem d_Memory_setRight_1 : decode M_Memory_setRight.2.1 1 = .ok (.getfield 22, 3) := by decide +kernel
theorem d_Memory_setRight_4 : decode M_Memory_setRight.2.1 4 = .ok (.iload_n 1, 1) := by decide +kernel
theorem d_Memory_setRight_5 : decode M_Memory_setRight.2.1 5 = .ok (.bipush 6, 2) := by decide +kernel
theorem d_Memory_setRight_7 : decode M_Memory_setRight.2.1 7 = .ok (.imul, 1) := by decide +kernel
theorem d_Memory_setRight_8 : decode M_Memory_setRight.2.1 8 = .ok (.iload_n 2, 1) := by decide +kernel
theorem d_Memory_setRight_9 : decode M_Memory_setRight.2.1 9 = .ok (.iadd, 1) := by decide +kernel
theorem d_Memory_setRight_10 : decode M_Memory_setRight.2.1 10 = .ok (.iload_n 3, 1) := by decide +kernel
theorem d_Memory_setRight_11 : decode M_Memory_setRight.2.1 11 = .ok (.iastore, 1) := by decide +kernel
theorem d_Memory_setRight_12 : decode M_Memory_setRight.2.1 12 = .ok (.return_, 1) := by decide +kernel
theorem d_Memory_free_0 : decode M_Memory_free.2.1 0 = .ok (.aload_n 0, 1) := by decide +kernel
theorem d_Memory_free_1 : decode M_Memory_free.2.1 1 = .ok (.getfield 19, 3) := by decide +kernel
theorem d_Memory_free_4 : decode M_Memory_free.2.1 4 = .ok (.iload_n 1, 1) := by decide +kernel
theorem d_Memory_free_5 : decode M_Memory_free.2.1 5 = .ok (.iconst (-1), 1) := by decide +kernel
theorem d_Memory_free_6 : decode M_Memory_free.2.1 6 = .ok (.iastore, 1) := by decide +kernel
theorem d_Memory_free_7 : decode M_Memory_free.2.1 7 = .ok (.aload_n 0, 1) := by decide +kernel
theorem d_Memory_free_8 : decode M_Memory_free.2.1 8 = .ok (.getfield 28, 3) := by decide +kernel
theorem d_Memory_free_11 : decode M_Memory_free.2.1 11 = .ok (.iload_n 1, 1) := by decide +kernel
theorem d_Memory_free_12 : decode M_Memory_free.2.1 12 = .ok (.iconst 0, 1) := by decide +kernel
theorem d_Memory_free_13 : decode M_Memory_free.2.1 13 = .ok (.bastore, 1) := by decide +kernel
theorem d_Memory_free_14 : decode M_Memory_free.2.1 14 = .ok (.iconst 0, 1) := by decide +kernel
theorem d_Memory_free_15 : decode M_Memory_free.2.1 15 = .ok (.istore_n 2, 1) := by decide +kernel
theorem d_Memory_free_16 : decode M_Memory_free.2.1 16 = .ok (.iload_n 2, 1) := by decide +kernel
theorem d_Memory_free_17 : decode M_Memory_free.2.1 17 = .ok (.bipush 6, 2) := by decide +kernel
theorem d_Memory_free_19 : decode M_Memory_free.2.1 19 = .ok (.if_icmp .ge 16, 3) := by decide +kernel
theorem d_Memory_free_22 : decode M_Memory_free.2.1 22 = .ok (.aload_n 0, 1) := by decide +kernel
theorem d_Memory_free_23 : decode M_Memory_free.2.1 23 = .ok (.iload_n 1, 1) := by decide +kernel
theorem d_Memory_free_24 : decode M_Memory_free.2.1 24 = .ok (.iload_n 2, 1) := by decide +kernel
theorem d_Memory_free_25 : decode M_Memory_free.2.1 25 = .ok (.iconst 0, 1) := by decide +kernel
theorem d_Memory_free_26 : decode M_Memory_free.2.1 26 = .ok (.invokevirtual 45, 3) := by decide +kernel
theorem d_Memory_free_29 : decode M_Memory_free.2.1 29 = .ok (.iinc 2 1, 3) := by decide +kernel
theorem d_Memory_free_32 : decode M_Memory_free.2.1 32 = .ok (.goto (-16), 3) := by decide +kernel
theorem d_Memory_free_35 : decode M_Memory_free.2.1 35 = .ok (.return_, 1) := by decide +kernel
theorem d_Disk_freeAllOf_0 : decode M_Disk_freeAllOf.2.1 0 = .ok (.iconst 0, 1) := by decide +kernel
theorem d_Disk_freeAllOf_1 : decode M_Disk_freeAllOf.2.1 1 = .ok (.istore_n 2, 1) := by decide +kernel
theorem d_Disk_freeAllOf_2 : decode M_Disk_freeAllOf.2.1 2 = .ok (.iload_n 2, 1) := by decide +kernel
theorem d_Disk_freeAllOf_3 : decode M_Disk_freeAllOf.2.1 3 = .ok (.aload_n 0, 1) := by decide +kernel
theorem d_Disk_freeAllOf_4 : decode M_Disk_freeAllOf.2.1 4 = .ok (.getfield 9, 3) := by decide +kernel
theorem d_Disk_freeAllOf_7 : decode M_Disk_freeAllOf.2.1 7 = .ok (.if_icmp .ge 24, 3) := by decide +kernel
theorem d_Disk_freeAllOf_10 : decode M_Disk_freeAllOf.2.1 10 = .ok (.aload_n 0, 1) := by decide +kernel
theorem d_Disk_freeAllOf_11 : decode M_Disk_freeAllOf.2.1 11 = .ok (.getfield 19, 3) := by decide +kernel
theorem d_Disk_freeAllOf_14 : decode M_Disk_freeAllOf.2.1 14 = .ok (.iload_n 2, 1) := by decide +kernel
theorem d_Disk_freeAllOf_15 : decode M_Disk_freeAllOf.2.1 15 = .ok (.iaload, 1) := by decide +kernel
theorem d_Disk_freeAllOf_16 : decode M_Disk_freeAllOf.2.1 16 = .ok (.iload_n 1, 1) := by decide +kernel
theorem d_Disk_freeAllOf_17 : decode M_Disk_freeAllOf.2.1 17 = .ok (.if_icmp .ne 8, 3) := by decide +kernel
theorem d_Disk_freeAllOf_20 : decode M_Disk_freeAllOf.2.1 20 = .ok (.aload_n 0, 1) := by decide +kernel
theorem d_Disk_freeAllOf_21 : decode M_Disk_freeAllOf.2.1 21 = .ok (.iload_n 2, 1) := by decide +kernel
theorem d_Disk_freeAllOf_22 : decode M_Disk_freeAllOf.2.1 22 = .ok (.invokevirtual 30, 3) := by decide +kernel
theorem d_Disk_freeAllOf_25 : decode M_Disk_freeAllOf.2.1 25 = .ok (.iinc 2 1, 3) := by decide +kernel
theorem d_Disk_freeAllOf_28 : decode M_Disk_freeAllOf.2.1 28 = .ok (.goto (-26), 3) := by decide +kernel
theorem d_Disk_freeAllOf_31 : decode M_Disk_freeAllOf.2.1 31 = .ok (.return_, 1) := by decide +kernel
theorem d_Disk_free_0 : decode M_Disk_free.2.1 0 = .ok (.aload_n 0, 1) := by decide +kernel
theorem d_Disk_free_1 : decode M_Disk_free.2.1 1 = .ok (.getfield 19, 3) := by decide +kernel
theorem d_Disk_free_4 : decode M_Disk_free.2.1 4 = .ok (.iload_n 1, 1) := by decide +kernel
theorem d_Disk_free_5 : decode M_Disk_free.2.1 5 = .ok (.iconst (-1), 1) := by decide +kernel
theorem d_Disk_free_6 : decode M_Disk_free.2.1 6 = .ok (.iastore, 1) := by decide +kernel
theorem d_Disk_free_7 : decode M_Disk_free.2.1 7 = .ok (.return_, 1) := by decide +kernel
theorem d_FilterOrder_drop_0 : decode M_FilterOrder_drop.2.1 0 = .ok (.aload_n 0, 1) := by decide +kernel
theorem d_FilterOrder_drop_1 : decode M_FilterOrder_drop.2.1 1 = .ok (.iload_n 1, 1) := by decide +kernel
theorem d_FilterOrder_drop_2 : decode M_FilterOrder_drop.2.1 2 = .ok (.invokevirtual 19, 3) := by decide +kernel
theorem d_FilterOrder_drop_5 : decode M_FilterOrder_drop.2.1 5 = .ok (.istore_n 2, 1) := by decide +kernel
theorem d_FilterOrder_drop_6 : decode M_FilterOrder_drop.2.1 6 = .ok (.iload_n 2, 1) := by decide +kernel
theorem d_FilterOrder_drop_7 : decode M_FilterOrder_drop.2.1 7 = .ok (.iconst (-1), 1) := by decide +kernel
theorem d_FilterOrder_drop_8 : decode M_FilterOrder_drop.2.1 8 = .ok (.if_icmp .ne 4, 3) := by decide +kernel
theorem d_FilterOrder_drop_11 : decode M_FilterOrder_drop.2.1 11 = .ok (.return_, 1) := by decide +kernel
theorem d_FilterOrder_drop_12 : decode M_FilterOrder_drop.2.1 12 = .ok (.aload_n 0, 1) := by decide +kernel
theorem d_FilterOrder_drop_13 : decode M_FilterOrder_drop.2.1 13 = .ok (.dup, 1) := by decide +kernel
theorem d_FilterOrder_drop_14 : decode M_FilterOrder_drop.2.1 14 = .ok (.getfield 15, 3) := by decide +kernel
theorem d_FilterOrder_drop_17 : decode M_FilterOrder_drop.2.1 17 = .ok (.iconst 1, 1) := by decide +kernel
theorem d_FilterOrder_drop_18 : decode M_FilterOrder_drop.2.1 18 = .ok (.isub, 1) := by decide +kernel
theorem d_FilterOrder_drop_19 : decode M_FilterOrder_drop.2.1 19 = .ok (.putfield 15, 3) := by decide +kernel
theorem d_FilterOrder_drop_22 : decode M_FilterOrder_drop.2.1 22 = .ok (.iload_n 2, 1) := by decide +kernel
theorem d_FilterOrder_drop_23 : decode M_FilterOrder_drop.2.1 23 = .ok (.istore_n 3, 1) := by decide +kernel
theorem d_FilterOrder_drop_24 : decode M_FilterOrder_drop.2.1 24 = .ok (.iload_n 3, 1) := by decide +kernel
theorem d_FilterOrder_drop_25 : decode M_FilterOrder_drop.2.1 25 = .ok (.aload_n 0, 1) := by decide +kernel
theorem d_FilterOrder_drop_26 : decode M_FilterOrder_drop.2.1 26 = .ok (.getfield 15, 3) := by decide +kernel
theorem d_FilterOrder_drop_29 : decode M_FilterOrder_drop.2.1 29 = .ok (.if_icmp .ge 23, 3) := by decide +kernel
theorem d_FilterOrder_drop_32 : decode M_FilterOrder_drop.2.1 32 = .ok (.aload_n 0, 1) := by decide +kernel
theorem d_FilterOrder_drop_33 : decode M_FilterOrder_drop.2.1 33 = .ok (.getfield 9, 3) := by decide +kernel
theorem d_FilterOrder_drop_36 : decode M_FilterOrder_drop.2.1 36 = .ok (.iload_n 3, 1) := by decide +kernel
theorem d_FilterOrder_drop_37 : decode M_FilterOrder_drop.2.1 37 = .ok (.aload_n 0, 1) := by decide +kernel
theorem d_FilterOrder_drop_38 : decode M_FilterOrder_drop.2.1 38 = .ok (.getfield 9, 3) := by decide +kernel
theorem d_FilterOrder_drop_41 : decode M_FilterOrder_drop.2.1 41 = .ok (.iload_n 3, 1) := by decide +kernel
theorem d_FilterOrder_drop_42 : decode M_FilterOrder_drop.2.1 42 = .ok (.iconst 1, 1) := by decide +kernel
theorem d_FilterOrder_drop_43 : decode M_FilterOrder_drop.2.1 43 = .ok (.iadd, 1) := by decide +kernel
theorem d_FilterOrder_drop_44 : decode M_FilterOrder_drop.2.1 44 = .ok (.iaload, 1) := by decide +kernel
theorem d_FilterOrder_drop_45 : decode M_FilterOrder_drop.2.1 45 = .ok (.iastore, 1) := by decide +kernel
theorem d_FilterOrder_drop_46 : decode M_FilterOrder_drop.2.1 46 = .ok (.iinc 3 1, 3) := by decide +kernel
theorem d_FilterOrder_drop_49 : decode M_FilterOrder_drop.2.1 49 = .ok (.goto (-25), 3) := by decide +kernel
theorem d_FilterOrder_drop_52 : decode M_FilterOrder_drop.2.1 52 = .ok (.return_, 1) := by decide +kernel
theorem d_FilterOrder_placeOf_0 : decode M_FilterOrder_placeOf.2.1 0 = .ok (.iconst 0, 1) := by decide +kernel
theorem d_FilterOrder_placeOf_1 : decode M_FilterOrder_placeOf.2.1 1 = .ok (.istore_n 2, 1) := by decide +kernel
theorem d_FilterOrder_placeOf_2 : decode M_FilterOrder_placeOf.2.1 2 = .ok (.iload_n 2, 1) := by decide +kernel
theorem d_FilterOrder_placeOf_3 : decode M_FilterOrder_placeOf.2.1 3 = .ok (.aload_n 0, 1) := by decide +kernel
theorem d_FilterOrder_placeOf_4 : decode M_FilterOrder_placeOf.2.1 4 = .ok (.getfield 15, 3) := by decide +kernel
theorem d_FilterOrder_placeOf_7 : decode M_FilterOrder_placeOf.2.1 7 = .ok (.if_icmp .ge 21, 3) := by decide +kernel
theorem d_FilterOrder_placeOf_10 : decode M_FilterOrder_placeOf.2.1 10 = .ok (.aload_n 0, 1) := by decide +kernel
theorem d_FilterOrder_placeOf_11 : decode M_FilterOrder_placeOf.2.1 11 = .ok (.getfield 9, 3) := by decide +kernel
theorem d_FilterOrder_placeOf_14 : decode M_FilterOrder_placeOf.2.1 14 = .ok (.iload_n 2, 1) := by decide +kernel
theorem d_FilterOrder_placeOf_15 : decode M_FilterOrder_placeOf.2.1 15 = .ok (.iaload, 1) := by decide +kernel
theorem d_FilterOrder_placeOf_16 : decode M_FilterOrder_placeOf.2.1 16 = .ok (.iload_n 1, 1) := by decide +kernel
theorem d_FilterOrder_placeOf_17 : decode M_FilterOrder_placeOf.2.1 17 = .ok (.if_icmp .ne 5, 3) := by decide +kernel
theorem d_FilterOrder_placeOf_20 : decode M_FilterOrder_placeOf.2.1 20 = .ok (.iload_n 2, 1) := by decide +kernel
theorem d_FilterOrder_placeOf_21 : decode M_FilterOrder_placeOf.2.1 21 = .ok (.ireturn, 1) := by decide +kernel
theorem d_FilterOrder_placeOf_22 : decode M_FilterOrder_placeOf.2.1 22 = .ok (.iinc 2 1, 3) := by decide +kernel
theorem d_FilterOrder_placeOf_25 : decode M_FilterOrder_placeOf.2.1 25 = .ok (.goto (-23), 3) := by decide +kernel
theorem d_FilterOrder_placeOf_28 : decode M_FilterOrder_placeOf.2.1 28 = .ok (.iconst (-1), 1) := by decide +kernel
theorem d_FilterOrder_placeOf_29 : decode M_FilterOrder_placeOf.2.1 29 = .ok (.ireturn, 1) := by decide +kernel
theorem d_Application_end_0 : decode M_Application_end.2.1 0 = .ok (.aload_n 0, 1) := by decide +kernel
theorem d_Application_end_1 : decode M_Application_end.2.1 1 = .ok (.iconst 0, 1) := by decide +kernel
theorem d_Application_end_2 : decode M_Application_end.2.1 2 = .ok (.putfield 40, 3) := by decide +kernel
theorem d_Application_end_5 : decode M_Application_end.2.1 5 = .ok (.aload_n 0, 1) := by decide +kernel
theorem d_Application_end_6 : decode M_Application_end.2.1 6 = .ok (.getfield 33, 3) := by decide +kernel
theorem d_Application_end_9 : decode M_Application_end.2.1 9 = .ok (.invokevirtual 57, 3) := by decide +kernel
theorem d_Application_end_12 : decode M_Application_end.2.1 12 = .ok (.aload_n 0, 1) := by decide +kernel
theorem d_Application_end_13 : decode M_Application_end.2.1 13 = .ok (.getfield 37, 3) := by decide +kernel
theorem d_Application_end_16 : decode M_Application_end.2.1 16 = .ok (.invokevirtual 57, 3) := by decide +kernel
theorem d_Application_end_19 : decode M_Application_end.2.1 19 = .ok (.aload_n 0, 1) := by decide +kernel
theorem d_Application_end_20 : decode M_Application_end.2.1 20 = .ok (.getfield 19, 3) := by decide +kernel
theorem d_Application_end_23 : decode M_Application_end.2.1 23 = .ok (.invokevirtual 58, 3) := by decide +kernel
theorem d_Application_end_26 : decode M_Application_end.2.1 26 = .ok (.aload_n 0, 1) := by decide +kernel
theorem d_Application_end_27 : decode M_Application_end.2.1 27 = .ok (.getfield 26, 3) := by decide +kernel
theorem d_Application_end_30 : decode M_Application_end.2.1 30 = .ok (.invokevirtual 59, 3) := by decide +kernel
theorem d_Application_end_33 : decode M_Application_end.2.1 33 = .ok (.return_, 1) := by decide +kernel
theorem d_Program_clear_0 : decode M_Program_clear.2.1 0 = .ok (.aload_n 0, 1) := by decide +kernel
theorem d_Program_clear_1 : decode M_Program_clear.2.1 1 = .ok (.iconst 0, 1) := by decide +kernel
theorem d_Program_clear_2 : decode M_Program_clear.2.1 2 = .ok (.putfield 22, 3) := by decide +kernel
theorem d_Program_clear_5 : decode M_Program_clear.2.1 5 = .ok (.return_, 1) := by decide +kernel
theorem d_FrameQueue_clear_0 : decode M_FrameQueue_clear.2.1 0 = .ok (.aload_n 0, 1) := by decide +kernel
theorem d_FrameQueue_clear_1 : decode M_FrameQueue_clear.2.1 1 = .ok (.iconst 0, 1) := by decide +kernel
theorem d_FrameQueue_clear_2 : decode M_FrameQueue_clear.2.1 2 = .ok (.putfield 19, 3) := by decide +kernel
theorem d_FrameQueue_clear_5 : decode M_FrameQueue_clear.2.1 5 = .ok (.return_, 1) := by decide +kernel
theorem d_EntryTable_clear_0 : decode M_EntryTable_clear.2.1 0 = .ok (.aload_n 0, 1) := by decide +kernel
theorem d_EntryTable_clear_1 : decode M_EntryTable_clear.2.1 1 = .ok (.iconst 0, 1) := by decide +kernel
theorem d_EntryTable_clear_2 : decode M_EntryTable_clear.2.1 2 = .ok (.putfield 15, 3) := by decide +kernel
theorem d_EntryTable_clear_5 : decode M_EntryTable_clear.2.1 5 = .ok (.return_, 1) := by decide +kernel
theorem d_K_take_0 : decode M_K_take.2.1 0 = .ok (.aload_n 0, 1) := by decide +kernel
theorem d_K_take_1 : decode M_K_take.2.1 1 = .ok (.iload_n 1, 1) := by decide +kernel
theorem d_K_take_2 : decode M_K_take.2.1 2 = .ok (.invokevirtual 84, 3) := by decide +kernel
theorem d_K_take_5 : decode M_K_take.2.1 5 = .ok (.ifCond .ne 5, 3) := by decide +kernel
theorem d_K_take_8 : decode M_K_take.2.1 8 = .ok (.iconst (-1), 1) := by decide +kernel
theorem d_K_take_9 : decode M_K_take.2.1 9 = .ok (.ireturn, 1) := by decide +kernel
theorem d_K_take_10 : decode M_K_take.2.1 10 = .ok (.aload_n 0, 1) := by decide +kernel
theorem d_K_take_11 : decode M_K_take.2.1 11 = .ok (.getfield 18, 3) := by decide +kernel
theorem d_K_take_14 : decode M_K_take.2.1 14 = .ok (.invokevirtual 98, 3) := by decide +kernel
theorem d_K_take_17 : decode M_K_take.2.1 17 = .ok (.istore_n 2, 1) := by decide +kernel
theorem d_K_take_18 : decode M_K_take.2.1 18 = .ok (.iload_n 2, 1) := by decide +kernel
theorem d_K_take_19 : decode M_K_take.2.1 19 = .ok (.iconst (-1), 1) := by decide +kernel
theorem d_K_take_20 : decode M_K_take.2.1 20 = .ok (.if_icmp .ne 6, 3) := by decide +kernel
theorem d_K_take_23 : decode M_K_take.2.1 23 = .ok (.bipush (-2), 2) := by decide +kernel
theorem d_K_take_25 : decode M_K_take.2.1 25 = .ok (.ireturn, 1) := by decide +kernel
theorem d_K_take_26 : decode M_K_take.2.1 26 = .ok (.aload_n 0, 1) := by decide +kernel
theorem d_K_take_27 : decode M_K_take.2.1 27 = .ok (.getfield 18, 3) := by decide +kernel
theorem d_K_take_30 : decode M_K_take.2.1 30 = .ok (.iload_n 2, 1) := by decide +kernel
theorem d_K_take_31 : decode M_K_take.2.1 31 = .ok (.iload_n 1, 1) := by decide +kernel
theorem d_K_take_32 : decode M_K_take.2.1 32 = .ok (.invokevirtual 99, 3) := by decide +kernel
theorem d_K_take_35 : decode M_K_take.2.1 35 = .ok (.iload_n 2, 1) := by decide +kernel
theorem d_K_take_36 : decode M_K_take.2.1 36 = .ok (.ireturn, 1) := by decide +kernel
theorem d_Memory_leastFree_0 : decode M_Memory_leastFree.2.1 0 = .ok (.iconst 0, 1) := by decide +kernel
theorem d_Memory_leastFree_1 : decode M_Memory_leastFree.2.1 1 = .ok (.istore_n 1, 1) := by decide +kernel
theorem d_Memory_leastFree_2 : decode M_Memory_leastFree.2.1 2 = .ok (.iload_n 1, 1) := by decide +kernel
theorem d_Memory_leastFree_3 : decode M_Memory_leastFree.2.1 3 = .ok (.aload_n 0, 1) := by decide +kernel
theorem d_Memory_leastFree_4 : decode M_Memory_leastFree.2.1 4 = .ok (.getfield 9, 3) := by decide +kernel
theorem d_Memory_leastFree_7 : decode M_Memory_leastFree.2.1 7 = .ok (.if_icmp .ge 21, 3) := by decide +kernel
theorem d_Memory_leastFree_10 : decode M_Memory_leastFree.2.1 10 = .ok (.aload_n 0, 1) := by decide +kernel
theorem d_Memory_leastFree_11 : decode M_Memory_leastFree.2.1 11 = .ok (.getfield 19, 3) := by decide +kernel
theorem d_Memory_leastFree_14 : decode M_Memory_leastFree.2.1 14 = .ok (.iload_n 1, 1) := by decide +kernel
theorem d_Memory_leastFree_15 : decode M_Memory_leastFree.2.1 15 = .ok (.iaload, 1) := by decide +kernel
theorem d_Memory_leastFree_16 : decode M_Memory_leastFree.2.1 16 = .ok (.iconst (-1), 1) := by decide +kernel
theorem d_Memory_leastFree_17 : decode M_Memory_leastFree.2.1 17 = .ok (.if_icmp .ne 5, 3) := by decide +kernel
theorem d_Memory_leastFree_20 : decode M_Memory_leastFree.2.1 20 = .ok (.iload_n 1, 1) := by decide +kernel
theorem d_Memory_leastFree_21 : decode M_Memory_leastFree.2.1 21 = .ok (.ireturn, 1) := by decide +kernel
theorem d_Memory_leastFree_22 : decode M_Memory_leastFree.2.1 22 = .ok (.iinc 1 1, 3) := by decide +kernel
theorem d_Memory_leastFree_25 : decode M_Memory_leastFree.2.1 25 = .ok (.goto (-23), 3) := by decide +kernel
theorem d_Memory_leastFree_28 : decode M_Memory_leastFree.2.1 28 = .ok (.iconst (-1), 1) := by decide +kernel
theorem d_Memory_leastFree_29 : decode M_Memory_leastFree.2.1 29 = .ok (.ireturn, 1) := by decide +kernel
theorem d_Memory_bind_0 : decode M_Memory_bind.2.1 0 = .ok (.aload_n 0, 1) := by decide +kernel
theorem d_Memory_bind_1 : decode M_Memory_bind.2.1 1 = .ok (.getfield 19, 3) := by decide +kernel
theorem d_Memory_bind_4 : decode M_Memory_bind.2.1 4 = .ok (.iload_n 1, 1) := by decide +kernel
theorem d_Memory_bind_5 : decode M_Memory_bind.2.1 5 = .ok (.iload_n 2, 1) := by decide +kernel
theorem d_Memory_bind_6 : decode M_Memory_bind.2.1 6 = .ok (.iastore, 1) := by decide +kernel
theorem d_Memory_bind_7 : decode M_Memory_bind.2.1 7 = .ok (.aload_n 0, 1) := by decide +kernel
theorem d_Memory_bind_8 : decode M_Memory_bind.2.1 8 = .ok (.getfield 25, 3) := by decide +kernel
theorem d_Memory_bind_11 : decode M_Memory_bind.2.1 11 = .ok (.iload_n 1, 1) := by decide +kernel
theorem d_Memory_bind_12 : decode M_Memory_bind.2.1 12 = .ok (.aload_n 0, 1) := by decide +kernel
theorem d_Memory_bind_13 : decode M_Memory_bind.2.1 13 = .ok (.getfield 35, 3) := by decide +kernel
theorem d_Memory_bind_16 : decode M_Memory_bind.2.1 16 = .ok (.iastore, 1) := by decide +kernel
theorem d_Memory_bind_17 : decode M_Memory_bind.2.1 17 = .ok (.aload_n 0, 1) := by decide +kernel
theorem d_Memory_bind_18 : decode M_Memory_bind.2.1 18 = .ok (.dup, 1) := by decide +kernel
theorem d_Memory_bind_19 : decode M_Memory_bind.2.1 19 = .ok (.getfield 35, 3) := by decide +kernel
theorem d_Memory_bind_22 : decode M_Memory_bind.2.1 22 = .ok (.iconst 1, 1) := by decide +kernel
theorem d_Memory_bind_23 : decode M_Memory_bind.2.1 23 = .ok (.iadd, 1) := by decide +kernel
theorem d_Memory_bind_24 : decode M_Memory_bind.2.1 24 = .ok (.putfield 35, 3) := by decide +kernel
theorem d_Memory_bind_27 : decode M_Memory_bind.2.1 27 = .ok (.iconst 0, 1) := by decide +kernel
theorem d_Memory_bind_28 : decode M_Memory_bind.2.1 28 = .ok (.istore_n 3, 1) := by decide +kernel
theorem d_Memory_bind_29 : decode M_Memory_bind.2.1 29 = .ok (.iload_n 3, 1) := by decide +kernel
theorem d_Memory_bind_30 : decode M_Memory_bind.2.1 30 = .ok (.iconst 4, 1) := by decide +kernel
theorem d_Memory_bind_31 : decode M_Memory_bind.2.1 31 = .ok (.if_icmp .ge 16, 3) := by decide +kernel
theorem d_Memory_bind_34 : decode M_Memory_bind.2.1 34 = .ok (.aload_n 0, 1) := by decide +kernel
theorem d_Memory_bind_35 : decode M_Memory_bind.2.1 35 = .ok (.iload_n 1, 1) := by decide +kernel
theorem d_Memory_bind_36 : decode M_Memory_bind.2.1 36 = .ok (.iload_n 3, 1) := by decide +kernel
theorem d_Memory_bind_37 : decode M_Memory_bind.2.1 37 = .ok (.iconst 0, 1) := by decide +kernel
theorem d_Memory_bind_38 : decode M_Memory_bind.2.1 38 = .ok (.invokevirtual 41, 3) := by decide +kernel
theorem d_Memory_bind_41 : decode M_Memory_bind.2.1 41 = .ok (.iinc 3 1, 3) := by decide +kernel
theorem d_Memory_bind_44 : decode M_Memory_bind.2.1 44 = .ok (.goto (-15), 3) := by decide +kernel
theorem d_Memory_bind_47 : decode M_Memory_bind.2.1 47 = .ok (.return_, 1) := by decide +kernel
theorem d_Memory_setWord_0 : decode M_Memory_setWord.2.1 0 = .ok (.aload_n 0, 1) := by decide +kernel
theorem d_Memory_setWord_1 : decode M_Memory_setWord.2.1 1 = .ok (.getfield 15, 3) := by decide +kernel
theorem d_Memory_setWord_4 : decode M_Memory_setWord.2.1 4 = .ok (.iload_n 1, 1) := by decide +kernel
theorem d_Memory_setWord_5 : decode M_Memory_setWord.2.1 5 = .ok (.iconst 4, 1) := by decide +kernel
theorem d_Memory_setWord_6 : decode M_Memory_setWord.2.1 6 = .ok (.imul, 1) := by decide +kernel
theorem d_Memory_setWord_7 : decode M_Memory_setWord.2.1 7 = .ok (.iload_n 2, 1) := by decide +kernel
theorem d_Memory_setWord_8 : decode M_Memory_setWord.2.1 8 = .ok (.iadd, 1) := by decide +kernel
theorem d_Memory_setWord_9 : decode M_Memory_setWord.2.1 9 = .ok (.iload_n 3, 1) := by decide +kernel
theorem d_Memory_setWord_10 : decode M_Memory_setWord.2.1 10 = .ok (.iastore, 1) := by decide +kernel
theorem d_Memory_setWord_11 : decode M_Memory_setWord.2.1 11 = .ok (.return_, 1) := by decide +kernel
theorem d_K_release_0 : decode M_K_release.2.1 0 = .ok (.aload_n 0, 1) := by decide +kernel
theorem d_K_release_1 : decode M_K_release.2.1 1 = .ok (.iload_n 1, 1) := by decide +kernel
theorem d_K_release_2 : decode M_K_release.2.1 2 = .ok (.iload_n 2, 1) := by decide +kernel
theorem d_K_release_3 : decode M_K_release.2.1 3 = .ok (.invokevirtual 102, 3) := by decide +kernel
theorem d_K_release_6 : decode M_K_release.2.1 6 = .ok (.ifCond .ne 5, 3) := by decide +kernel
theorem d_K_release_9 : decode M_K_release.2.1 9 = .ok (.iconst (-1), 1) := by decide +kernel
theorem d_K_release_10 : decode M_K_release.2.1 10 = .ok (.ireturn, 1) := by decide +kernel
theorem d_K_release_11 : decode M_K_release.2.1 11 = .ok (.aload_n 0, 1) := by decide +kernel
theorem d_K_release_12 : decode M_K_release.2.1 12 = .ok (.getfield 18, 3) := by decide +kernel
theorem d_K_release_15 : decode M_K_release.2.1 15 = .ok (.iload_n 2, 1) := by decide +kernel
theorem d_K_release_16 : decode M_K_release.2.1 16 = .ok (.invokevirtual 105, 3) := by decide +kernel
theorem d_K_release_19 : decode M_K_release.2.1 19 = .ok (.iconst 0, 1) := by decide +kernel
theorem d_K_release_20 : decode M_K_release.2.1 20 = .ok (.ireturn, 1) := by decide +kernel
theorem d_K_owns_0 : decode M_K_owns.2.1 0 = .ok (.aload_n 0, 1) := by decide +kernel
theorem d_K_owns_1 : decode M_K_owns.2.1 1 = .ok (.iload_n 1, 1) := by decide +kernel
theorem d_K_owns_2 : decode M_K_owns.2.1 2 = .ok (.invokevirtual 84, 3) := by decide +kernel
theorem d_K_owns_5 : decode M_K_owns.2.1 5 = .ok (.ifCond .eq 30, 3) := by decide +kernel
theorem d_K_owns_8 : decode M_K_owns.2.1 8 = .ok (.aload_n 0, 1) := by decide +kernel
theorem d_K_owns_9 : decode M_K_owns.2.1 9 = .ok (.getfield 18, 3) := by decide +kernel
theorem d_K_owns_12 : decode M_K_owns.2.1 12 = .ok (.iload_n 2, 1) := by decide +kernel
theorem d_K_owns_13 : decode M_K_owns.2.1 13 = .ok (.invokevirtual 263, 3) := by decide +kernel
theorem d_K_owns_16 : decode M_K_owns.2.1 16 = .ok (.ifCond .eq 19, 3) := by decide +kernel
theorem d_K_owns_19 : decode M_K_owns.2.1 19 = .ok (.aload_n 0, 1) := by decide +kernel
theorem d_K_owns_20 : decode M_K_owns.2.1 20 = .ok (.getfield 18, 3) := by decide +kernel
theorem d_K_owns_23 : decode M_K_owns.2.1 23 = .ok (.iload_n 2, 1) := by decide +kernel
theorem d_K_owns_24 : decode M_K_owns.2.1 24 = .ok (.invokevirtual 144, 3) := by decide +kernel
theorem d_K_owns_27 : decode M_K_owns.2.1 27 = .ok (.iload_n 1, 1) := by decide +kernel
theorem d_K_owns_28 : decode M_K_owns.2.1 28 = .ok (.if_icmp .ne 7, 3) := by decide +kernel
theorem d_K_owns_31 : decode M_K_owns.2.1 31 = .ok (.iconst 1, 1) := by decide +kernel
theorem d_K_owns_32 : decode M_K_owns.2.1 32 = .ok (.goto 4, 3) := by decide +kernel
theorem d_K_owns_35 : decode M_K_owns.2.1 35 = .ok (.iconst 0, 1) := by decide +kernel
theorem d_K_owns_36 : decode M_K_owns.2.1 36 = .ok (.ireturn, 1) := by decide +kernel
theorem d_Memory_hasPage_0 : decode M_Memory_hasPage.2.1 0 = .ok (.iload_n 1, 1) := by decide +kernel
theorem d_Memory_hasPage_1 : decode M_Memory_hasPage.2.1 1 = .ok (.ifCond .lt 15, 3) := by decide +kernel
theorem d_Memory_hasPage_4 : decode M_Memory_hasPage.2.1 4 = .ok (.iload_n 1, 1) := by decide +kernel
theorem d_Memory_hasPage_5 : decode M_Memory_hasPage.2.1 5 = .ok (.aload_n 0, 1) := by decide +kernel
theorem d_Memory_hasPage_6 : decode M_Memory_hasPage.2.1 6 = .ok (.getfield 9, 3) := by decide +kernel
theorem d_Memory_hasPage_9 : decode M_Memory_hasPage.2.1 9 = .ok (.if_icmp .ge 7, 3) := by decide +kernel
theorem d_Memory_hasPage_12 : decode M_Memory_hasPage.2.1 12 = .ok (.iconst 1, 1) := by decide +kernel
theorem d_Memory_hasPage_13 : decode M_Memory_hasPage.2.1 13 = .ok (.goto 4, 3) := by decide +kernel
theorem d_Memory_hasPage_16 : decode M_Memory_hasPage.2.1 16 = .ok (.iconst 0, 1) := by decide +kernel
theorem d_Memory_hasPage_17 : decode M_Memory_hasPage.2.1 17 = .ok (.ireturn, 1) := by decide +kernel
theorem d_Memory_ownerOf_0 : decode M_Memory_ownerOf.2.1 0 = .ok (.aload_n 0, 1) := by decide +kernel
theorem d_Memory_ownerOf_1 : decode M_Memory_ownerOf.2.1 1 = .ok (.getfield 19, 3) := by decide +kernel
theorem d_Memory_ownerOf_4 : decode M_Memory_ownerOf.2.1 4 = .ok (.iload_n 1, 1) := by decide +kernel
theorem d_Memory_ownerOf_5 : decode M_Memory_ownerOf.2.1 5 = .ok (.iaload, 1) := by decide +kernel
theorem d_Memory_ownerOf_6 : decode M_Memory_ownerOf.2.1 6 = .ok (.ireturn, 1) := by decide +kernel
theorem d_K_share_0 : decode M_K_share.2.1 0 = .ok (.iload 4, 2) := by decide +kernel
theorem d_K_share_2 : decode M_K_share.2.1 2 = .ok (.iconst 0, 1) := by decide +kernel
theorem d_K_share_3 : decode M_K_share.2.1 3 = .ok (.iconst 2, 1) := by decide +kernel
theorem d_K_share_4 : decode M_K_share.2.1 4 = .ok (.invokestatic 108, 3) := by decide +kernel
theorem d_K_share_7 : decode M_K_share.2.1 7 = .ok (.ifCond .eq 25, 3) := by decide +kernel
theorem d_K_share_10 : decode M_K_share.2.1 10 = .ok (.aload_n 0, 1) := by decide +kernel
theorem d_K_share_11 : decode M_K_share.2.1 11 = .ok (.iload_n 1, 1) := by decide +kernel
theorem d_K_share_12 : decode M_K_share.2.1 12 = .ok (.iload_n 2, 1) := by decide +kernel
theorem d_K_share_13 : decode M_K_share.2.1 13 = .ok (.invokevirtual 102, 3) := by decide +kernel
theorem d_K_share_16 : decode M_K_share.2.1 16 = .ok (.ifCond .eq 16, 3) := by decide +kernel
theorem d_K_share_19 : decode M_K_share.2.1 19 = .ok (.iload_n 3, 1) := by decide +kernel
theorem d_K_share_20 : decode M_K_share.2.1 20 = .ok (.iload_n 1, 1) := by decide +kernel
theorem d_K_share_21 : decode M_K_share.2.1 21 = .ok (.if_icmp .eq 11, 3) := by decide +kernel
theorem d_K_share_24 : decode M_K_share.2.1 24 = .ok (.aload_n 0, 1) := by decide +kernel
theorem d_K_share_25 : decode M_K_share.2.1 25 = .ok (.iload_n 3, 1) := by decide +kernel
theorem d_K_share_26 : decode M_K_share.2.1 26 = .ok (.invokevirtual 84, 3) := by decide +kernel
theorem d_K_share_29 : decode M_K_share.2.1 29 = .ok (.ifCond .ne 5, 3) := by decide +kernel
theorem d_K_share_32 : decode M_K_share.2.1 32 = .ok (.iconst (-1), 1) := by decide +kernel
theorem d_K_share_33 : decode M_K_share.2.1 33 = .ok (.ireturn, 1) := by decide +kernel
theorem d_K_share_34 : decode M_K_share.2.1 34 = .ok (.aload_n 0, 1) := by decide +kernel
theorem d_K_share_35 : decode M_K_share.2.1 35 = .ok (.getfield 18, 3) := by decide +kernel
theorem d_K_share_38 : decode M_K_share.2.1 38 = .ok (.iload_n 2, 1) := by decide +kernel
theorem d_K_share_39 : decode M_K_share.2.1 39 = .ok (.iload_n 3, 1) := by decide +kernel
theorem d_K_share_40 : decode M_K_share.2.1 40 = .ok (.iload 4, 2) := by decide +kernel
theorem d_K_share_42 : decode M_K_share.2.1 42 = .ok (.invokevirtual 112, 3) := by decide +kernel
theorem d_K_share_45 : decode M_K_share.2.1 45 = .ok (.iconst 0, 1) := by decide +kernel
theorem d_K_share_46 : decode M_K_share.2.1 46 = .ok (.ireturn, 1) := by decide +kernel
theorem d_K_store_0 : decode M_K_store.2.1 0 = .ok (.aload_n 0, 1) := by decide +kernel
theorem d_K_store_1 : decode M_K_store.2.1 1 = .ok (.iload_n 1, 1) := by decide +kernel
theorem d_K_store_2 : decode M_K_store.2.1 2 = .ok (.iload_n 2, 1) := by decide +kernel
theorem d_K_store_3 : decode M_K_store.2.1 3 = .ok (.iload_n 3, 1) := by decide +kernel
theorem d_K_store_4 : decode M_K_store.2.1 4 = .ok (.iconst 2, 1) := by decide +kernel
theorem d_K_store_5 : decode M_K_store.2.1 5 = .ok (.invokevirtual 116, 3) := by decide +kernel
theorem d_K_store_8 : decode M_K_store.2.1 8 = .ok (.ifCond .ne 5, 3) := by decide +kernel
theorem d_K_store_11 : decode M_K_store.2.1 11 = .ok (.iconst (-1), 1) := by decide +kernel
theorem d_K_store_12 : decode M_K_store.2.1 12 = .ok (.ireturn, 1) := by decide +kernel
theorem d_K_store_13 : decode M_K_store.2.1 13 = .ok (.aload_n 0, 1) := by decide +kernel
theorem d_K_store_14 : decode M_K_store.2.1 14 = .ok (.getfield 18, 3) := by decide +kernel
theorem d_K_store_17 : decode M_K_store.2.1 17 = .ok (.iload_n 2, 1) := by decide +kernel
theorem d_K_store_18 : decode M_K_store.2.1 18 = .ok (.iload_n 3, 1) := by decide +kernel
theorem d_K_store_19 : decode M_K_store.2.1 19 = .ok (.iload 4, 2) := by decide +kernel
theorem d_K_store_21 : decode M_K_store.2.1 21 = .ok (.invokevirtual 120, 3) := by decide +kernel
theorem d_K_store_24 : decode M_K_store.2.1 24 = .ok (.iconst 0, 1) := by decide +kernel
theorem d_K_store_25 : decode M_K_store.2.1 25 = .ok (.ireturn, 1) := by decide +kernel
theorem d_K_mayUse_0 : decode M_K_mayUse.2.1 0 = .ok (.aload_n 0, 1) := by decide +kernel
theorem d_K_mayUse_1 : decode M_K_mayUse.2.1 1 = .ok (.iload_n 1, 1) := by decide +kernel
theorem d_K_mayUse_2 : decode M_K_mayUse.2.1 2 = .ok (.invokevirtual 84, 3) := by decide +kernel
theorem d_K_mayUse_5 : decode M_K_mayUse.2.1 5 = .ok (.ifCond .eq 23, 3) := by decide +kernel
theorem d_K_mayUse_8 : decode M_K_mayUse.2.1 8 = .ok (.aload_n 0, 1) := by decide +kernel
theorem d_K_mayUse_9 : decode M_K_mayUse.2.1 9 = .ok (.getfield 18, 3) := by decide +kernel
theorem d_K_mayUse_12 : decode M_K_mayUse.2.1 12 = .ok (.iload_n 2, 1) := by decide +kernel
theorem d_K_mayUse_13 : decode M_K_mayUse.2.1 13 = .ok (.invokevirtual 263, 3) := by decide +kernel
theorem d_K_mayUse_16 : decode M_K_mayUse.2.1 16 = .ok (.ifCond .eq 12, 3) := by decide +kernel
theorem d_K_mayUse_19 : decode M_K_mayUse.2.1 19 = .ok (.iload_n 3, 1) := by decide +kernel
theorem d_K_mayUse_20 : decode M_K_mayUse.2.1 20 = .ok (.iconst 0, 1) := by decide +kernel
theorem d_K_mayUse_21 : decode M_K_mayUse.2.1 21 = .ok (.iconst 3, 1) := by decide +kernel
theorem d_K_mayUse_22 : decode M_K_mayUse.2.1 22 = .ok (.invokestatic 108, 3) := by decide +kernel
theorem d_K_mayUse_25 : decode M_K_mayUse.2.1 25 = .ok (.ifCond .ne 5, 3) := by decide +kernel
theorem d_K_mayUse_28 : decode M_K_mayUse.2.1 28 = .ok (.iconst 0, 1) := by decide +kernel
theorem d_K_mayUse_29 : decode M_K_mayUse.2.1 29 = .ok (.ireturn, 1) := by decide +kernel
theorem d_K_mayUse_30 : decode M_K_mayUse.2.1 30 = .ok (.aload_n 0, 1) := by decide +kernel
theorem d_K_mayUse_31 : decode M_K_mayUse.2.1 31 = .ok (.getfield 18, 3) := by decide +kernel
theorem d_K_mayUse_34 : decode M_K_mayUse.2.1 34 = .ok (.iload_n 2, 1) := by decide +kernel
theorem d_K_mayUse_35 : decode M_K_mayUse.2.1 35 = .ok (.invokevirtual 144, 3) := by decide +kernel
theorem d_K_mayUse_38 : decode M_K_mayUse.2.1 38 = .ok (.iload_n 1, 1) := by decide +kernel
theorem d_K_mayUse_39 : decode M_K_mayUse.2.1 39 = .ok (.if_icmp .eq 17, 3) := by decide +kernel
theorem d_K_mayUse_42 : decode M_K_mayUse.2.1 42 = .ok (.aload_n 0, 1) := by decide +kernel
theorem d_K_mayUse_43 : decode M_K_mayUse.2.1 43 = .ok (.getfield 18, 3) := by decide +kernel
theorem d_K_mayUse_46 : decode M_K_mayUse.2.1 46 = .ok (.iload_n 2, 1) := by decide +kernel
theorem d_K_mayUse_47 : decode M_K_mayUse.2.1 47 = .ok (.iload_n 1, 1) := by decide +kernel
theorem d_K_mayUse_48 : decode M_K_mayUse.2.1 48 = .ok (.invokevirtual 293, 3) := by decide +kernel
theorem d_K_mayUse_51 : decode M_K_mayUse.2.1 51 = .ok (.iload 4, 2) := by decide +kernel
theorem d_K_mayUse_53 : decode M_K_mayUse.2.1 53 = .ok (.if_icmp .lt 7, 3) := by decide +kernel
theorem d_K_mayUse_56 : decode M_K_mayUse.2.1 56 = .ok (.iconst 1, 1) := by decide +kernel
theorem d_K_mayUse_57 : decode M_K_mayUse.2.1 57 = .ok (.goto 4, 3) := by decide +kernel
theorem d_K_mayUse_60 : decode M_K_mayUse.2.1 60 = .ok (.iconst 0, 1) := by decide +kernel
theorem d_K_mayUse_61 : decode M_K_mayUse.2.1 61 = .ok (.ireturn, 1) := by decide +kernel
theorem d_Memory_rightOf_0 : decode M_Memory_rightOf.2.1 0 = .ok (.aload_n 0, 1) := by decide +kernel
theorem d_Memory_rightOf_1 : decode M_Memory_rightOf.2.1 1 = .ok (.getfield 22, 3) := by decide +kernel
theorem d_Memory_rightOf_4 : decode M_Memory_rightOf.2.1 4 = .ok (.iload_n 1, 1) := by decide +kernel
theorem d_Memory_rightOf_5 : decode M_Memory_rightOf.2.1 5 = .ok (.bipush 6, 2) := by decide +kernel
theorem d_Memory_rightOf_7 : decode M_Memory_rightOf.2.1 7 = .ok (.imul, 1) := by decide +kernel
theorem d_Memory_rightOf_8 : decode M_Memory_rightOf.2.1 8 = .ok (.iload_n 2, 1) := by decide +kernel
theorem d_Memory_rightOf_9 : decode M_Memory_rightOf.2.1 9 = .ok (.iadd, 1) := by decide +kernel
theorem d_Memory_rightOf_10 : decode M_Memory_rightOf.2.1 10 = .ok (.iaload, 1) := by decide +kernel
theorem d_Memory_rightOf_11 : decode M_Memory_rightOf.2.1 11 = .ok (.ireturn, 1) := by decide +kernel
theorem d_K_fetch_0 : decode M_K_fetch.2.1 0 = .ok (.aload_n 0, 1) := by decide +kernel
theorem d_K_fetch_1 : decode M_K_fetch.2.1 1 = .ok (.iload_n 1, 1) := by decide +kernel
theorem d_K_fetch_2 : decode M_K_fetch.2.1 2 = .ok (.iload_n 2, 1) := by decide +kernel
theorem d_K_fetch_3 : decode M_K_fetch.2.1 3 = .ok (.iload_n 3, 1) := by decide +kernel
theorem d_K_fetch_4 : decode M_K_fetch.2.1 4 = .ok (.iconst 1, 1) := by decide +kernel
theorem d_K_fetch_5 : decode M_K_fetch.2.1 5 = .ok (.invokevirtual 116, 3) := by decide +kernel
theorem d_K_fetch_8 : decode M_K_fetch.2.1 8 = .ok (.ifCond .ne 7, 3) := by decide +kernel
theorem d_K_fetch_11 : decode M_K_fetch.2.1 11 = .ok (.ldc2_w 123, 3) := by decide +kernel
theorem d_K_fetch_14 : decode M_K_fetch.2.1 14 = .ok (.lreturn, 1) := by decide +kernel
theorem d_K_fetch_15 : decode M_K_fetch.2.1 15 = .ok (.aload_n 0, 1) := by decide +kernel
theorem d_K_fetch_16 : decode M_K_fetch.2.1 16 = .ok (.getfield 18, 3) := by decide +kernel
theorem d_K_fetch_19 : decode M_K_fetch.2.1 19 = .ok (.iload_n 2, 1) := by decide +kernel
theorem d_K_fetch_20 : decode M_K_fetch.2.1 20 = .ok (.iload_n 3, 1) := by decide +kernel
theorem d_K_fetch_21 : decode M_K_fetch.2.1 21 = .ok (.invokevirtual 125, 3) := by decide +kernel
theorem d_K_fetch_24 : decode M_K_fetch.2.1 24 = .ok (.i2l, 1) := by decide +kernel
theorem d_K_fetch_25 : decode M_K_fetch.2.1 25 = .ok (.lreturn, 1) := by decide +kernel
theorem d_Memory_wordOf_0 : decode M_Memory_wordOf.2.1 0 = .ok (.aload_n 0, 1) := by decide +kernel
theorem d_Memory_wordOf_1 : decode M_Memory_wordOf.2.1 1 = .ok (.getfield 15, 3) := by decide +kernel
theorem d_Memory_wordOf_4 : decode M_Memory_wordOf.2.1 4 = .ok (.iload_n 1, 1) := by decide +kernel
theorem d_Memory_wordOf_5 : decode M_Memory_wordOf.2.1 5 = .ok (.iconst 4, 1) := by decide +kernel
theorem d_Memory_wordOf_6 : decode M_Memory_wordOf.2.1 6 = .ok (.imul, 1) := by decide +kernel
theorem d_Memory_wordOf_7 : decode M_Memory_wordOf.2.1 7 = .ok (.iload_n 2, 1) := by decide +kernel
theorem d_Memory_wordOf_8 : decode M_Memory_wordOf.2.1 8 = .ok (.iadd, 1) := by decide +kernel
theorem d_Memory_wordOf_9 : decode M_Memory_wordOf.2.1 9 = .ok (.iaload, 1) := by decide +kernel
theorem d_Memory_wordOf_10 : decode M_Memory_wordOf.2.1 10 = .ok (.ireturn, 1) := by decide +kernel
theorem d_K_revoke_0 : decode M_K_revoke.2.1 0 = .ok (.aload_n 0, 1) := by decide +kernel
theorem d_K_revoke_1 : decode M_K_revoke.2.1 1 = .ok (.iload_n 1, 1) := by decide +kernel
theorem d_K_revoke_2 : decode M_K_revoke.2.1 2 = .ok (.invokevirtual 84, 3) := by decide +kernel
theorem d_K_revoke_5 : decode M_K_revoke.2.1 5 = .ok (.ifCond .eq 23, 3) := by decide +kernel
theorem d_K_revoke_8 : decode M_K_revoke.2.1 8 = .ok (.iload_n 2, 1) := by decide +kernel
theorem d_K_revoke_9 : decode M_K_revoke.2.1 9 = .ok (.iconst 1, 1) := by decide +kernel
theorem d_K_revoke_10 : decode M_K_revoke.2.1 10 = .ok (.bipush 8, 2) := by decide +kernel
theorem d_K_revoke_12 : decode M_K_revoke.2.1 12 = .ok (.invokestatic 108, 3) := by decide +kernel
theorem d_K_revoke_15 : decode M_K_revoke.2.1 15 = .ok (.ifCond .eq 13, 3) := by decide +kernel
theorem d_K_revoke_18 : decode M_K_revoke.2.1 18 = .ok (.iload_n 3, 1) := by decide +kernel
theorem d_K_revoke_19 : decode M_K_revoke.2.1 19 = .ok (.iconst 1, 1) := by decide +kernel
theorem d_K_revoke_20 : decode M_K_revoke.2.1 20 = .ok (.bipush 20, 2) := by decide +kernel
theorem d_K_revoke_22 : decode M_K_revoke.2.1 22 = .ok (.invokestatic 108, 3) := by decide +kernel
theorem d_K_revoke_25 : decode M_K_revoke.2.1 25 = .ok (.ifCond .ne 5, 3) := by decide +kernel
theorem d_K_revoke_28 : decode M_K_revoke.2.1 28 = .ok (.iconst (-1), 1) := by decide +kernel
theorem d_K_revoke_29 : decode M_K_revoke.2.1 29 = .ok (.ireturn, 1) := by decide +kernel
theorem d_K_revoke_30 : decode M_K_revoke.2.1 30 = .ok (.iconst 0, 1) := by decide +kernel
theorem d_K_revoke_31 : decode M_K_revoke.2.1 31 = .ok (.istore 4, 2) := by decide +kernel
theorem d_K_revoke_33 : decode M_K_revoke.2.1 33 = .ok (.iload 4, 2) := by decide +kernel
theorem d_K_revoke_35 : decode M_K_revoke.2.1 35 = .ok (.iload_n 2, 1) := by decide +kernel
theorem d_K_revoke_36 : decode M_K_revoke.2.1 36 = .ok (.if_icmp .ge 38, 3) := by decide +kernel
theorem d_K_revoke_39 : decode M_K_revoke.2.1 39 = .ok (.aload_n 0, 1) := by decide +kernel
theorem d_K_revoke_40 : decode M_K_revoke.2.1 40 = .ok (.getfield 18, 3) := by decide +kernel
theorem d_K_revoke_43 : decode M_K_revoke.2.1 43 = .ok (.iload_n 1, 1) := by decide +kernel
theorem d_K_revoke_44 : decode M_K_revoke.2.1 44 = .ok (.invokevirtual 129, 3) := by decide +kernel
theorem d_K_revoke_47 : decode M_K_revoke.2.1 47 = .ok (.istore 5, 2) := by decide +kernel
theorem d_K_revoke_49 : decode M_K_revoke.2.1 49 = .ok (.iload 5, 2) := by decide +kernel
theorem d_K_revoke_51 : decode M_K_revoke.2.1 51 = .ok (.iconst (-1), 1) := by decide +kernel
theorem d_K_revoke_52 : decode M_K_revoke.2.1 52 = .ok (.if_icmp .ne 6, 3) := by decide +kernel
theorem d_K_revoke_55 : decode M_K_revoke.2.1 55 = .ok (.iload 4, 2) := by decide +kernel
theorem d_K_revoke_57 : decode M_K_revoke.2.1 57 = .ok (.ireturn, 1) := by decide +kernel
theorem d_K_revoke_58 : decode M_K_revoke.2.1 58 = .ok (.aload_n 0, 1) := by decide +kernel
theorem d_K_revoke_59 : decode M_K_revoke.2.1 59 = .ok (.getfield 18, 3) := by decide +kernel
theorem d_K_revoke_62 : decode M_K_revoke.2.1 62 = .ok (.iload 5, 2) := by decide +kernel
theorem d_K_revoke_64 : decode M_K_revoke.2.1 64 = .ok (.iload_n 3, 1) := by decide +kernel
theorem d_K_revoke_65 : decode M_K_revoke.2.1 65 = .ok (.invokevirtual 132, 3) := by decide +kernel
theorem d_K_revoke_68 : decode M_K_revoke.2.1 68 = .ok (.iinc 4 1, 3) := by decide +kernel
theorem d_K_revoke_71 : decode M_K_revoke.2.1 71 = .ok (.goto (-38), 3) := by decide +kernel
theorem d_K_revoke_74 : decode M_K_revoke.2.1 74 = .ok (.iload_n 2, 1) := by decide +kernel
theorem d_K_revoke_75 : decode M_K_revoke.2.1 75 = .ok (.ireturn, 1) := by decide +kernel
theorem d_Memory_pageToName_0 : decode M_Memory_pageToName.2.1 0 = .ok (.iconst 0, 1) := by decide +kernel
theorem d_Memory_pageToName_1 : decode M_Memory_pageToName.2.1 1 = .ok (.istore_n 2, 1) := by decide +kernel
theorem d_Memory_pageToName_2 : decode M_Memory_pageToName.2.1 2 = .ok (.iconst (-1), 1) := by decide +kernel
theorem d_Memory_pageToName_3 : decode M_Memory_pageToName.2.1 3 = .ok (.istore_n 3, 1) := by decide +kernel
theorem d_Memory_pageToName_4 : decode M_Memory_pageToName.2.1 4 = .ok (.iconst 0, 1) := by decide +kernel
theorem d_Memory_pageToName_5 : decode M_Memory_pageToName.2.1 5 = .ok (.istore 4, 2) := by decide +kernel
theorem d_Memory_pageToName_7 : decode M_Memory_pageToName.2.1 7 = .ok (.iload 4, 2) := by decide +kernel
theorem d_Memory_pageToName_9 : decode M_Memory_pageToName.2.1 9 = .ok (.aload_n 0, 1) := by decide +kernel
theorem d_Memory_pageToName_10 : decode M_Memory_pageToName.2.1 10 = .ok (.getfield 9, 3) := by decide +kernel
theorem d_Memory_pageToName_13 : decode M_Memory_pageToName.2.1 13 = .ok (.if_icmp .ge 57, 3) := by decide +kernel
theorem d_Memory_pageToName_16 : decode M_Memory_pageToName.2.1 16 = .ok (.aload_n 0, 1) := by decide +kernel
theorem d_Memory_pageToName_17 : decode M_Memory_pageToName.2.1 17 = .ok (.getfield 19, 3) := by decide +kernel
theorem d_Memory_pageToName_20 : decode M_Memory_pageToName.2.1 20 = .ok (.iload 4, 2) := by decide +kernel
theorem d_Memory_pageToName_22 : decode M_Memory_pageToName.2.1 22 = .ok (.iaload, 1) := by decide +kernel
theorem d_Memory_pageToName_23 : decode M_Memory_pageToName.2.1 23 = .ok (.iload_n 1, 1) := by decide +kernel
theorem d_Memory_pageToName_24 : decode M_Memory_pageToName.2.1 24 = .ok (.if_icmp .ne 40, 3) := by decide +kernel
theorem d_Memory_pageToName_27 : decode M_Memory_pageToName.2.1 27 = .ok (.aload_n 0, 1) := by decide +kernel
theorem d_Memory_pageToName_28 : decode M_Memory_pageToName.2.1 28 = .ok (.getfield 28, 3) := by decide +kernel
theorem d_Memory_pageToName_31 : decode M_Memory_pageToName.2.1 31 = .ok (.iload 4, 2) := by decide +kernel
theorem d_Memory_pageToName_33 : decode M_Memory_pageToName.2.1 33 = .ok (.baload, 1) := by decide +kernel
theorem d_Memory_pageToName_34 : decode M_Memory_pageToName.2.1 34 = .ok (.ifCond .ne 30, 3) := by decide +kernel
theorem d_Memory_pageToName_37 : decode M_Memory_pageToName.2.1 37 = .ok (.iinc 2 1, 3) := by decide +kernel
theorem d_Memory_pageToName_40 : decode M_Memory_pageToName.2.1 40 = .ok (.iload_n 3, 1) := by decide +kernel
theorem d_Memory_pageToName_41 : decode M_Memory_pageToName.2.1 41 = .ok (.iconst (-1), 1) := by decide +kernel
theorem d_Memory_pageToName_42 : decode M_Memory_pageToName.2.1 42 = .ok (.if_icmp .eq 19, 3) := by decide +kernel
theorem d_Memory_pageToName_45 : decode M_Memory_pageToName.2.1 45 = .ok (.aload_n 0, 1) := by decide +kernel
theorem d_Memory_pageToName_46 : decode M_Memory_pageToName.2.1 46 = .ok (.getfield 25, 3) := by decide +kernel
theorem d_Memory_pageToName_49 : decode M_Memory_pageToName.2.1 49 = .ok (.iload 4, 2) := by decide +kernel
theorem d_Memory_pageToName_51 : decode M_Memory_pageToName.2.1 51 = .ok (.iaload, 1) := by decide +kernel
theorem d_Memory_pageToName_52 : decode M_Memory_pageToName.2.1 52 = .ok (.aload_n 0, 1) := by decide +kernel
theorem d_Memory_pageToName_53 : decode M_Memory_pageToName.2.1 53 = .ok (.getfield 25, 3) := by decide +kernel
theorem d_Memory_pageToName_56 : decode M_Memory_pageToName.2.1 56 = .ok (.iload_n 3, 1) := by decide +kernel
theorem d_Memory_pageToName_57 : decode M_Memory_pageToName.2.1 57 = .ok (.iaload, 1) := by decide +kernel
theorem d_Memory_pageToName_58 : decode M_Memory_pageToName.2.1 58 = .ok (.if_icmp .le 6, 3) := by decide +kernel
theorem d_Memory_pageToName_61 : decode M_Memory_pageToName.2.1 61 = .ok (.iload 4, 2) := by decide +kernel
theorem d_Memory_pageToName_63 : decode M_Memory_pageToName.2.1 63 = .ok (.istore_n 3, 1) := by decide +kernel
theorem d_Memory_pageToName_64 : decode M_Memory_pageToName.2.1 64 = .ok (.iinc 4 1, 3) := by decide +kernel
theorem d_Memory_pageToName_67 : decode M_Memory_pageToName.2.1 67 = .ok (.goto (-60), 3) := by decide +kernel
theorem d_Memory_pageToName_70 : decode M_Memory_pageToName.2.1 70 = .ok (.iload_n 2, 1) := by decide +kernel
theorem d_Memory_pageToName_71 : decode M_Memory_pageToName.2.1 71 = .ok (.iconst 2, 1) := by decide +kernel
theorem d_Memory_pageToName_72 : decode M_Memory_pageToName.2.1 72 = .ok (.if_icmp .le 7, 3) := by decide +kernel
theorem d_Memory_pageToName_75 : decode M_Memory_pageToName.2.1 75 = .ok (.iload_n 3, 1) := by decide +kernel
theorem d_Memory_pageToName_76 : decode M_Memory_pageToName.2.1 76 = .ok (.goto 4, 3) := by decide +kernel
theorem d_Memory_pageToName_79 : decode M_Memory_pageToName.2.1 79 = .ok (.iconst (-1), 1) := by decide +kernel
theorem d_Memory_pageToName_80 : decode M_Memory_pageToName.2.1 80 = .ok (.ireturn, 1) := by decide +kernel
theorem d_Memory_nameAfter_0 : decode M_Memory_nameAfter.2.1 0 = .ok (.aload_n 0, 1) := by decide +kernel
theorem d_Memory_nameAfter_1 : decode M_Memory_nameAfter.2.1 1 = .ok (.getfield 28, 3) := by decide +kernel
theorem d_Memory_nameAfter_4 : decode M_Memory_nameAfter.2.1 4 = .ok (.iload_n 1, 1) := by decide +kernel
theorem d_Memory_nameAfter_5 : decode M_Memory_nameAfter.2.1 5 = .ok (.iconst 1, 1) := by decide +kernel
theorem d_Memory_nameAfter_6 : decode M_Memory_nameAfter.2.1 6 = .ok (.bastore, 1) := by decide +kernel
theorem d_Memory_nameAfter_7 : decode M_Memory_nameAfter.2.1 7 = .ok (.aload_n 0, 1) := by decide +kernel
theorem d_Memory_nameAfter_8 : decode M_Memory_nameAfter.2.1 8 = .ok (.getfield 32, 3) := by decide +kernel
theorem d_Memory_nameAfter_11 : decode M_Memory_nameAfter.2.1 11 = .ok (.iload_n 1, 1) := by decide +kernel
theorem d_Memory_nameAfter_12 : decode M_Memory_nameAfter.2.1 12 = .ok (.aload_n 0, 1) := by decide +kernel
theorem d_Memory_nameAfter_13 : decode M_Memory_nameAfter.2.1 13 = .ok (.getfield 38, 3) := by decide +kernel
theorem d_Memory_nameAfter_16 : decode M_Memory_nameAfter.2.1 16 = .ok (.iload_n 2, 1) := by decide +kernel
theorem d_Memory_nameAfter_17 : decode M_Memory_nameAfter.2.1 17 = .ok (.iadd, 1) := by decide +kernel
theorem d_Memory_nameAfter_18 : decode M_Memory_nameAfter.2.1 18 = .ok (.iastore, 1) := by decide +kernel
theorem d_Memory_nameAfter_19 : decode M_Memory_nameAfter.2.1 19 = .ok (.return_, 1) := by decide +kernel
theorem d_K_tick_0 : decode M_K_tick.2.1 0 = .ok (.iload_n 1, 1) := by decide +kernel
theorem d_K_tick_1 : decode M_K_tick.2.1 1 = .ok (.iconst 1, 1) := by decide +kernel
theorem d_K_tick_2 : decode M_K_tick.2.1 2 = .ok (.bipush 100, 2) := by decide +kernel
theorem d_K_tick_4 : decode M_K_tick.2.1 4 = .ok (.invokestatic 108, 3) := by decide +kernel
theorem d_K_tick_7 : decode M_K_tick.2.1 7 = .ok (.ifCond .ne 5, 3) := by decide +kernel
theorem d_K_tick_10 : decode M_K_tick.2.1 10 = .ok (.iconst (-1), 1) := by decide +kernel
theorem d_K_tick_11 : decode M_K_tick.2.1 11 = .ok (.ireturn, 1) := by decide +kernel
theorem d_K_tick_12 : decode M_K_tick.2.1 12 = .ok (.aload_n 0, 1) := by decide +kernel
theorem d_K_tick_13 : decode M_K_tick.2.1 13 = .ok (.getfield 18, 3) := by decide +kernel
theorem d_K_tick_16 : decode M_K_tick.2.1 16 = .ok (.iload_n 1, 1) := by decide +kernel
theorem d_K_tick_17 : decode M_K_tick.2.1 17 = .ok (.invokevirtual 135, 3) := by decide +kernel
theorem d_K_tick_20 : decode M_K_tick.2.1 20 = .ok (.iconst 0, 1) := by decide +kernel
theorem d_K_tick_21 : decode M_K_tick.2.1 21 = .ok (.istore_n 2, 1) := by decide +kernel
theorem d_K_tick_22 : decode M_K_tick.2.1 22 = .ok (.iload_n 2, 1) := by decide +kernel
theorem d_K_tick_23 : decode M_K_tick.2.1 23 = .ok (.aload_n 0, 1) := by decide +kernel
theorem d_K_tick_24 : decode M_K_tick.2.1 24 = .ok (.getfield 18, 3) := by decide +kernel
theorem d_K_tick_27 : decode M_K_tick.2.1 27 = .ok (.getfield 138, 3) := by decide +kernel
theorem d_K_tick_30 : decode M_K_tick.2.1 30 = .ok (.if_icmp .ge 52, 3) := by decide +kernel
theorem d_K_tick_33 : decode M_K_tick.2.1 33 = .ok (.aload_n 0, 1) := by decide +kernel
theorem d_K_tick_34 : decode M_K_tick.2.1 34 = .ok (.getfield 18, 3) := by decide +kernel
theorem d_K_tick_37 : decode M_K_tick.2.1 37 = .ok (.invokevirtual 141, 3) := by decide +kernel
theorem d_K_tick_40 : decode M_K_tick.2.1 40 = .ok (.istore_n 3, 1) := by decide +kernel
theorem d_K_tick_41 : decode M_K_tick.2.1 41 = .ok (.iload_n 3, 1) := by decide +kernel
theorem d_K_tick_42 : decode M_K_tick.2.1 42 = .ok (.iconst (-1), 1) := by decide +kernel
theorem d_K_tick_43 : decode M_K_tick.2.1 43 = .ok (.if_icmp .ne 5, 3) := by decide +kernel
theorem d_K_tick_46 : decode M_K_tick.2.1 46 = .ok (.iload_n 2, 1) := by decide +kernel
theorem d_K_tick_47 : decode M_K_tick.2.1 47 = .ok (.ireturn, 1) := by decide +kernel
theorem d_K_tick_48 : decode M_K_tick.2.1 48 = .ok (.aload_n 0, 1) := by decide +kernel
theorem d_K_tick_49 : decode M_K_tick.2.1 49 = .ok (.getfield 49, 3) := by decide +kernel
theorem d_K_tick_52 : decode M_K_tick.2.1 52 = .ok (.aload_n 0, 1) := by decide +kernel
theorem d_K_tick_53 : decode M_K_tick.2.1 53 = .ok (.getfield 18, 3) := by decide +kernel
theorem d_K_tick_56 : decode M_K_tick.2.1 56 = .ok (.iload_n 3, 1) := by decide +kernel
theorem d_K_tick_57 : decode M_K_tick.2.1 57 = .ok (.invokevirtual 144, 3) := by decide +kernel
theorem d_K_tick_60 : decode M_K_tick.2.1 60 = .ok (.aaload, 1) := by decide +kernel
theorem d_K_tick_61 : decode M_K_tick.2.1 61 = .ok (.getfield 147, 3) := by decide +kernel
theorem d_K_tick_64 : decode M_K_tick.2.1 64 = .ok (.iload_n 3, 1) := by decide +kernel
theorem d_K_tick_65 : decode M_K_tick.2.1 65 = .ok (.invokevirtual 151, 3) := by decide +kernel
theorem d_K_tick_68 : decode M_K_tick.2.1 68 = .ok (.aload_n 0, 1) := by decide +kernel
theorem d_K_tick_69 : decode M_K_tick.2.1 69 = .ok (.getfield 18, 3) := by decide +kernel
theorem d_K_tick_72 : decode M_K_tick.2.1 72 = .ok (.iload_n 3, 1) := by decide +kernel
theorem d_K_tick_73 : decode M_K_tick.2.1 73 = .ok (.invokevirtual 105, 3) := by decide +kernel
theorem d_K_tick_76 : decode M_K_tick.2.1 76 = .ok (.iinc 2 1, 3) := by decide +kernel
theorem d_K_tick_79 : decode M_K_tick.2.1 79 = .ok (.goto (-57), 3) := by decide +kernel
theorem d_K_tick_82 : decode M_K_tick.2.1 82 = .ok (.aload_n 0, 1) := by decide +kernel
theorem d_K_tick_83 : decode M_K_tick.2.1 83 = .ok (.getfield 18, 3) := by decide +kernel
theorem d_K_tick_86 : decode M_K_tick.2.1 86 = .ok (.getfield 138, 3) := by decide +kernel
theorem d_K_tick_89 : decode M_K_tick.2.1 89 = .ok (.ireturn, 1) := by decide +kernel
theorem d_Memory_passTime_0 : decode M_Memory_passTime.2.1 0 = .ok (.aload_n 0, 1) := by decide +kernel
theorem d_Memory_passTime_1 : decode M_Memory_passTime.2.1 1 = .ok (.dup, 1) := by decide +kernel
theorem d_Memory_passTime_2 : decode M_Memory_passTime.2.1 2 = .ok (.getfield 38, 3) := by decide +kernel
theorem d_Memory_passTime_5 : decode M_Memory_passTime.2.1 5 = .ok (.iload_n 1, 1) := by decide +kernel
theorem d_Memory_passTime_6 : decode M_Memory_passTime.2.1 6 = .ok (.iadd, 1) := by decide +kernel
theorem d_Memory_passTime_7 : decode M_Memory_passTime.2.1 7 = .ok (.putfield 38, 3) := by decide +kernel
theorem d_Memory_passTime_10 : decode M_Memory_passTime.2.1 10 = .ok (.return_, 1) := by decide +kernel
theorem d_Memory_firstDue_0 : decode M_Memory_firstDue.2.1 0 = .ok (.iconst (-1), 1) := by decide +kernel
theorem d_Memory_firstDue_1 : decode M_Memory_firstDue.2.1 1 = .ok (.istore_n 1, 1) := by decide +kernel
theorem d_Memory_firstDue_2 : decode M_Memory_firstDue.2.1 2 = .ok (.iconst 0, 1) := by decide +kernel
theorem d_Memory_firstDue_3 : decode M_Memory_firstDue.2.1 3 = .ok (.istore_n 2, 1) := by decide +kernel
theorem d_Memory_firstDue_4 : decode M_Memory_firstDue.2.1 4 = .ok (.iload_n 2, 1) := by decide +kernel
theorem d_Memory_firstDue_5 : decode M_Memory_firstDue.2.1 5 = .ok (.aload_n 0, 1) := by decide +kernel
theorem d_Memory_firstDue_6 : decode M_Memory_firstDue.2.1 6 = .ok (.getfield 9, 3) := by decide +kernel
theorem d_Memory_firstDue_9 : decode M_Memory_firstDue.2.1 9 = .ok (.if_icmp .ge 53, 3) := by decide +kernel
theorem d_Memory_firstDue_12 : decode M_Memory_firstDue.2.1 12 = .ok (.aload_n 0, 1) := by decide +kernel
theorem d_Memory_firstDue_13 : decode M_Memory_firstDue.2.1 13 = .ok (.getfield 28, 3) := by decide +kernel
theorem d_Memory_firstDue_16 : decode M_Memory_firstDue.2.1 16 = .ok (.iload_n 2, 1) := by decide +kernel
theorem d_Memory_firstDue_17 : decode M_Memory_firstDue.2.1 17 = .ok (.baload, 1) := by decide +kernel
theorem d_Memory_firstDue_18 : decode M_Memory_firstDue.2.1 18 = .ok (.ifCond .eq 38, 3) := by decide +kernel
theorem d_Memory_firstDue_21 : decode M_Memory_firstDue.2.1 21 = .ok (.aload_n 0, 1) := by decide +kernel
theorem d_Memory_firstDue_22 : decode M_Memory_firstDue.2.1 22 = .ok (.getfield 32, 3) := by decide +kernel
theorem d_Memory_firstDue_25 : decode M_Memory_firstDue.2.1 25 = .ok (.iload_n 2, 1) := by decide +kernel
theorem d_Memory_firstDue_26 : decode M_Memory_firstDue.2.1 26 = .ok (.iaload, 1) := by decide +kernel
theorem d_Memory_firstDue_27 : decode M_Memory_firstDue.2.1 27 = .ok (.aload_n 0, 1) := by decide +kernel
theorem d_Memory_firstDue_28 : decode M_Memory_firstDue.2.1 28 = .ok (.getfield 38, 3) := by decide +kernel
theorem d_Memory_firstDue_31 : decode M_Memory_firstDue.2.1 31 = .ok (.if_icmp .gt 25, 3) := by decide +kernel
theorem d_Memory_firstDue_34 : decode M_Memory_firstDue.2.1 34 = .ok (.iload_n 1, 1) := by decide +kernel
theorem d_Memory_firstDue_35 : decode M_Memory_firstDue.2.1 35 = .ok (.iconst (-1), 1) := by decide +kernel
theorem d_Memory_firstDue_36 : decode M_Memory_firstDue.2.1 36 = .ok (.if_icmp .eq 18, 3) := by decide +kernel
theorem d_Memory_firstDue_39 : decode M_Memory_firstDue.2.1 39 = .ok (.aload_n 0, 1) := by decide +kernel
theorem d_Memory_firstDue_40 : decode M_Memory_firstDue.2.1 40 = .ok (.getfield 32, 3) := by decide +kernel
theorem d_Memory_firstDue_43 : decode M_Memory_firstDue.2.1 43 = .ok (.iload_n 2, 1) := by decide +kernel
theorem d_Memory_firstDue_44 : decode M_Memory_firstDue.2.1 44 = .ok (.iaload, 1) := by decide +kernel
theorem d_Memory_firstDue_45 : decode M_Memory_firstDue.2.1 45 = .ok (.aload_n 0, 1) := by decide +kernel
theorem d_Memory_firstDue_46 : decode M_Memory_firstDue.2.1 46 = .ok (.getfield 32, 3) := by decide +kernel
theorem d_Memory_firstDue_49 : decode M_Memory_firstDue.2.1 49 = .ok (.iload_n 1, 1) := by decide +kernel
theorem d_Memory_firstDue_50 : decode M_Memory_firstDue.2.1 50 = .ok (.iaload, 1) := by decide +kernel
theorem d_Memory_firstDue_51 : decode M_Memory_firstDue.2.1 51 = .ok (.if_icmp .ge 5, 3) := by decide +kernel
theorem d_Memory_firstDue_54 : decode M_Memory_firstDue.2.1 54 = .ok (.iload_n 2, 1) := by decide +kernel
theorem d_Memory_firstDue_55 : decode M_Memory_firstDue.2.1 55 = .ok (.istore_n 1, 1) := by decide +kernel
theorem d_Memory_firstDue_56 : decode M_Memory_firstDue.2.1 56 = .ok (.iinc 2 1, 3) := by decide +kernel
theorem d_Memory_firstDue_59 : decode M_Memory_firstDue.2.1 59 = .ok (.goto (-55), 3) := by decide +kernel
theorem d_Memory_firstDue_62 : decode M_Memory_firstDue.2.1 62 = .ok (.iload_n 1, 1) := by decide +kernel
theorem d_Memory_firstDue_63 : decode M_Memory_firstDue.2.1 63 = .ok (.ireturn, 1) := by decide +kernel
theorem d_PageList_append_0 : decode M_PageList_append.2.1 0 = .ok (.aload_n 0, 1) := by decide +kernel
theorem d_PageList_append_1 : decode M_PageList_append.2.1 1 = .ok (.getfield 9, 3) := by decide +kernel
theorem d_PageList_append_4 : decode M_PageList_append.2.1 4 = .ok (.aload_n 0, 1) := by decide +kernel
theorem d_PageList_append_5 : decode M_PageList_append.2.1 5 = .ok (.getfield 17, 3) := by decide +kernel
theorem d_PageList_append_8 : decode M_PageList_append.2.1 8 = .ok (.iload_n 1, 1) := by decide +kernel
theorem d_PageList_append_9 : decode M_PageList_append.2.1 9 = .ok (.iastore, 1) := by decide +kernel
theorem d_PageList_append_10 : decode M_PageList_append.2.1 10 = .ok (.aload_n 0, 1) := by decide +kernel
theorem d_PageList_append_11 : decode M_PageList_append.2.1 11 = .ok (.aload_n 0, 1) := by decide +kernel
theorem d_PageList_append_12 : decode M_PageList_append.2.1 12 = .ok (.getfield 17, 3) := by decide +kernel
theorem d_PageList_append_15 : decode M_PageList_append.2.1 15 = .ok (.iconst 1, 1) := by decide +kernel
theorem d_PageList_append_16 : decode M_PageList_append.2.1 16 = .ok (.iadd, 1) := by decide +kernel
theorem d_PageList_append_17 : decode M_PageList_append.2.1 17 = .ok (.bipush 8, 2) := by decide +kernel
theorem d_PageList_append_19 : decode M_PageList_append.2.1 19 = .ok (.irem, 1) := by decide +kernel
theorem d_PageList_append_20 : decode M_PageList_append.2.1 20 = .ok (.putfield 17, 3) := by decide +kernel
theorem d_PageList_append_23 : decode M_PageList_append.2.1 23 = .ok (.aload_n 0, 1) := by decide +kernel
theorem d_PageList_append_24 : decode M_PageList_append.2.1 24 = .ok (.bipush 8, 2) := by decide +kernel
theorem d_PageList_append_26 : decode M_PageList_append.2.1 26 = .ok (.aload_n 0, 1) := by decide +kernel
theorem d_PageList_append_27 : decode M_PageList_append.2.1 27 = .ok (.getfield 13, 3) := by decide +kernel
theorem d_PageList_append_30 : decode M_PageList_append.2.1 30 = .ok (.iconst 1, 1) := by decide +kernel
theorem d_PageList_append_31 : decode M_PageList_append.2.1 31 = .ok (.iadd, 1) := by decide +kernel
theorem d_PageList_append_32 : decode M_PageList_append.2.1 32 = .ok (.invokestatic 20, 3) := by decide +kernel
theorem d_PageList_append_35 : decode M_PageList_append.2.1 35 = .ok (.putfield 13, 3) := by decide +kernel
theorem d_PageList_append_38 : decode M_PageList_append.2.1 38 = .ok (.return_, 1) := by decide +kernel
theorem d_K_op_0 : decode M_K_op.2.1 0 = .ok (.aload_n 0, 1) := by decide +kernel
theorem d_K_op_1 : decode M_K_op.2.1 1 = .ok (.iload_n 1, 1) := by decide +kernel
theorem d_K_op_2 : decode M_K_op.2.1 2 = .ok (.invokevirtual 84, 3) := by decide +kernel
theorem d_K_op_5 : decode M_K_op.2.1 5 = .ok (.ifCond .eq 15, 3) := by decide +kernel
theorem d_K_op_8 : decode M_K_op.2.1 8 = .ok (.iload_n 2, 1) := by decide +kernel
theorem d_K_op_9 : decode M_K_op.2.1 9 = .ok (.iload_n 3, 1) := by decide +kernel
theorem d_K_op_10 : decode M_K_op.2.1 10 = .ok (.iload 4, 2) := by decide +kernel
theorem d_K_op_12 : decode M_K_op.2.1 12 = .ok (.iload 5, 2) := by decide +kernel
theorem d_K_op_14 : decode M_K_op.2.1 14 = .ok (.invokestatic 156, 3) := by decide +kernel
theorem d_K_op_17 : decode M_K_op.2.1 17 = .ok (.ifCond .ne 5, 3) := by decide +kernel
theorem d_K_op_20 : decode M_K_op.2.1 20 = .ok (.iconst (-1), 1) := by decide +kernel
theorem d_K_op_21 : decode M_K_op.2.1 21 = .ok (.ireturn, 1) := by decide +kernel
theorem d_K_op_22 : decode M_K_op.2.1 22 = .ok (.aload_n 0, 1) := by decide +kernel
theorem d_K_op_23 : decode M_K_op.2.1 23 = .ok (.getfield 49, 3) := by decide +kernel
theorem d_K_op_26 : decode M_K_op.2.1 26 = .ok (.iload_n 1, 1) := by decide +kernel
theorem d_K_op_27 : decode M_K_op.2.1 27 = .ok (.aaload, 1) := by decide +kernel
theorem d_K_op_28 : decode M_K_op.2.1 28 = .ok (.getfield 161, 3) := by decide +kernel
theorem d_K_op_31 : decode M_K_op.2.1 31 = .ok (.astore 6, 2) := by decide +kernel
theorem d_K_op_33 : decode M_K_op.2.1 33 = .ok (.aload 6, 2) := by decide +kernel
theorem d_K_op_35 : decode M_K_op.2.1 35 = .ok (.invokevirtual 165, 3) := by decide +kernel
theorem d_K_op_38 : decode M_K_op.2.1 38 = .ok (.ifCond .eq 6, 3) := by decide +kernel
theorem d_K_op_41 : decode M_K_op.2.1 41 = .ok (.bipush (-2), 2) := by decide +kernel
theorem d_K_op_43 : decode M_K_op.2.1 43 = .ok (.ireturn, 1) := by decide +kernel
theorem d_K_op_44 : decode M_K_op.2.1 44 = .ok (.aload 6, 2) := by decide +kernel
theorem d_K_op_46 : decode M_K_op.2.1 46 = .ok (.iload_n 2, 1) := by decide +kernel
theorem d_K_op_47 : decode M_K_op.2.1 47 = .ok (.iload_n 3, 1) := by decide +kernel
theorem d_K_op_48 : decode M_K_op.2.1 48 = .ok (.iload 4, 2) := by decide +kernel
theorem d_K_op_50 : decode M_K_op.2.1 50 = .ok (.iload 5, 2) := by decide +kernel
theorem d_K_op_52 : decode M_K_op.2.1 52 = .ok (.invokevirtual 169, 3) := by decide +kernel
theorem d_K_op_55 : decode M_K_op.2.1 55 = .ok (.aload 6, 2) := by decide +kernel
theorem d_K_op_57 : decode M_K_op.2.1 57 = .ok (.getfield 171, 3) := by decide +kernel
theorem d_K_op_60 : decode M_K_op.2.1 60 = .ok (.iconst 1, 1) := by decide +kernel
theorem d_K_op_61 : decode M_K_op.2.1 61 = .ok (.isub, 1) := by decide +kernel
theorem d_K_op_62 : decode M_K_op.2.1 62 = .ok (.ireturn, 1) := by decide +kernel
theorem d_Program_isInstruction_0 : decode M_Program_isInstruction.2.1 0 = .ok (.iload_n 0, 1) := by decide +kernel
theorem d_Program_isInstruction_1 : decode M_Program_isInstruction.2.1 1 = .ok (.iconst 0, 1) := by decide +kernel
theorem d_Program_isInstruction_2 : decode M_Program_isInstruction.2.1 2 = .ok (.bipush 11, 2) := by decide +kernel
theorem d_Program_isInstruction_4 : decode M_Program_isInstruction.2.1 4 = .ok (.invokestatic 26, 3) := by decide +kernel
theorem d_Program_isInstruction_7 : decode M_Program_isInstruction.2.1 7 = .ok (.ifCond .ne 5, 3) := by decide +kernel
theorem d_Program_isInstruction_10 : decode M_Program_isInstruction.2.1 10 = .ok (.iconst 0, 1) := by decide +kernel
theorem d_Program_isInstruction_11 : decode M_Program_isInstruction.2.1 11 = .ok (.ireturn, 1) := by decide +kernel
theorem d_Program_isInstruction_12 : decode M_Program_isInstruction.2.1 12 = .ok (.iload_n 0, 1) := by decide +kernel
theorem d_Program_isInstruction_13 : decode M_Program_isInstruction.2.1 13 = .ok (.ifCond .eq 8, 3) := by decide +kernel
theorem d_Program_isInstruction_16 : decode M_Program_isInstruction.2.1 16 = .ok (.iload_n 0, 1) := by decide +kernel
theorem d_Program_isInstruction_17 : decode M_Program_isInstruction.2.1 17 = .ok (.iconst 1, 1) := by decide +kernel
theorem d_Program_isInstruction_18 : decode M_Program_isInstruction.2.1 18 = .ok (.if_icmp .ne 11, 3) := by decide +kernel
theorem d_Program_isInstruction_21 : decode M_Program_isInstruction.2.1 21 = .ok (.iload_n 1, 1) := by decide +kernel
theorem d_Program_isInstruction_22 : decode M_Program_isInstruction.2.1 22 = .ok (.iconst 0, 1) := by decide +kernel
theorem d_Program_isInstruction_23 : decode M_Program_isInstruction.2.1 23 = .ok (.bipush 63, 2) := by decide +kernel
theorem d_Program_isInstruction_25 : decode M_Program_isInstruction.2.1 25 = .ok (.invokestatic 26, 3) := by decide +kernel
theorem d_Program_isInstruction_28 : decode M_Program_isInstruction.2.1 28 = .ok (.ireturn, 1) := by decide +kernel
theorem d_Program_isInstruction_29 : decode M_Program_isInstruction.2.1 29 = .ok (.iload_n 0, 1) := by decide +kernel
theorem d_Program_isInstruction_30 : decode M_Program_isInstruction.2.1 30 = .ok (.bipush 6, 2) := by decide +kernel
theorem d_Program_isInstruction_32 : decode M_Program_isInstruction.2.1 32 = .ok (.if_icmp .ne 11, 3) := by decide +kernel
theorem d_Program_isInstruction_35 : decode M_Program_isInstruction.2.1 35 = .ok (.iload_n 1, 1) := by decide +kernel
theorem d_Program_isInstruction_36 : decode M_Program_isInstruction.2.1 36 = .ok (.iconst 0, 1) := by decide +kernel
theorem d_Program_isInstruction_37 : decode M_Program_isInstruction.2.1 37 = .ok (.bipush 31, 2) := by decide +kernel
theorem d_Program_isInstruction_39 : decode M_Program_isInstruction.2.1 39 = .ok (.invokestatic 26, 3) := by decide +kernel
theorem d_Program_isInstruction_42 : decode M_Program_isInstruction.2.1 42 = .ok (.ireturn, 1) := by decide +kernel
theorem d_Program_isInstruction_43 : decode M_Program_isInstruction.2.1 43 = .ok (.iload_n 0, 1) := by decide +kernel
theorem d_Program_isInstruction_44 : decode M_Program_isInstruction.2.1 44 = .ok (.invokestatic 32, 3) := by decide +kernel
theorem d_Program_isInstruction_47 : decode M_Program_isInstruction.2.1 47 = .ok (.ifCond .eq 23, 3) := by decide +kernel
theorem d_Program_isInstruction_50 : decode M_Program_isInstruction.2.1 50 = .ok (.iload_n 2, 1) := by decide +kernel
theorem d_Program_isInstruction_51 : decode M_Program_isInstruction.2.1 51 = .ok (.iconst 0, 1) := by decide +kernel
theorem d_Program_isInstruction_52 : decode M_Program_isInstruction.2.1 52 = .ok (.bipush 15, 2) := by decide +kernel
theorem d_Program_isInstruction_54 : decode M_Program_isInstruction.2.1 54 = .ok (.invokestatic 26, 3) := by decide +kernel
theorem d_Program_isInstruction_57 : decode M_Program_isInstruction.2.1 57 = .ok (.ifCond .eq 17, 3) := by decide +kernel
theorem d_Program_isInstruction_60 : decode M_Program_isInstruction.2.1 60 = .ok (.iload_n 3, 1) := by decide +kernel
theorem d_Program_isInstruction_61 : decode M_Program_isInstruction.2.1 61 = .ok (.iconst 0, 1) := by decide +kernel
theorem d_Program_isInstruction_62 : decode M_Program_isInstruction.2.1 62 = .ok (.bipush 15, 2) := by decide +kernel
theorem d_Program_isInstruction_64 : decode M_Program_isInstruction.2.1 64 = .ok (.invokestatic 26, 3) := by decide +kernel
theorem d_Program_isInstruction_67 : decode M_Program_isInstruction.2.1 67 = .ok (.ifCond .eq 7, 3) := by decide +kernel
theorem d_Program_isInstruction_70 : decode M_Program_isInstruction.2.1 70 = .ok (.iconst 1, 1) := by decide +kernel
theorem d_Program_isInstruction_71 : decode M_Program_isInstruction.2.1 71 = .ok (.goto 4, 3) := by decide +kernel
theorem d_Program_isInstruction_74 : decode M_Program_isInstruction.2.1 74 = .ok (.iconst 0, 1) := by decide +kernel
theorem d_Program_isInstruction_75 : decode M_Program_isInstruction.2.1 75 = .ok (.ireturn, 1) := by decide +kernel
theorem d_Program_isTest_0 : decode M_Program_isTest.2.1 0 = .ok (.iload_n 0, 1) := by decide +kernel
theorem d_Program_isTest_1 : decode M_Program_isTest.2.1 1 = .ok (.bipush 7, 2) := by decide +kernel
theorem d_Program_isTest_3 : decode M_Program_isTest.2.1 3 = .ok (.bipush 9, 2) := by decide +kernel
theorem d_Program_isTest_5 : decode M_Program_isTest.2.1 5 = .ok (.invokestatic 26, 3) := by decide +kernel
theorem d_Program_isTest_8 : decode M_Program_isTest.2.1 8 = .ok (.ireturn, 1) := by decide +kernel
theorem d_Program_isFull_0 : decode M_Program_isFull.2.1 0 = .ok (.aload_n 0, 1) := by decide +kernel
theorem d_Program_isFull_1 : decode M_Program_isFull.2.1 1 = .ok (.getfield 22, 3) := by decide +kernel
theorem d_Program_isFull_4 : decode M_Program_isFull.2.1 4 = .ok (.bipush 16, 2) := by decide +kernel
theorem d_Program_isFull_6 : decode M_Program_isFull.2.1 6 = .ok (.if_icmp .ne 7, 3) := by decide +kernel
theorem d_Program_isFull_9 : decode M_Program_isFull.2.1 9 = .ok (.iconst 1, 1) := by decide +kernel
theorem d_Program_isFull_10 : decode M_Program_isFull.2.1 10 = .ok (.goto 4, 3) := by decide +kernel
theorem d_Program_isFull_13 : decode M_Program_isFull.2.1 13 = .ok (.iconst 0, 1) := by decide +kernel
theorem d_Program_isFull_14 : decode M_Program_isFull.2.1 14 = .ok (.ireturn, 1) := by decide +kernel
theorem d_Program_append_0 : decode M_Program_append.2.1 0 = .ok (.aload_n 0, 1) := by decide +kernel
theorem d_Program_append_1 : decode M_Program_append.2.1 1 = .ok (.getfield 9, 3) := by decide +kernel
theorem d_Program_append_4 : decode M_Program_append.2.1 4 = .ok (.aload_n 0, 1) := by decide +kernel
theorem d_Program_append_5 : decode M_Program_append.2.1 5 = .ok (.getfield 22, 3) := by decide +kernel
theorem d_Program_append_8 : decode M_Program_append.2.1 8 = .ok (.iload_n 1, 1) := by decide +kernel
theorem d_Program_append_9 : decode M_Program_append.2.1 9 = .ok (.iastore, 1) := by decide +kernel
theorem d_Program_append_10 : decode M_Program_append.2.1 10 = .ok (.aload_n 0, 1) := by decide +kernel
theorem d_Program_append_11 : decode M_Program_append.2.1 11 = .ok (.getfield 13, 3) := by decide +kernel
theorem d_Program_append_14 : decode M_Program_append.2.1 14 = .ok (.aload_n 0, 1) := by decide +kernel
theorem d_Program_append_15 : decode M_Program_append.2.1 15 = .ok (.getfield 22, 3) := by decide +kernel
theorem d_Program_append_18 : decode M_Program_append.2.1 18 = .ok (.iload_n 2, 1) := by decide +kernel
theorem d_Program_append_19 : decode M_Program_append.2.1 19 = .ok (.iastore, 1) := by decide +kernel
theorem d_Program_append_20 : decode M_Program_append.2.1 20 = .ok (.aload_n 0, 1) := by decide +kernel
theorem d_Program_append_21 : decode M_Program_append.2.1 21 = .ok (.getfield 16, 3) := by decide +kernel
theorem d_Program_append_24 : decode M_Program_append.2.1 24 = .ok (.aload_n 0, 1) := by decide +kernel
theorem d_Program_append_25 : decode M_Program_append.2.1 25 = .ok (.getfield 22, 3) := by decide +kernel
theorem d_Program_append_28 : decode M_Program_append.2.1 28 = .ok (.iload_n 1, 1) := by decide +kernel
theorem d_Program_append_29 : decode M_Program_append.2.1 29 = .ok (.invokestatic 32, 3) := by decide +kernel
theorem d_Program_append_32 : decode M_Program_append.2.1 32 = .ok (.ifCond .eq 7, 3) := by decide +kernel
theorem d_Program_append_35 : decode M_Program_append.2.1 35 = .ok (.iload_n 3, 1) := by decide +kernel
theorem d_Program_append_36 : decode M_Program_append.2.1 36 = .ok (.goto 4, 3) := by decide +kernel
theorem d_Program_append_39 : decode M_Program_append.2.1 39 = .ok (.iconst 0, 1) := by decide +kernel
theorem d_Program_append_40 : decode M_Program_append.2.1 40 = .ok (.iastore, 1) := by decide +kernel
theorem d_Program_append_41 : decode M_Program_append.2.1 41 = .ok (.aload_n 0, 1) := by decide +kernel
theorem d_Program_append_42 : decode M_Program_append.2.1 42 = .ok (.getfield 19, 3) := by decide +kernel
theorem d_Program_append_45 : decode M_Program_append.2.1 45 = .ok (.aload_n 0, 1) := by decide +kernel
theorem d_Program_append_46 : decode M_Program_append.2.1 46 = .ok (.getfield 22, 3) := by decide +kernel
theorem d_Program_append_49 : decode M_Program_append.2.1 49 = .ok (.iload_n 1, 1) := by decide +kernel
theorem d_Program_append_50 : decode M_Program_append.2.1 50 = .ok (.invokestatic 32, 3) := by decide +kernel
theorem d_Program_append_53 : decode M_Program_append.2.1 53 = .ok (.ifCond .eq 8, 3) := by decide +kernel
theorem d_Program_append_56 : decode M_Program_append.2.1 56 = .ok (.iload 4, 2) := by decide +kernel
theorem d_Program_append_58 : decode M_Program_append.2.1 58 = .ok (.goto 4, 3) := by decide +kernel
theorem d_Program_append_61 : decode M_Program_append.2.1 61 = .ok (.iconst 0, 1) := by decide +kernel
theorem d_Program_append_62 : decode M_Program_append.2.1 62 = .ok (.iastore, 1) := by decide +kernel
theorem d_Program_append_63 : decode M_Program_append.2.1 63 = .ok (.aload_n 0, 1) := by decide +kernel
theorem d_Program_append_64 : decode M_Program_append.2.1 64 = .ok (.dup, 1) := by decide +kernel
theorem d_Program_append_65 : decode M_Program_append.2.1 65 = .ok (.getfield 22, 3) := by decide +kernel
theorem d_Program_append_68 : decode M_Program_append.2.1 68 = .ok (.iconst 1, 1) := by decide +kernel
theorem d_Program_append_69 : decode M_Program_append.2.1 69 = .ok (.iadd, 1) := by decide +kernel
theorem d_Program_append_70 : decode M_Program_append.2.1 70 = .ok (.putfield 22, 3) := by decide +kernel
theorem d_Program_append_73 : decode M_Program_append.2.1 73 = .ok (.return_, 1) := by decide +kernel
theorem d_K_install_0 : decode M_K_install.2.1 0 = .ok (.aload_n 0, 1) := by decide +kernel
theorem d_K_install_1 : decode M_K_install.2.1 1 = .ok (.iload_n 1, 1) := by decide +kernel
theorem d_K_install_2 : decode M_K_install.2.1 2 = .ok (.invokevirtual 84, 3) := by decide +kernel
theorem d_K_install_5 : decode M_K_install.2.1 5 = .ok (.ifCond .ne 5, 3) := by decide +kernel
theorem d_K_install_8 : decode M_K_install.2.1 8 = .ok (.iconst (-1), 1) := by decide +kernel
theorem d_K_install_9 : decode M_K_install.2.1 9 = .ok (.ireturn, 1) := by decide +kernel
theorem d_K_install_10 : decode M_K_install.2.1 10 = .ok (.aload_n 0, 1) := by decide +kernel
theorem d_K_install_11 : decode M_K_install.2.1 11 = .ok (.getfield 49, 3) := by decide +kernel
theorem d_K_install_14 : decode M_K_install.2.1 14 = .ok (.iload_n 1, 1) := by decide +kernel
theorem d_K_install_15 : decode M_K_install.2.1 15 = .ok (.aaload, 1) := by decide +kernel
theorem d_K_install_16 : decode M_K_install.2.1 16 = .ok (.getfield 161, 3) := by decide +kernel
theorem d_K_install_19 : decode M_K_install.2.1 19 = .ok (.invokevirtual 174, 3) := by decide +kernel
theorem d_K_install_22 : decode M_K_install.2.1 22 = .ok (.ifCond .ne 18, 3) := by decide +kernel
theorem d_K_install_25 : decode M_K_install.2.1 25 = .ok (.aload_n 0, 1) := by decide +kernel
theorem d_K_install_26 : decode M_K_install.2.1 26 = .ok (.getfield 49, 3) := by decide +kernel
theorem d_K_install_29 : decode M_K_install.2.1 29 = .ok (.iload_n 1, 1) := by decide +kernel
theorem d_K_install_30 : decode M_K_install.2.1 30 = .ok (.aaload, 1) := by decide +kernel
theorem d_K_install_31 : decode M_K_install.2.1 31 = .ok (.getfield 161, 3) := by decide +kernel
theorem d_K_install_34 : decode M_K_install.2.1 34 = .ok (.invokevirtual 177, 3) := by decide +kernel
theorem d_K_install_37 : decode M_K_install.2.1 37 = .ok (.bipush (-5), 2) := by decide +kernel
theorem d_K_install_39 : decode M_K_install.2.1 39 = .ok (.ireturn, 1) := by decide +kernel
theorem d_K_install_40 : decode M_K_install.2.1 40 = .ok (.aload_n 0, 1) := by decide +kernel
theorem d_K_install_41 : decode M_K_install.2.1 41 = .ok (.getfield 32, 3) := by decide +kernel
theorem d_K_install_44 : decode M_K_install.2.1 44 = .ok (.iload_n 1, 1) := by decide +kernel
theorem d_K_install_45 : decode M_K_install.2.1 45 = .ok (.invokevirtual 92, 3) := by decide +kernel
theorem d_K_install_48 : decode M_K_install.2.1 48 = .ok (.aload_n 0, 1) := by decide +kernel
theorem d_K_install_49 : decode M_K_install.2.1 49 = .ok (.getfield 49, 3) := by decide +kernel
theorem d_K_install_52 : decode M_K_install.2.1 52 = .ok (.iload_n 1, 1) := by decide +kernel
theorem d_K_install_53 : decode M_K_install.2.1 53 = .ok (.aaload, 1) := by decide +kernel
theorem d_K_install_54 : decode M_K_install.2.1 54 = .ok (.getfield 161, 3) := by decide +kernel
theorem d_K_install_57 : decode M_K_install.2.1 57 = .ok (.getfield 171, 3) := by decide +kernel
theorem d_K_install_60 : decode M_K_install.2.1 60 = .ok (.ifCond .le 11, 3) := by decide +kernel
theorem d_K_install_63 : decode M_K_install.2.1 63 = .ok (.aload_n 0, 1) := by decide +kernel
theorem d_K_install_64 : decode M_K_install.2.1 64 = .ok (.getfield 32, 3) := by decide +kernel
theorem d_K_install_67 : decode M_K_install.2.1 67 = .ok (.iload_n 1, 1) := by decide +kernel
theorem d_K_install_68 : decode M_K_install.2.1 68 = .ok (.invokevirtual 180, 3) := by decide +kernel
theorem d_K_install_71 : decode M_K_install.2.1 71 = .ok (.aload_n 0, 1) := by decide +kernel
theorem d_K_install_72 : decode M_K_install.2.1 72 = .ok (.getfield 49, 3) := by decide +kernel
theorem d_K_install_75 : decode M_K_install.2.1 75 = .ok (.iload_n 1, 1) := by decide +kernel
theorem d_K_install_76 : decode M_K_install.2.1 76 = .ok (.aaload, 1) := by decide +kernel
theorem d_K_install_77 : decode M_K_install.2.1 77 = .ok (.invokevirtual 181, 3) := by decide +kernel
theorem d_K_install_80 : decode M_K_install.2.1 80 = .ok (.iconst 0, 1) := by decide +kernel
theorem d_K_install_81 : decode M_K_install.2.1 81 = .ok (.ireturn, 1) := by decide +kernel
theorem d_Program_isSound_0 : decode M_Program_isSound.2.1 0 = .ok (.iconst 0, 1) := by decide +kernel
theorem d_Program_isSound_1 : decode M_Program_isSound.2.1 1 = .ok (.istore_n 1, 1) := by decide +kernel
theorem d_Program_isSound_2 : decode M_Program_isSound.2.1 2 = .ok (.iload_n 1, 1) := by decide +kernel
theorem d_Program_isSound_3 : decode M_Program_isSound.2.1 3 = .ok (.aload_n 0, 1) := by decide +kernel
theorem d_Program_isSound_4 : decode M_Program_isSound.2.1 4 = .ok (.getfield 22, 3) := by decide +kernel
theorem d_Program_isSound_7 : decode M_Program_isSound.2.1 7 = .ok (.if_icmp .ge 50, 3) := by decide +kernel
theorem d_Program_isSound_10 : decode M_Program_isSound.2.1 10 = .ok (.iload_n 1, 1) := by decide +kernel
theorem d_Program_isSound_11 : decode M_Program_isSound.2.1 11 = .ok (.iconst 1, 1) := by decide +kernel
theorem d_Program_isSound_12 : decode M_Program_isSound.2.1 12 = .ok (.iadd, 1) := by decide +kernel
theorem d_Program_isSound_13 : decode M_Program_isSound.2.1 13 = .ok (.aload_n 0, 1) := by decide +kernel
theorem d_Program_isSound_14 : decode M_Program_isSound.2.1 14 = .ok (.getfield 16, 3) := by decide +kernel
theorem d_Program_isSound_17 : decode M_Program_isSound.2.1 17 = .ok (.iload_n 1, 1) := by decide +kernel
theorem d_Program_isSound_18 : decode M_Program_isSound.2.1 18 = .ok (.iaload, 1) := by decide +kernel
theorem d_Program_isSound_19 : decode M_Program_isSound.2.1 19 = .ok (.aload_n 0, 1) := by decide +kernel
theorem d_Program_isSound_20 : decode M_Program_isSound.2.1 20 = .ok (.getfield 19, 3) := by decide +kernel
theorem d_Program_isSound_23 : decode M_Program_isSound.2.1 23 = .ok (.iload_n 1, 1) := by decide +kernel
theorem d_Program_isSound_24 : decode M_Program_isSound.2.1 24 = .ok (.iaload, 1) := by decide +kernel
theorem d_Program_isSound_25 : decode M_Program_isSound.2.1 25 = .ok (.invokestatic 36, 3) := by decide +kernel
theorem d_Program_isSound_28 : decode M_Program_isSound.2.1 28 = .ok (.iadd, 1) := by decide +kernel
theorem d_Program_isSound_29 : decode M_Program_isSound.2.1 29 = .ok (.istore_n 2, 1) := by decide +kernel
theorem d_Program_isSound_30 : decode M_Program_isSound.2.1 30 = .ok (.aload_n 0, 1) := by decide +kernel
theorem d_Program_isSound_31 : decode M_Program_isSound.2.1 31 = .ok (.getfield 9, 3) := by decide +kernel
theorem d_Program_isSound_34 : decode M_Program_isSound.2.1 34 = .ok (.iload_n 1, 1) := by decide +kernel
theorem d_Program_isSound_35 : decode M_Program_isSound.2.1 35 = .ok (.iaload, 1) := by decide +kernel
theorem d_Program_isSound_36 : decode M_Program_isSound.2.1 36 = .ok (.bipush 9, 2) := by decide +kernel
theorem d_Program_isSound_38 : decode M_Program_isSound.2.1 38 = .ok (.if_icmp .gt 13, 3) := by decide +kernel
theorem d_Program_isSound_41 : decode M_Program_isSound.2.1 41 = .ok (.iload_n 2, 1) := by decide +kernel
theorem d_Program_isSound_42 : decode M_Program_isSound.2.1 42 = .ok (.aload_n 0, 1) := by decide +kernel
theorem d_Program_isSound_43 : decode M_Program_isSound.2.1 43 = .ok (.getfield 22, 3) := by decide +kernel
theorem d_Program_isSound_46 : decode M_Program_isSound.2.1 46 = .ok (.if_icmp .lt 5, 3) := by decide +kernel
theorem d_Program_isSound_49 : decode M_Program_isSound.2.1 49 = .ok (.iconst 0, 1) := by decide +kernel
theorem d_Program_isSound_50 : decode M_Program_isSound.2.1 50 = .ok (.ireturn, 1) := by decide +kernel
theorem d_Program_isSound_51 : decode M_Program_isSound.2.1 51 = .ok (.iinc 1 1, 3) := by decide +kernel
theorem d_Program_isSound_54 : decode M_Program_isSound.2.1 54 = .ok (.goto (-52), 3) := by decide +kernel
theorem d_Program_isSound_57 : decode M_Program_isSound.2.1 57 = .ok (.iconst 1, 1) := by decide +kernel
theorem d_Program_isSound_58 : decode M_Program_isSound.2.1 58 = .ok (.ireturn, 1) := by decide +kernel
theorem d_FilterOrder_append_0 : decode M_FilterOrder_append.2.1 0 = .ok (.aload_n 0, 1) := by decide +kernel
theorem d_FilterOrder_append_1 : decode M_FilterOrder_append.2.1 1 = .ok (.getfield 9, 3) := by decide +kernel
theorem d_FilterOrder_append_4 : decode M_FilterOrder_append.2.1 4 = .ok (.aload_n 0, 1) := by decide +kernel
theorem d_FilterOrder_append_5 : decode M_FilterOrder_append.2.1 5 = .ok (.getfield 15, 3) := by decide +kernel
theorem d_FilterOrder_append_8 : decode M_FilterOrder_append.2.1 8 = .ok (.iload_n 1, 1) := by decide +kernel
theorem d_FilterOrder_append_9 : decode M_FilterOrder_append.2.1 9 = .ok (.iastore, 1) := by decide +kernel
theorem d_FilterOrder_append_10 : decode M_FilterOrder_append.2.1 10 = .ok (.aload_n 0, 1) := by decide +kernel
theorem d_FilterOrder_append_11 : decode M_FilterOrder_append.2.1 11 = .ok (.dup, 1) := by decide +kernel
theorem d_FilterOrder_append_12 : decode M_FilterOrder_append.2.1 12 = .ok (.getfield 15, 3) := by decide +kernel
theorem d_FilterOrder_append_15 : decode M_FilterOrder_append.2.1 15 = .ok (.iconst 1, 1) := by decide +kernel
theorem d_FilterOrder_append_16 : decode M_FilterOrder_append.2.1 16 = .ok (.iadd, 1) := by decide +kernel
theorem d_FilterOrder_append_17 : decode M_FilterOrder_append.2.1 17 = .ok (.putfield 15, 3) := by decide +kernel
theorem d_FilterOrder_append_20 : decode M_FilterOrder_append.2.1 20 = .ok (.return_, 1) := by decide +kernel
theorem d_Application_draftBecomesFilter_0 : decode M_Application_draftBecomesFilter.2.1 0 = .ok (.aload_n 0, 1) := by decide +kernel
theorem d_Application_draftBecomesFilter_1 : decode M_Application_draftBecomesFilter.2.1 1 = .ok (.getfield 37, 3) := by decide +kernel
theorem d_Application_draftBecomesFilter_4 : decode M_Application_draftBecomesFilter.2.1 4 = .ok (.astore_n 1, 1) := by decide +kernel
theorem d_Application_draftBecomesFilter_5 : decode M_Application_draftBecomesFilter.2.1 5 = .ok (.aload_n 0, 1) := by decide +kernel
theorem d_Application_draftBecomesFilter_6 : decode M_Application_draftBecomesFilter.2.1 6 = .ok (.aload_n 0, 1) := by decide +kernel
theorem d_Application_draftBecomesFilter_7 : decode M_Application_draftBecomesFilter.2.1 7 = .ok (.getfield 33, 3) := by decide +kernel
theorem d_Application_draftBecomesFilter_10 : decode M_Application_draftBecomesFilter.2.1 10 = .ok (.putfield 37, 3) := by decide +kernel
theorem d_Application_draftBecomesFilter_13 : decode M_Application_draftBecomesFilter.2.1 13 = .ok (.aload_n 0, 1) := by decide +kernel
theorem d_Application_draftBecomesFilter_14 : decode M_Application_draftBecomesFilter.2.1 14 = .ok (.aload_n 1, 1) := by decide +kernel
theorem d_Application_draftBecomesFilter_15 : decode M_Application_draftBecomesFilter.2.1 15 = .ok (.putfield 33, 3) := by decide +kernel
theorem d_Application_draftBecomesFilter_18 : decode M_Application_draftBecomesFilter.2.1 18 = .ok (.aload_n 0, 1) := by decide +kernel
theorem d_Application_draftBecomesFilter_19 : decode M_Application_draftBecomesFilter.2.1 19 = .ok (.getfield 33, 3) := by decide +kernel
theorem d_Application_draftBecomesFilter_22 : decode M_Application_draftBecomesFilter.2.1 22 = .ok (.invokevirtual 57, 3) := by decide +kernel
theorem d_Application_draftBecomesFilter_25 : decode M_Application_draftBecomesFilter.2.1 25 = .ok (.return_, 1) := by decide +kernel
theorem d_K_push_0 : decode M_K_push.2.1 0 = .ok (.iload_n 1, 1) := by decide +kernel
theorem d_K_push_1 : decode M_K_push.2.1 1 = .ok (.iconst 0, 1) := by decide +kernel
theorem d_K_push_2 : decode M_K_push.2.1 2 = .ok (.sipush 255, 3) := by decide +kernel
theorem d_K_push_5 : decode M_K_push.2.1 5 = .ok (.invokestatic 108, 3) := by decide +kernel
theorem d_K_push_8 : decode M_K_push.2.1 8 = .ok (.ifCond .ne 5, 3) := by decide +kernel
theorem d_K_push_11 : decode M_K_push.2.1 11 = .ok (.iconst (-1), 1) := by decide +kernel
theorem d_K_push_12 : decode M_K_push.2.1 12 = .ok (.ireturn, 1) := by decide +kernel
theorem d_K_push_13 : decode M_K_push.2.1 13 = .ok (.aload_n 0, 1) := by decide +kernel
theorem d_K_push_14 : decode M_K_push.2.1 14 = .ok (.getfield 39, 3) := by decide +kernel
theorem d_K_push_17 : decode M_K_push.2.1 17 = .ok (.invokevirtual 184, 3) := by decide +kernel
theorem d_K_push_20 : decode M_K_push.2.1 20 = .ok (.ifCond .eq 6, 3) := by decide +kernel
theorem d_K_push_23 : decode M_K_push.2.1 23 = .ok (.bipush (-2), 2) := by decide +kernel
theorem d_K_push_25 : decode M_K_push.2.1 25 = .ok (.ireturn, 1) := by decide +kernel
theorem d_K_push_26 : decode M_K_push.2.1 26 = .ok (.aload_n 0, 1) := by decide +kernel
theorem d_K_push_27 : decode M_K_push.2.1 27 = .ok (.getfield 39, 3) := by decide +kernel
theorem d_K_push_30 : decode M_K_push.2.1 30 = .ok (.iload_n 1, 1) := by decide +kernel
theorem d_K_push_31 : decode M_K_push.2.1 31 = .ok (.invokevirtual 185, 3) := by decide +kernel
theorem d_K_push_34 : decode M_K_push.2.1 34 = .ok (.aload_n 0, 1) := by decide +kernel
theorem d_K_push_35 : decode M_K_push.2.1 35 = .ok (.getfield 39, 3) := by decide +kernel
theorem d_K_push_38 : decode M_K_push.2.1 38 = .ok (.getfield 186, 3) := by decide +kernel
theorem d_K_push_41 : decode M_K_push.2.1 41 = .ok (.ireturn, 1) := by decide +kernel
theorem d_Frame_isFull_0 : decode M_Frame_isFull.2.1 0 = .ok (.aload_n 0, 1) := by decide +kernel
theorem d_Frame_isFull_1 : decode M_Frame_isFull.2.1 1 = .ok (.getfield 13, 3) := by decide +kernel
theorem d_Frame_isFull_4 : decode M_Frame_isFull.2.1 4 = .ok (.bipush 16, 2) := by decide +kernel
theorem d_Frame_isFull_6 : decode M_Frame_isFull.2.1 6 = .ok (.if_icmp .ne 7, 3) := by decide +kernel
theorem d_Frame_isFull_9 : decode M_Frame_isFull.2.1 9 = .ok (.iconst 1, 1) := by decide +kernel
theorem d_Frame_isFull_10 : decode M_Frame_isFull.2.1 10 = .ok (.goto 4, 3) := by decide +kernel
theorem d_Frame_isFull_13 : decode M_Frame_isFull.2.1 13 = .ok (.iconst 0, 1) := by decide +kernel
theorem d_Frame_isFull_14 : decode M_Frame_isFull.2.1 14 = .ok (.ireturn, 1) := by decide +kernel
theorem d_Frame_append_0 : decode M_Frame_append.2.1 0 = .ok (.aload_n 0, 1) := by decide +kernel
theorem d_Frame_append_1 : decode M_Frame_append.2.1 1 = .ok (.getfield 9, 3) := by decide +kernel
theorem d_Frame_append_4 : decode M_Frame_append.2.1 4 = .ok (.aload_n 0, 1) := by decide +kernel
theorem d_Frame_append_5 : decode M_Frame_append.2.1 5 = .ok (.getfield 13, 3) := by decide +kernel
theorem d_Frame_append_8 : decode M_Frame_append.2.1 8 = .ok (.iload_n 1, 1) := by decide +kernel
theorem d_Frame_append_9 : decode M_Frame_append.2.1 9 = .ok (.iastore, 1) := by decide +kernel
theorem d_Frame_append_10 : decode M_Frame_append.2.1 10 = .ok (.aload_n 0, 1) := by decide +kernel
theorem d_Frame_append_11 : decode M_Frame_append.2.1 11 = .ok (.dup, 1) := by decide +kernel
theorem d_Frame_append_12 : decode M_Frame_append.2.1 12 = .ok (.getfield 13, 3) := by decide +kernel
theorem d_Frame_append_15 : decode M_Frame_append.2.1 15 = .ok (.iconst 1, 1) := by decide +kernel
theorem d_Frame_append_16 : decode M_Frame_append.2.1 16 = .ok (.iadd, 1) := by decide +kernel
theorem d_Frame_append_17 : decode M_Frame_append.2.1 17 = .ok (.putfield 13, 3) := by decide +kernel
theorem d_Frame_append_20 : decode M_Frame_append.2.1 20 = .ok (.return_, 1) := by decide +kernel
theorem d_K_arrive_0 : decode M_K_arrive.2.1 0 = .ok (.aload_n 0, 1) := by decide +kernel
theorem d_K_arrive_1 : decode M_K_arrive.2.1 1 = .ok (.invokevirtual 187, 3) := by decide +kernel
theorem d_K_arrive_4 : decode M_K_arrive.2.1 4 = .ok (.istore_n 1, 1) := by decide +kernel
theorem d_K_arrive_5 : decode M_K_arrive.2.1 5 = .ok (.iload_n 1, 1) := by decide +kernel
theorem d_K_arrive_6 : decode M_K_arrive.2.1 6 = .ok (.iconst (-1), 1) := by decide +kernel
theorem d_K_arrive_7 : decode M_K_arrive.2.1 7 = .ok (.if_icmp .ne 7, 3) := by decide +kernel
theorem d_K_arrive_10 : decode M_K_arrive.2.1 10 = .ok (.iconst (-1), 1) := by decide +kernel
theorem d_K_arrive_11 : decode M_K_arrive.2.1 11 = .ok (.goto 8, 3) := by decide +kernel
theorem d_K_arrive_14 : decode M_K_arrive.2.1 14 = .ok (.aload_n 0, 1) := by decide +kernel
theorem d_K_arrive_15 : decode M_K_arrive.2.1 15 = .ok (.iload_n 1, 1) := by decide +kernel
end
section
/-! decode rows -/
theorem d_K_arrive_16 : decode M_K_arrive.2.1 16 = .ok (.invokevirtual 190, 3) := by decide +kernel
theorem d_K_arrive_19 : decode M_K_arrive.2.1 19 = .ok (.istore_n 2, 1) := by decide +kernel
theorem d_K_arrive_20 : decode M_K_arrive.2.1 20 = .ok (.aload_n 0, 1) := by decide +kernel
theorem d_K_arrive_21 : decode M_K_arrive.2.1 21 = .ok (.getfield 39, 3) := by decide +kernel
theorem d_K_arrive_24 : decode M_K_arrive.2.1 24 = .ok (.invokevirtual 193, 3) := by decide +kernel
theorem d_K_arrive_27 : decode M_K_arrive.2.1 27 = .ok (.iload_n 2, 1) := by decide +kernel
theorem d_K_arrive_28 : decode M_K_arrive.2.1 28 = .ok (.ireturn, 1) := by decide +kernel
theorem d_K_firstAccepting_0 : decode M_K_firstAccepting.2.1 0 = .ok (.iconst 0, 1) := by decide +kernel
theorem d_K_firstAccepting_1 : decode M_K_firstAccepting.2.1 1 = .ok (.istore_n 1, 1) := by decide +kernel
theorem d_K_firstAccepting_2 : decode M_K_firstAccepting.2.1 2 = .ok (.iload_n 1, 1) := by decide +kernel
theorem d_K_firstAccepting_3 : decode M_K_firstAccepting.2.1 3 = .ok (.aload_n 0, 1) := by decide +kernel
theorem d_K_firstAccepting_4 : decode M_K_firstAccepting.2.1 4 = .ok (.getfield 32, 3) := by decide +kernel
theorem d_K_firstAccepting_7 : decode M_K_firstAccepting.2.1 7 = .ok (.getfield 296, 3) := by decide +kernel
theorem d_K_firstAccepting_10 : decode M_K_firstAccepting.2.1 10 = .ok (.if_icmp .ge 39, 3) := by decide +kernel
theorem d_K_firstAccepting_13 : decode M_K_firstAccepting.2.1 13 = .ok (.aload_n 0, 1) := by decide +kernel
theorem d_K_firstAccepting_14 : decode M_K_firstAccepting.2.1 14 = .ok (.getfield 32, 3) := by decide +kernel
theorem d_K_firstAccepting_17 : decode M_K_firstAccepting.2.1 17 = .ok (.iload_n 1, 1) := by decide +kernel
theorem d_K_firstAccepting_18 : decode M_K_firstAccepting.2.1 18 = .ok (.invokevirtual 297, 3) := by decide +kernel
theorem d_K_firstAccepting_21 : decode M_K_firstAccepting.2.1 21 = .ok (.istore_n 2, 1) := by decide +kernel
theorem d_K_firstAccepting_22 : decode M_K_firstAccepting.2.1 22 = .ok (.aload_n 0, 1) := by decide +kernel
theorem d_K_firstAccepting_23 : decode M_K_firstAccepting.2.1 23 = .ok (.getfield 49, 3) := by decide +kernel
theorem d_K_firstAccepting_26 : decode M_K_firstAccepting.2.1 26 = .ok (.iload_n 2, 1) := by decide +kernel
theorem d_K_firstAccepting_27 : decode M_K_firstAccepting.2.1 27 = .ok (.aaload, 1) := by decide +kernel
theorem d_K_firstAccepting_28 : decode M_K_firstAccepting.2.1 28 = .ok (.getfield 300, 3) := by decide +kernel
theorem d_K_firstAccepting_31 : decode M_K_firstAccepting.2.1 31 = .ok (.aload_n 0, 1) := by decide +kernel
theorem d_K_firstAccepting_32 : decode M_K_firstAccepting.2.1 32 = .ok (.getfield 39, 3) := by decide +kernel
theorem d_K_firstAccepting_35 : decode M_K_firstAccepting.2.1 35 = .ok (.invokevirtual 303, 3) := by decide +kernel
theorem d_K_firstAccepting_38 : decode M_K_firstAccepting.2.1 38 = .ok (.ifCond .eq 5, 3) := by decide +kernel
theorem d_K_firstAccepting_41 : decode M_K_firstAccepting.2.1 41 = .ok (.iload_n 2, 1) := by decide +kernel
theorem d_K_firstAccepting_42 : decode M_K_firstAccepting.2.1 42 = .ok (.ireturn, 1) := by decide +kernel
theorem d_K_firstAccepting_43 : decode M_K_firstAccepting.2.1 43 = .ok (.iinc 1 1, 3) := by decide +kernel
theorem d_K_firstAccepting_46 : decode M_K_firstAccepting.2.1 46 = .ok (.goto (-44), 3) := by decide +kernel
theorem d_K_firstAccepting_49 : decode M_K_firstAccepting.2.1 49 = .ok (.iconst (-1), 1) := by decide +kernel
theorem d_K_firstAccepting_50 : decode M_K_firstAccepting.2.1 50 = .ok (.ireturn, 1) := by decide +kernel
theorem d_FilterOrder_appAt_0 : decode M_FilterOrder_appAt.2.1 0 = .ok (.aload_n 0, 1) := by decide +kernel
theorem d_FilterOrder_appAt_1 : decode M_FilterOrder_appAt.2.1 1 = .ok (.getfield 9, 3) := by decide +kernel
theorem d_FilterOrder_appAt_4 : decode M_FilterOrder_appAt.2.1 4 = .ok (.iload_n 1, 1) := by decide +kernel
theorem d_FilterOrder_appAt_5 : decode M_FilterOrder_appAt.2.1 5 = .ok (.iaload, 1) := by decide +kernel
theorem d_FilterOrder_appAt_6 : decode M_FilterOrder_appAt.2.1 6 = .ok (.ireturn, 1) := by decide +kernel
theorem d_Program_accepts_0 : decode M_Program_accepts.2.1 0 = .ok (.iconst 0, 1) := by decide +kernel
theorem d_Program_accepts_1 : decode M_Program_accepts.2.1 1 = .ok (.istore_n 2, 1) := by decide +kernel
theorem d_Program_accepts_2 : decode M_Program_accepts.2.1 2 = .ok (.iconst 0, 1) := by decide +kernel
theorem d_Program_accepts_3 : decode M_Program_accepts.2.1 3 = .ok (.istore_n 3, 1) := by decide +kernel
theorem d_Program_accepts_4 : decode M_Program_accepts.2.1 4 = .ok (.iconst 0, 1) := by decide +kernel
theorem d_Program_accepts_5 : decode M_Program_accepts.2.1 5 = .ok (.istore 4, 2) := by decide +kernel
theorem d_Program_accepts_7 : decode M_Program_accepts.2.1 7 = .ok (.iconst 0, 1) := by decide +kernel
theorem d_Program_accepts_8 : decode M_Program_accepts.2.1 8 = .ok (.istore 5, 2) := by decide +kernel
theorem d_Program_accepts_10 : decode M_Program_accepts.2.1 10 = .ok (.iload 5, 2) := by decide +kernel
theorem d_Program_accepts_12 : decode M_Program_accepts.2.1 12 = .ok (.bipush 16, 2) := by decide +kernel
theorem d_Program_accepts_14 : decode M_Program_accepts.2.1 14 = .ok (.if_icmp .ge 192, 3) := by decide +kernel
theorem d_Program_accepts_17 : decode M_Program_accepts.2.1 17 = .ok (.iload 4, 2) := by decide +kernel
theorem d_Program_accepts_19 : decode M_Program_accepts.2.1 19 = .ok (.aload_n 0, 1) := by decide +kernel
theorem d_Program_accepts_20 : decode M_Program_accepts.2.1 20 = .ok (.getfield 22, 3) := by decide +kernel
theorem d_Program_accepts_23 : decode M_Program_accepts.2.1 23 = .ok (.if_icmp .ge 183, 3) := by decide +kernel
theorem d_Program_accepts_26 : decode M_Program_accepts.2.1 26 = .ok (.aload_n 0, 1) := by decide +kernel
theorem d_Program_accepts_27 : decode M_Program_accepts.2.1 27 = .ok (.getfield 9, 3) := by decide +kernel
theorem d_Program_accepts_30 : decode M_Program_accepts.2.1 30 = .ok (.iload 4, 2) := by decide +kernel
theorem d_Program_accepts_32 : decode M_Program_accepts.2.1 32 = .ok (.iaload, 1) := by decide +kernel
theorem d_Program_accepts_33 : decode M_Program_accepts.2.1 33 = .ok (.istore 6, 2) := by decide +kernel
theorem d_Program_accepts_35 : decode M_Program_accepts.2.1 35 = .ok (.aload_n 0, 1) := by decide +kernel
theorem d_Program_accepts_36 : decode M_Program_accepts.2.1 36 = .ok (.getfield 13, 3) := by decide +kernel
theorem d_Program_accepts_39 : decode M_Program_accepts.2.1 39 = .ok (.iload 4, 2) := by decide +kernel
theorem d_Program_accepts_41 : decode M_Program_accepts.2.1 41 = .ok (.iaload, 1) := by decide +kernel
theorem d_Program_accepts_42 : decode M_Program_accepts.2.1 42 = .ok (.istore 7, 2) := by decide +kernel
theorem d_Program_accepts_44 : decode M_Program_accepts.2.1 44 = .ok (.iload 6, 2) := by decide +kernel
theorem d_Program_accepts_46 : decode M_Program_accepts.2.1 46 = .ok (.bipush 10, 2) := by decide +kernel
theorem d_Program_accepts_48 : decode M_Program_accepts.2.1 48 = .ok (.if_icmp .ne 14, 3) := by decide +kernel
theorem d_Program_accepts_51 : decode M_Program_accepts.2.1 51 = .ok (.iload 7, 2) := by decide +kernel
theorem d_Program_accepts_53 : decode M_Program_accepts.2.1 53 = .ok (.ifCond .eq 7, 3) := by decide +kernel
theorem d_Program_accepts_56 : decode M_Program_accepts.2.1 56 = .ok (.iconst 1, 1) := by decide +kernel
theorem d_Program_accepts_57 : decode M_Program_accepts.2.1 57 = .ok (.goto 4, 3) := by decide +kernel
theorem d_Program_accepts_60 : decode M_Program_accepts.2.1 60 = .ok (.iconst 0, 1) := by decide +kernel
theorem d_Program_accepts_61 : decode M_Program_accepts.2.1 61 = .ok (.ireturn, 1) := by decide +kernel
theorem d_Program_accepts_62 : decode M_Program_accepts.2.1 62 = .ok (.iload 6, 2) := by decide +kernel
theorem d_Program_accepts_64 : decode M_Program_accepts.2.1 64 = .ok (.bipush 11, 2) := by decide +kernel
theorem d_Program_accepts_66 : decode M_Program_accepts.2.1 66 = .ok (.if_icmp .ne 13, 3) := by decide +kernel
theorem d_Program_accepts_69 : decode M_Program_accepts.2.1 69 = .ok (.iload_n 2, 1) := by decide +kernel
theorem d_Program_accepts_70 : decode M_Program_accepts.2.1 70 = .ok (.ifCond .eq 7, 3) := by decide +kernel
theorem d_Program_accepts_73 : decode M_Program_accepts.2.1 73 = .ok (.iconst 1, 1) := by decide +kernel
theorem d_Program_accepts_74 : decode M_Program_accepts.2.1 74 = .ok (.goto 4, 3) := by decide +kernel
theorem d_Program_accepts_77 : decode M_Program_accepts.2.1 77 = .ok (.iconst 0, 1) := by decide +kernel
theorem d_Program_accepts_78 : decode M_Program_accepts.2.1 78 = .ok (.ireturn, 1) := by decide +kernel
theorem d_Program_accepts_79 : decode M_Program_accepts.2.1 79 = .ok (.iload 6, 2) := by decide +kernel
theorem d_Program_accepts_81 : decode M_Program_accepts.2.1 81 = .ok (.ifCond .eq 9, 3) := by decide +kernel
theorem d_Program_accepts_84 : decode M_Program_accepts.2.1 84 = .ok (.iload 6, 2) := by decide +kernel
theorem d_Program_accepts_86 : decode M_Program_accepts.2.1 86 = .ok (.iconst 1, 1) := by decide +kernel
theorem d_Program_accepts_87 : decode M_Program_accepts.2.1 87 = .ok (.if_icmp .ne 44, 3) := by decide +kernel
theorem d_Program_accepts_90 : decode M_Program_accepts.2.1 90 = .ok (.iload 6, 2) := by decide +kernel
theorem d_Program_accepts_92 : decode M_Program_accepts.2.1 92 = .ok (.ifCond .ne 9, 3) := by decide +kernel
theorem d_Program_accepts_95 : decode M_Program_accepts.2.1 95 = .ok (.iload 7, 2) := by decide +kernel
theorem d_Program_accepts_97 : decode M_Program_accepts.2.1 97 = .ok (.i2l, 1) := by decide +kernel
theorem d_Program_accepts_98 : decode M_Program_accepts.2.1 98 = .ok (.goto 9, 3) := by decide +kernel
theorem d_Program_accepts_101 : decode M_Program_accepts.2.1 101 = .ok (.iload_n 3, 1) := by decide +kernel
theorem d_Program_accepts_102 : decode M_Program_accepts.2.1 102 = .ok (.i2l, 1) := by decide +kernel
theorem d_Program_accepts_103 : decode M_Program_accepts.2.1 103 = .ok (.iload 7, 2) := by decide +kernel
theorem d_Program_accepts_105 : decode M_Program_accepts.2.1 105 = .ok (.i2l, 1) := by decide +kernel
theorem d_Program_accepts_106 : decode M_Program_accepts.2.1 106 = .ok (.ladd, 1) := by decide +kernel
theorem d_Program_accepts_107 : decode M_Program_accepts.2.1 107 = .ok (.lstore 8, 2) := by decide +kernel
theorem d_Program_accepts_109 : decode M_Program_accepts.2.1 109 = .ok (.aload_n 1, 1) := by decide +kernel
theorem d_Program_accepts_110 : decode M_Program_accepts.2.1 110 = .ok (.lload 8, 2) := by decide +kernel
theorem d_Program_accepts_112 : decode M_Program_accepts.2.1 112 = .ok (.invokevirtual 42, 3) := by decide +kernel
theorem d_Program_accepts_115 : decode M_Program_accepts.2.1 115 = .ok (.ifCond .ne 5, 3) := by decide +kernel
theorem d_Program_accepts_118 : decode M_Program_accepts.2.1 118 = .ok (.iconst 0, 1) := by decide +kernel
theorem d_Program_accepts_119 : decode M_Program_accepts.2.1 119 = .ok (.ireturn, 1) := by decide +kernel
theorem d_Program_accepts_120 : decode M_Program_accepts.2.1 120 = .ok (.aload_n 1, 1) := by decide +kernel
theorem d_Program_accepts_121 : decode M_Program_accepts.2.1 121 = .ok (.lload 8, 2) := by decide +kernel
theorem d_Program_accepts_123 : decode M_Program_accepts.2.1 123 = .ok (.l2i, 1) := by decide +kernel
theorem d_Program_accepts_124 : decode M_Program_accepts.2.1 124 = .ok (.invokevirtual 48, 3) := by decide +kernel
theorem d_Program_accepts_127 : decode M_Program_accepts.2.1 127 = .ok (.istore_n 2, 1) := by decide +kernel
theorem d_Program_accepts_128 : decode M_Program_accepts.2.1 128 = .ok (.goto 37, 3) := by decide +kernel
theorem d_Program_accepts_131 : decode M_Program_accepts.2.1 131 = .ok (.iload 6, 2) := by decide +kernel
theorem d_Program_accepts_133 : decode M_Program_accepts.2.1 133 = .ok (.iconst 2, 1) := by decide +kernel
theorem d_Program_accepts_134 : decode M_Program_accepts.2.1 134 = .ok (.if_icmp .ne 11, 3) := by decide +kernel
theorem d_Program_accepts_137 : decode M_Program_accepts.2.1 137 = .ok (.aload_n 1, 1) := by decide +kernel
theorem d_Program_accepts_138 : decode M_Program_accepts.2.1 138 = .ok (.getfield 52, 3) := by decide +kernel
theorem d_Program_accepts_141 : decode M_Program_accepts.2.1 141 = .ok (.istore_n 2, 1) := by decide +kernel
theorem d_Program_accepts_142 : decode M_Program_accepts.2.1 142 = .ok (.goto 23, 3) := by decide +kernel
theorem d_Program_accepts_145 : decode M_Program_accepts.2.1 145 = .ok (.iload 6, 2) := by decide +kernel
theorem d_Program_accepts_147 : decode M_Program_accepts.2.1 147 = .ok (.iconst 3, 1) := by decide +kernel
theorem d_Program_accepts_148 : decode M_Program_accepts.2.1 148 = .ok (.if_icmp .ne 8, 3) := by decide +kernel
theorem d_Program_accepts_151 : decode M_Program_accepts.2.1 151 = .ok (.iload_n 2, 1) := by decide +kernel
theorem d_Program_accepts_152 : decode M_Program_accepts.2.1 152 = .ok (.istore_n 3, 1) := by decide +kernel
theorem d_Program_accepts_153 : decode M_Program_accepts.2.1 153 = .ok (.goto 12, 3) := by decide +kernel
theorem d_Program_accepts_156 : decode M_Program_accepts.2.1 156 = .ok (.iload 6, 2) := by decide +kernel
theorem d_Program_accepts_158 : decode M_Program_accepts.2.1 158 = .ok (.iload_n 2, 1) := by decide +kernel
theorem d_Program_accepts_159 : decode M_Program_accepts.2.1 159 = .ok (.iload 7, 2) := by decide +kernel
theorem d_Program_accepts_161 : decode M_Program_accepts.2.1 161 = .ok (.invokestatic 53, 3) := by decide +kernel
theorem d_Program_accepts_164 : decode M_Program_accepts.2.1 164 = .ok (.istore_n 2, 1) := by decide +kernel
theorem d_Program_accepts_165 : decode M_Program_accepts.2.1 165 = .ok (.iload 4, 2) := by decide +kernel
theorem d_Program_accepts_167 : decode M_Program_accepts.2.1 167 = .ok (.iconst 1, 1) := by decide +kernel
theorem d_Program_accepts_168 : decode M_Program_accepts.2.1 168 = .ok (.iload 6, 2) := by decide +kernel
theorem d_Program_accepts_170 : decode M_Program_accepts.2.1 170 = .ok (.iload_n 2, 1) := by decide +kernel
theorem d_Program_accepts_171 : decode M_Program_accepts.2.1 171 = .ok (.iload 7, 2) := by decide +kernel
theorem d_Program_accepts_173 : decode M_Program_accepts.2.1 173 = .ok (.invokestatic 57, 3) := by decide +kernel
theorem d_Program_accepts_176 : decode M_Program_accepts.2.1 176 = .ok (.ifCond .eq 13, 3) := by decide +kernel
theorem d_Program_accepts_179 : decode M_Program_accepts.2.1 179 = .ok (.aload_n 0, 1) := by decide +kernel
theorem d_Program_accepts_180 : decode M_Program_accepts.2.1 180 = .ok (.getfield 16, 3) := by decide +kernel
theorem d_Program_accepts_183 : decode M_Program_accepts.2.1 183 = .ok (.iload 4, 2) := by decide +kernel
theorem d_Program_accepts_185 : decode M_Program_accepts.2.1 185 = .ok (.iaload, 1) := by decide +kernel
theorem d_Program_accepts_186 : decode M_Program_accepts.2.1 186 = .ok (.goto 10, 3) := by decide +kernel
theorem d_Program_accepts_189 : decode M_Program_accepts.2.1 189 = .ok (.aload_n 0, 1) := by decide +kernel
theorem d_Program_accepts_190 : decode M_Program_accepts.2.1 190 = .ok (.getfield 19, 3) := by decide +kernel
theorem d_Program_accepts_193 : decode M_Program_accepts.2.1 193 = .ok (.iload 4, 2) := by decide +kernel
theorem d_Program_accepts_195 : decode M_Program_accepts.2.1 195 = .ok (.iaload, 1) := by decide +kernel
theorem d_Program_accepts_196 : decode M_Program_accepts.2.1 196 = .ok (.iadd, 1) := by decide +kernel
theorem d_Program_accepts_197 : decode M_Program_accepts.2.1 197 = .ok (.iadd, 1) := by decide +kernel
theorem d_Program_accepts_198 : decode M_Program_accepts.2.1 198 = .ok (.istore 4, 2) := by decide +kernel
theorem d_Program_accepts_200 : decode M_Program_accepts.2.1 200 = .ok (.iinc 5 1, 3) := by decide +kernel
theorem d_Program_accepts_203 : decode M_Program_accepts.2.1 203 = .ok (.goto (-193), 3) := by decide +kernel
theorem d_Program_accepts_206 : decode M_Program_accepts.2.1 206 = .ok (.iconst 0, 1) := by decide +kernel
theorem d_Program_accepts_207 : decode M_Program_accepts.2.1 207 = .ok (.ireturn, 1) := by decide +kernel
theorem d_Frame_hasByte_0 : decode M_Frame_hasByte.2.1 0 = .ok (.lload_n 1, 1) := by decide +kernel
theorem d_Frame_hasByte_1 : decode M_Frame_hasByte.2.1 1 = .ok (.lconst 0, 1) := by decide +kernel
theorem d_Frame_hasByte_2 : decode M_Frame_hasByte.2.1 2 = .ok (.lcmp, 1) := by decide +kernel
theorem d_Frame_hasByte_3 : decode M_Frame_hasByte.2.1 3 = .ok (.ifCond .lt 17, 3) := by decide +kernel
theorem d_Frame_hasByte_6 : decode M_Frame_hasByte.2.1 6 = .ok (.lload_n 1, 1) := by decide +kernel
theorem d_Frame_hasByte_7 : decode M_Frame_hasByte.2.1 7 = .ok (.aload_n 0, 1) := by decide +kernel
theorem d_Frame_hasByte_8 : decode M_Frame_hasByte.2.1 8 = .ok (.getfield 13, 3) := by decide +kernel
theorem d_Frame_hasByte_11 : decode M_Frame_hasByte.2.1 11 = .ok (.i2l, 1) := by decide +kernel
theorem d_Frame_hasByte_12 : decode M_Frame_hasByte.2.1 12 = .ok (.lcmp, 1) := by decide +kernel
theorem d_Frame_hasByte_13 : decode M_Frame_hasByte.2.1 13 = .ok (.ifCond .ge 7, 3) := by decide +kernel
theorem d_Frame_hasByte_16 : decode M_Frame_hasByte.2.1 16 = .ok (.iconst 1, 1) := by decide +kernel
theorem d_Frame_hasByte_17 : decode M_Frame_hasByte.2.1 17 = .ok (.goto 4, 3) := by decide +kernel
theorem d_Frame_hasByte_20 : decode M_Frame_hasByte.2.1 20 = .ok (.iconst 0, 1) := by decide +kernel
theorem d_Frame_hasByte_21 : decode M_Frame_hasByte.2.1 21 = .ok (.ireturn, 1) := by decide +kernel
theorem d_Frame_byteAt_0 : decode M_Frame_byteAt.2.1 0 = .ok (.aload_n 0, 1) := by decide +kernel
theorem d_Frame_byteAt_1 : decode M_Frame_byteAt.2.1 1 = .ok (.getfield 9, 3) := by decide +kernel
theorem d_Frame_byteAt_4 : decode M_Frame_byteAt.2.1 4 = .ok (.iload_n 1, 1) := by decide +kernel
theorem d_Frame_byteAt_5 : decode M_Frame_byteAt.2.1 5 = .ok (.iaload, 1) := by decide +kernel
theorem d_Frame_byteAt_6 : decode M_Frame_byteAt.2.1 6 = .ok (.ireturn, 1) := by decide +kernel
theorem d_Program_reckon_0 : decode M_Program_reckon.2.1 0 = .ok (.iload_n 0, 1) := by decide +kernel
theorem d_Program_reckon_1 : decode M_Program_reckon.2.1 1 = .ok (.tableswitch 39 4 6 #[27, 31, 35], 27) := by decide +kernel
theorem d_Program_reckon_28 : decode M_Program_reckon.2.1 28 = .ok (.iload_n 1, 1) := by decide +kernel
theorem d_Program_reckon_29 : decode M_Program_reckon.2.1 29 = .ok (.iload_n 2, 1) := by decide +kernel
theorem d_Program_reckon_30 : decode M_Program_reckon.2.1 30 = .ok (.iadd, 1) := by decide +kernel
theorem d_Program_reckon_31 : decode M_Program_reckon.2.1 31 = .ok (.ireturn, 1) := by decide +kernel
theorem d_Program_reckon_32 : decode M_Program_reckon.2.1 32 = .ok (.iload_n 1, 1) := by decide +kernel
theorem d_Program_reckon_33 : decode M_Program_reckon.2.1 33 = .ok (.iload_n 2, 1) := by decide +kernel
theorem d_Program_reckon_34 : decode M_Program_reckon.2.1 34 = .ok (.iand, 1) := by decide +kernel
theorem d_Program_reckon_35 : decode M_Program_reckon.2.1 35 = .ok (.ireturn, 1) := by decide +kernel
theorem d_Program_reckon_36 : decode M_Program_reckon.2.1 36 = .ok (.iload_n 1, 1) := by decide +kernel
theorem d_Program_reckon_37 : decode M_Program_reckon.2.1 37 = .ok (.iload_n 2, 1) := by decide +kernel
theorem d_Program_reckon_38 : decode M_Program_reckon.2.1 38 = .ok (.iushr, 1) := by decide +kernel
theorem d_Program_reckon_39 : decode M_Program_reckon.2.1 39 = .ok (.ireturn, 1) := by decide +kernel
theorem d_Program_reckon_40 : decode M_Program_reckon.2.1 40 = .ok (.iload_n 1, 1) := by decide +kernel
theorem d_Program_reckon_41 : decode M_Program_reckon.2.1 41 = .ok (.ireturn, 1) := by decide +kernel
theorem d_Program_holds_0 : decode M_Program_holds.2.1 0 = .ok (.iload_n 0, 1) := by decide +kernel
theorem d_Program_holds_1 : decode M_Program_holds.2.1 1 = .ok (.tableswitch 61 7 9 #[27, 38, 49], 27) := by decide +kernel
theorem d_Program_holds_28 : decode M_Program_holds.2.1 28 = .ok (.iload_n 1, 1) := by decide +kernel
theorem d_Program_holds_29 : decode M_Program_holds.2.1 29 = .ok (.iload_n 2, 1) := by decide +kernel
theorem d_Program_holds_30 : decode M_Program_holds.2.1 30 = .ok (.if_icmp .ne 7, 3) := by decide +kernel
theorem d_Program_holds_33 : decode M_Program_holds.2.1 33 = .ok (.iconst 1, 1) := by decide +kernel
theorem d_Program_holds_34 : decode M_Program_holds.2.1 34 = .ok (.goto 4, 3) := by decide +kernel
theorem d_Program_holds_37 : decode M_Program_holds.2.1 37 = .ok (.iconst 0, 1) := by decide +kernel
theorem d_Program_holds_38 : decode M_Program_holds.2.1 38 = .ok (.ireturn, 1) := by decide +kernel
theorem d_Program_holds_39 : decode M_Program_holds.2.1 39 = .ok (.iload_n 1, 1) := by decide +kernel
theorem d_Program_holds_40 : decode M_Program_holds.2.1 40 = .ok (.iload_n 2, 1) := by decide +kernel
theorem d_Program_holds_41 : decode M_Program_holds.2.1 41 = .ok (.if_icmp .le 7, 3) := by decide +kernel
theorem d_Program_holds_44 : decode M_Program_holds.2.1 44 = .ok (.iconst 1, 1) := by decide +kernel
theorem d_Program_holds_45 : decode M_Program_holds.2.1 45 = .ok (.goto 4, 3) := by decide +kernel
theorem d_Program_holds_48 : decode M_Program_holds.2.1 48 = .ok (.iconst 0, 1) := by decide +kernel
theorem d_Program_holds_49 : decode M_Program_holds.2.1 49 = .ok (.ireturn, 1) := by decide +kernel
theorem d_Program_holds_50 : decode M_Program_holds.2.1 50 = .ok (.iload_n 1, 1) := by decide +kernel
theorem d_Program_holds_51 : decode M_Program_holds.2.1 51 = .ok (.iload_n 2, 1) := by decide +kernel
theorem d_Program_holds_52 : decode M_Program_holds.2.1 52 = .ok (.iand, 1) := by decide +kernel
theorem d_Program_holds_53 : decode M_Program_holds.2.1 53 = .ok (.ifCond .eq 7, 3) := by decide +kernel
theorem d_Program_holds_56 : decode M_Program_holds.2.1 56 = .ok (.iconst 1, 1) := by decide +kernel
theorem d_Program_holds_57 : decode M_Program_holds.2.1 57 = .ok (.goto 4, 3) := by decide +kernel
theorem d_Program_holds_60 : decode M_Program_holds.2.1 60 = .ok (.iconst 0, 1) := by decide +kernel
theorem d_Program_holds_61 : decode M_Program_holds.2.1 61 = .ok (.ireturn, 1) := by decide +kernel
theorem d_Program_holds_62 : decode M_Program_holds.2.1 62 = .ok (.iconst 0, 1) := by decide +kernel
theorem d_Program_holds_63 : decode M_Program_holds.2.1 63 = .ok (.ireturn, 1) := by decide +kernel
theorem d_K_deliver_0 : decode M_K_deliver.2.1 0 = .ok (.aload_n 0, 1) := by decide +kernel
theorem d_K_deliver_1 : decode M_K_deliver.2.1 1 = .ok (.getfield 49, 3) := by decide +kernel
theorem d_K_deliver_4 : decode M_K_deliver.2.1 4 = .ok (.iload_n 1, 1) := by decide +kernel
theorem d_K_deliver_5 : decode M_K_deliver.2.1 5 = .ok (.aaload, 1) := by decide +kernel
theorem d_K_deliver_6 : decode M_K_deliver.2.1 6 = .ok (.getfield 194, 3) := by decide +kernel
theorem d_K_deliver_9 : decode M_K_deliver.2.1 9 = .ok (.invokevirtual 307, 3) := by decide +kernel
theorem d_K_deliver_12 : decode M_K_deliver.2.1 12 = .ok (.ifCond .eq 16, 3) := by decide +kernel
theorem d_K_deliver_15 : decode M_K_deliver.2.1 15 = .ok (.aload_n 0, 1) := by decide +kernel
theorem d_K_deliver_16 : decode M_K_deliver.2.1 16 = .ok (.dup, 1) := by decide +kernel
theorem d_K_deliver_17 : decode M_K_deliver.2.1 17 = .ok (.getfield 43, 3) := by decide +kernel
theorem d_K_deliver_20 : decode M_K_deliver.2.1 20 = .ok (.iconst 1, 1) := by decide +kernel
theorem d_K_deliver_21 : decode M_K_deliver.2.1 21 = .ok (.iadd, 1) := by decide +kernel
theorem d_K_deliver_22 : decode M_K_deliver.2.1 22 = .ok (.putfield 43, 3) := by decide +kernel
theorem d_K_deliver_25 : decode M_K_deliver.2.1 25 = .ok (.bipush (-6), 2) := by decide +kernel
theorem d_K_deliver_27 : decode M_K_deliver.2.1 27 = .ok (.ireturn, 1) := by decide +kernel
theorem d_K_deliver_28 : decode M_K_deliver.2.1 28 = .ok (.aload_n 0, 1) := by decide +kernel
theorem d_K_deliver_29 : decode M_K_deliver.2.1 29 = .ok (.getfield 49, 3) := by decide +kernel
theorem d_K_deliver_32 : decode M_K_deliver.2.1 32 = .ok (.iload_n 1, 1) := by decide +kernel
theorem d_K_deliver_33 : decode M_K_deliver.2.1 33 = .ok (.aaload, 1) := by decide +kernel
theorem d_K_deliver_34 : decode M_K_deliver.2.1 34 = .ok (.getfield 194, 3) := by decide +kernel
theorem d_K_deliver_37 : decode M_K_deliver.2.1 37 = .ok (.aload_n 0, 1) := by decide +kernel
theorem d_K_deliver_38 : decode M_K_deliver.2.1 38 = .ok (.getfield 39, 3) := by decide +kernel
theorem d_K_deliver_41 : decode M_K_deliver.2.1 41 = .ok (.invokevirtual 308, 3) := by decide +kernel
theorem d_K_deliver_44 : decode M_K_deliver.2.1 44 = .ok (.iload_n 1, 1) := by decide +kernel
theorem d_K_deliver_45 : decode M_K_deliver.2.1 45 = .ok (.ireturn, 1) := by decide +kernel
theorem d_FrameQueue_isFull_0 : decode M_FrameQueue_isFull.2.1 0 = .ok (.aload_n 0, 1) := by decide +kernel
theorem d_FrameQueue_isFull_1 : decode M_FrameQueue_isFull.2.1 1 = .ok (.getfield 19, 3) := by decide +kernel
theorem d_FrameQueue_isFull_4 : decode M_FrameQueue_isFull.2.1 4 = .ok (.iconst 4, 1) := by decide +kernel
theorem d_FrameQueue_isFull_5 : decode M_FrameQueue_isFull.2.1 5 = .ok (.if_icmp .ne 7, 3) := by decide +kernel
theorem d_FrameQueue_isFull_8 : decode M_FrameQueue_isFull.2.1 8 = .ok (.iconst 1, 1) := by decide +kernel
theorem d_FrameQueue_isFull_9 : decode M_FrameQueue_isFull.2.1 9 = .ok (.goto 4, 3) := by decide +kernel
theorem d_FrameQueue_isFull_12 : decode M_FrameQueue_isFull.2.1 12 = .ok (.iconst 0, 1) := by decide +kernel
theorem d_FrameQueue_isFull_13 : decode M_FrameQueue_isFull.2.1 13 = .ok (.ireturn, 1) := by decide +kernel
theorem d_FrameQueue_append_0 : decode M_FrameQueue_append.2.1 0 = .ok (.aload_n 0, 1) := by decide +kernel
theorem d_FrameQueue_append_1 : decode M_FrameQueue_append.2.1 1 = .ok (.getfield 11, 3) := by decide +kernel
theorem d_FrameQueue_append_4 : decode M_FrameQueue_append.2.1 4 = .ok (.aload_n 0, 1) := by decide +kernel
theorem d_FrameQueue_append_5 : decode M_FrameQueue_append.2.1 5 = .ok (.getfield 15, 3) := by decide +kernel
theorem d_FrameQueue_append_8 : decode M_FrameQueue_append.2.1 8 = .ok (.aload_n 0, 1) := by decide +kernel
theorem d_FrameQueue_append_9 : decode M_FrameQueue_append.2.1 9 = .ok (.getfield 19, 3) := by decide +kernel
theorem d_FrameQueue_append_12 : decode M_FrameQueue_append.2.1 12 = .ok (.iadd, 1) := by decide +kernel
theorem d_FrameQueue_append_13 : decode M_FrameQueue_append.2.1 13 = .ok (.iconst 4, 1) := by decide +kernel
theorem d_FrameQueue_append_14 : decode M_FrameQueue_append.2.1 14 = .ok (.irem, 1) := by decide +kernel
theorem d_FrameQueue_append_15 : decode M_FrameQueue_append.2.1 15 = .ok (.aaload, 1) := by decide +kernel
theorem d_FrameQueue_append_16 : decode M_FrameQueue_append.2.1 16 = .ok (.aload_n 1, 1) := by decide +kernel
theorem d_FrameQueue_append_17 : decode M_FrameQueue_append.2.1 17 = .ok (.invokevirtual 23, 3) := by decide +kernel
theorem d_FrameQueue_append_20 : decode M_FrameQueue_append.2.1 20 = .ok (.aload_n 0, 1) := by decide +kernel
theorem d_FrameQueue_append_21 : decode M_FrameQueue_append.2.1 21 = .ok (.dup, 1) := by decide +kernel
theorem d_FrameQueue_append_22 : decode M_FrameQueue_append.2.1 22 = .ok (.getfield 19, 3) := by decide +kernel
theorem d_FrameQueue_append_25 : decode M_FrameQueue_append.2.1 25 = .ok (.iconst 1, 1) := by decide +kernel
theorem d_FrameQueue_append_26 : decode M_FrameQueue_append.2.1 26 = .ok (.iadd, 1) := by decide +kernel
theorem d_FrameQueue_append_27 : decode M_FrameQueue_append.2.1 27 = .ok (.putfield 19, 3) := by decide +kernel
theorem d_FrameQueue_append_30 : decode M_FrameQueue_append.2.1 30 = .ok (.return_, 1) := by decide +kernel
theorem d_Frame_copyFrom_0 : decode M_Frame_copyFrom.2.1 0 = .ok (.aload_n 1, 1) := by decide +kernel
theorem d_Frame_copyFrom_1 : decode M_Frame_copyFrom.2.1 1 = .ok (.getfield 9, 3) := by decide +kernel
theorem d_Frame_copyFrom_4 : decode M_Frame_copyFrom.2.1 4 = .ok (.iconst 0, 1) := by decide +kernel
theorem d_Frame_copyFrom_5 : decode M_Frame_copyFrom.2.1 5 = .ok (.aload_n 0, 1) := by decide +kernel
theorem d_Frame_copyFrom_6 : decode M_Frame_copyFrom.2.1 6 = .ok (.getfield 9, 3) := by decide +kernel
theorem d_Frame_copyFrom_9 : decode M_Frame_copyFrom.2.1 9 = .ok (.iconst 0, 1) := by decide +kernel
theorem d_Frame_copyFrom_10 : decode M_Frame_copyFrom.2.1 10 = .ok (.aload_n 1, 1) := by decide +kernel
theorem d_Frame_copyFrom_11 : decode M_Frame_copyFrom.2.1 11 = .ok (.getfield 13, 3) := by decide +kernel
theorem d_Frame_copyFrom_14 : decode M_Frame_copyFrom.2.1 14 = .ok (.invokestatic 17, 3) := by decide +kernel
theorem d_Frame_copyFrom_17 : decode M_Frame_copyFrom.2.1 17 = .ok (.aload_n 0, 1) := by decide +kernel
theorem d_Frame_copyFrom_18 : decode M_Frame_copyFrom.2.1 18 = .ok (.aload_n 1, 1) := by decide +kernel
theorem d_Frame_copyFrom_19 : decode M_Frame_copyFrom.2.1 19 = .ok (.getfield 13, 3) := by decide +kernel
theorem d_Frame_copyFrom_22 : decode M_Frame_copyFrom.2.1 22 = .ok (.putfield 13, 3) := by decide +kernel
theorem d_Frame_copyFrom_25 : decode M_Frame_copyFrom.2.1 25 = .ok (.return_, 1) := by decide +kernel
theorem d_Frame_clear_0 : decode M_Frame_clear.2.1 0 = .ok (.aload_n 0, 1) := by decide +kernel
theorem d_Frame_clear_1 : decode M_Frame_clear.2.1 1 = .ok (.iconst 0, 1) := by decide +kernel
theorem d_Frame_clear_2 : decode M_Frame_clear.2.1 2 = .ok (.putfield 13, 3) := by decide +kernel
theorem d_Frame_clear_5 : decode M_Frame_clear.2.1 5 = .ok (.return_, 1) := by decide +kernel
theorem d_K_got_0 : decode M_K_got.2.1 0 = .ok (.aload_n 0, 1) := by decide +kernel
theorem d_K_got_1 : decode M_K_got.2.1 1 = .ok (.iload_n 1, 1) := by decide +kernel
theorem d_K_got_2 : decode M_K_got.2.1 2 = .ok (.invokevirtual 84, 3) := by decide +kernel
theorem d_K_got_5 : decode M_K_got.2.1 5 = .ok (.ifCond .eq 18, 3) := by decide +kernel
theorem d_K_got_8 : decode M_K_got.2.1 8 = .ok (.aload_n 0, 1) := by decide +kernel
theorem d_K_got_9 : decode M_K_got.2.1 9 = .ok (.getfield 49, 3) := by decide +kernel
theorem d_K_got_12 : decode M_K_got.2.1 12 = .ok (.iload_n 1, 1) := by decide +kernel
theorem d_K_got_13 : decode M_K_got.2.1 13 = .ok (.aaload, 1) := by decide +kernel
theorem d_K_got_14 : decode M_K_got.2.1 14 = .ok (.getfield 194, 3) := by decide +kernel
theorem d_K_got_17 : decode M_K_got.2.1 17 = .ok (.getfield 198, 3) := by decide +kernel
theorem d_K_got_20 : decode M_K_got.2.1 20 = .ok (.ifCond .ne 5, 3) := by decide +kernel
theorem d_K_got_23 : decode M_K_got.2.1 23 = .ok (.iconst (-1), 1) := by decide +kernel
theorem d_K_got_24 : decode M_K_got.2.1 24 = .ok (.ireturn, 1) := by decide +kernel
theorem d_K_got_25 : decode M_K_got.2.1 25 = .ok (.aload_n 0, 1) := by decide +kernel
theorem d_K_got_26 : decode M_K_got.2.1 26 = .ok (.getfield 49, 3) := by decide +kernel
theorem d_K_got_29 : decode M_K_got.2.1 29 = .ok (.iload_n 1, 1) := by decide +kernel
theorem d_K_got_30 : decode M_K_got.2.1 30 = .ok (.aaload, 1) := by decide +kernel
theorem d_K_got_31 : decode M_K_got.2.1 31 = .ok (.getfield 194, 3) := by decide +kernel
theorem d_K_got_34 : decode M_K_got.2.1 34 = .ok (.invokevirtual 201, 3) := by decide +kernel
theorem d_K_got_37 : decode M_K_got.2.1 37 = .ok (.astore_n 3, 1) := by decide +kernel
theorem d_K_got_38 : decode M_K_got.2.1 38 = .ok (.iload_n 2, 1) := by decide +kernel
theorem d_K_got_39 : decode M_K_got.2.1 39 = .ok (.iconst (-1), 1) := by decide +kernel
theorem d_K_got_40 : decode M_K_got.2.1 40 = .ok (.if_icmp .ne 8, 3) := by decide +kernel
theorem d_K_got_43 : decode M_K_got.2.1 43 = .ok (.aload_n 3, 1) := by decide +kernel
theorem d_K_got_44 : decode M_K_got.2.1 44 = .ok (.getfield 186, 3) := by decide +kernel
theorem d_K_got_47 : decode M_K_got.2.1 47 = .ok (.ireturn, 1) := by decide +kernel
theorem d_K_got_48 : decode M_K_got.2.1 48 = .ok (.aload_n 3, 1) := by decide +kernel
theorem d_K_got_49 : decode M_K_got.2.1 49 = .ok (.iload_n 2, 1) := by decide +kernel
theorem d_K_got_50 : decode M_K_got.2.1 50 = .ok (.i2l, 1) := by decide +kernel
theorem d_K_got_51 : decode M_K_got.2.1 51 = .ok (.invokevirtual 205, 3) := by decide +kernel
theorem d_K_got_54 : decode M_K_got.2.1 54 = .ok (.ifCond .eq 11, 3) := by decide +kernel
theorem d_K_got_57 : decode M_K_got.2.1 57 = .ok (.aload_n 3, 1) := by decide +kernel
theorem d_K_got_58 : decode M_K_got.2.1 58 = .ok (.iload_n 2, 1) := by decide +kernel
theorem d_K_got_59 : decode M_K_got.2.1 59 = .ok (.invokevirtual 209, 3) := by decide +kernel
theorem d_K_got_62 : decode M_K_got.2.1 62 = .ok (.goto 4, 3) := by decide +kernel
theorem d_K_got_65 : decode M_K_got.2.1 65 = .ok (.iconst (-1), 1) := by decide +kernel
theorem d_K_got_66 : decode M_K_got.2.1 66 = .ok (.ireturn, 1) := by decide +kernel
theorem d_FrameQueue_oldest_0 : decode M_FrameQueue_oldest.2.1 0 = .ok (.aload_n 0, 1) := by decide +kernel
theorem d_FrameQueue_oldest_1 : decode M_FrameQueue_oldest.2.1 1 = .ok (.getfield 11, 3) := by decide +kernel
theorem d_FrameQueue_oldest_4 : decode M_FrameQueue_oldest.2.1 4 = .ok (.aload_n 0, 1) := by decide +kernel
theorem d_FrameQueue_oldest_5 : decode M_FrameQueue_oldest.2.1 5 = .ok (.getfield 15, 3) := by decide +kernel
theorem d_FrameQueue_oldest_8 : decode M_FrameQueue_oldest.2.1 8 = .ok (.aaload, 1) := by decide +kernel
theorem d_FrameQueue_oldest_9 : decode M_FrameQueue_oldest.2.1 9 = .ok (.areturn, 1) := by decide +kernel
theorem d_K_next_0 : decode M_K_next.2.1 0 = .ok (.aload_n 0, 1) := by decide +kernel
theorem d_K_next_1 : decode M_K_next.2.1 1 = .ok (.iload_n 1, 1) := by decide +kernel
theorem d_K_next_2 : decode M_K_next.2.1 2 = .ok (.invokevirtual 84, 3) := by decide +kernel
theorem d_K_next_5 : decode M_K_next.2.1 5 = .ok (.ifCond .eq 18, 3) := by decide +kernel
theorem d_K_next_8 : decode M_K_next.2.1 8 = .ok (.aload_n 0, 1) := by decide +kernel
theorem d_K_next_9 : decode M_K_next.2.1 9 = .ok (.getfield 49, 3) := by decide +kernel
theorem d_K_next_12 : decode M_K_next.2.1 12 = .ok (.iload_n 1, 1) := by decide +kernel
theorem d_K_next_13 : decode M_K_next.2.1 13 = .ok (.aaload, 1) := by decide +kernel
theorem d_K_next_14 : decode M_K_next.2.1 14 = .ok (.getfield 194, 3) := by decide +kernel
theorem d_K_next_17 : decode M_K_next.2.1 17 = .ok (.getfield 198, 3) := by decide +kernel
theorem d_K_next_20 : decode M_K_next.2.1 20 = .ok (.ifCond .ne 5, 3) := by decide +kernel
theorem d_K_next_23 : decode M_K_next.2.1 23 = .ok (.iconst (-1), 1) := by decide +kernel
theorem d_K_next_24 : decode M_K_next.2.1 24 = .ok (.ireturn, 1) := by decide +kernel
theorem d_K_next_25 : decode M_K_next.2.1 25 = .ok (.aload_n 0, 1) := by decide +kernel
theorem d_K_next_26 : decode M_K_next.2.1 26 = .ok (.getfield 49, 3) := by decide +kernel
theorem d_K_next_29 : decode M_K_next.2.1 29 = .ok (.iload_n 1, 1) := by decide +kernel
theorem d_K_next_30 : decode M_K_next.2.1 30 = .ok (.aaload, 1) := by decide +kernel
theorem d_K_next_31 : decode M_K_next.2.1 31 = .ok (.getfield 194, 3) := by decide +kernel
theorem d_K_next_34 : decode M_K_next.2.1 34 = .ok (.invokevirtual 212, 3) := by decide +kernel
theorem d_K_next_37 : decode M_K_next.2.1 37 = .ok (.aload_n 0, 1) := by decide +kernel
theorem d_K_next_38 : decode M_K_next.2.1 38 = .ok (.getfield 49, 3) := by decide +kernel
theorem d_K_next_41 : decode M_K_next.2.1 41 = .ok (.iload_n 1, 1) := by decide +kernel
theorem d_K_next_42 : decode M_K_next.2.1 42 = .ok (.aaload, 1) := by decide +kernel
theorem d_K_next_43 : decode M_K_next.2.1 43 = .ok (.getfield 194, 3) := by decide +kernel
theorem d_K_next_46 : decode M_K_next.2.1 46 = .ok (.getfield 198, 3) := by decide +kernel
theorem d_K_next_49 : decode M_K_next.2.1 49 = .ok (.ireturn, 1) := by decide +kernel
theorem d_FrameQueue_dropOldest_0 : decode M_FrameQueue_dropOldest.2.1 0 = .ok (.aload_n 0, 1) := by decide +kernel
theorem d_FrameQueue_dropOldest_1 : decode M_FrameQueue_dropOldest.2.1 1 = .ok (.aload_n 0, 1) := by decide +kernel
theorem d_FrameQueue_dropOldest_2 : decode M_FrameQueue_dropOldest.2.1 2 = .ok (.getfield 15, 3) := by decide +kernel
theorem d_FrameQueue_dropOldest_5 : decode M_FrameQueue_dropOldest.2.1 5 = .ok (.iconst 1, 1) := by decide +kernel
theorem d_FrameQueue_dropOldest_6 : decode M_FrameQueue_dropOldest.2.1 6 = .ok (.iadd, 1) := by decide +kernel
theorem d_FrameQueue_dropOldest_7 : decode M_FrameQueue_dropOldest.2.1 7 = .ok (.iconst 4, 1) := by decide +kernel
theorem d_FrameQueue_dropOldest_8 : decode M_FrameQueue_dropOldest.2.1 8 = .ok (.irem, 1) := by decide +kernel
theorem d_FrameQueue_dropOldest_9 : decode M_FrameQueue_dropOldest.2.1 9 = .ok (.putfield 15, 3) := by decide +kernel
theorem d_FrameQueue_dropOldest_12 : decode M_FrameQueue_dropOldest.2.1 12 = .ok (.aload_n 0, 1) := by decide +kernel
theorem d_FrameQueue_dropOldest_13 : decode M_FrameQueue_dropOldest.2.1 13 = .ok (.dup, 1) := by decide +kernel
theorem d_FrameQueue_dropOldest_14 : decode M_FrameQueue_dropOldest.2.1 14 = .ok (.getfield 19, 3) := by decide +kernel
theorem d_FrameQueue_dropOldest_17 : decode M_FrameQueue_dropOldest.2.1 17 = .ok (.iconst 1, 1) := by decide +kernel
theorem d_FrameQueue_dropOldest_18 : decode M_FrameQueue_dropOldest.2.1 18 = .ok (.isub, 1) := by decide +kernel
theorem d_FrameQueue_dropOldest_19 : decode M_FrameQueue_dropOldest.2.1 19 = .ok (.putfield 19, 3) := by decide +kernel
theorem d_FrameQueue_dropOldest_22 : decode M_FrameQueue_dropOldest.2.1 22 = .ok (.return_, 1) := by decide +kernel
theorem d_K_write_0 : decode M_K_write.2.1 0 = .ok (.aload_n 0, 1) := by decide +kernel
theorem d_K_write_1 : decode M_K_write.2.1 1 = .ok (.iload_n 1, 1) := by decide +kernel
theorem d_K_write_2 : decode M_K_write.2.1 2 = .ok (.invokevirtual 84, 3) := by decide +kernel
theorem d_K_write_5 : decode M_K_write.2.1 5 = .ok (.ifCond .eq 24, 3) := by decide +kernel
theorem d_K_write_8 : decode M_K_write.2.1 8 = .ok (.aload_n 0, 1) := by decide +kernel
theorem d_K_write_9 : decode M_K_write.2.1 9 = .ok (.getfield 25, 3) := by decide +kernel
theorem d_K_write_12 : decode M_K_write.2.1 12 = .ok (.iload_n 2, 1) := by decide +kernel
theorem d_K_write_13 : decode M_K_write.2.1 13 = .ok (.invokevirtual 215, 3) := by decide +kernel
theorem d_K_write_16 : decode M_K_write.2.1 16 = .ok (.ifCond .eq 13, 3) := by decide +kernel
theorem d_K_write_19 : decode M_K_write.2.1 19 = .ok (.iload_n 3, 1) := by decide +kernel
theorem d_K_write_20 : decode M_K_write.2.1 20 = .ok (.iconst 0, 1) := by decide +kernel
theorem d_K_write_21 : decode M_K_write.2.1 21 = .ok (.bipush 7, 2) := by decide +kernel
theorem d_K_write_23 : decode M_K_write.2.1 23 = .ok (.invokestatic 108, 3) := by decide +kernel
theorem d_K_write_26 : decode M_K_write.2.1 26 = .ok (.ifCond .ne 5, 3) := by decide +kernel
theorem d_K_write_29 : decode M_K_write.2.1 29 = .ok (.iconst (-1), 1) := by decide +kernel
theorem d_K_write_30 : decode M_K_write.2.1 30 = .ok (.ireturn, 1) := by decide +kernel
theorem d_K_write_31 : decode M_K_write.2.1 31 = .ok (.aload_n 0, 1) := by decide +kernel
theorem d_K_write_32 : decode M_K_write.2.1 32 = .ok (.getfield 49, 3) := by decide +kernel
theorem d_K_write_35 : decode M_K_write.2.1 35 = .ok (.iload_n 1, 1) := by decide +kernel
theorem d_K_write_36 : decode M_K_write.2.1 36 = .ok (.aaload, 1) := by decide +kernel
theorem d_K_write_37 : decode M_K_write.2.1 37 = .ok (.getfield 218, 3) := by decide +kernel
theorem d_K_write_40 : decode M_K_write.2.1 40 = .ok (.ifCond .ne 15, 3) := by decide +kernel
theorem d_K_write_43 : decode M_K_write.2.1 43 = .ok (.aload_n 0, 1) := by decide +kernel
theorem d_K_write_44 : decode M_K_write.2.1 44 = .ok (.getfield 25, 3) := by decide +kernel
theorem d_K_write_47 : decode M_K_write.2.1 47 = .ok (.iload_n 2, 1) := by decide +kernel
theorem d_K_write_48 : decode M_K_write.2.1 48 = .ok (.invokevirtual 221, 3) := by decide +kernel
theorem d_K_write_51 : decode M_K_write.2.1 51 = .ok (.iload_n 1, 1) := by decide +kernel
theorem d_K_write_52 : decode M_K_write.2.1 52 = .ok (.if_icmp .eq 5, 3) := by decide +kernel
theorem d_K_write_55 : decode M_K_write.2.1 55 = .ok (.iconst (-1), 1) := by decide +kernel
theorem d_K_write_56 : decode M_K_write.2.1 56 = .ok (.ireturn, 1) := by decide +kernel
theorem d_K_write_57 : decode M_K_write.2.1 57 = .ok (.aload_n 0, 1) := by decide +kernel
theorem d_K_write_58 : decode M_K_write.2.1 58 = .ok (.getfield 49, 3) := by decide +kernel
theorem d_K_write_61 : decode M_K_write.2.1 61 = .ok (.iload_n 1, 1) := by decide +kernel
theorem d_K_write_62 : decode M_K_write.2.1 62 = .ok (.aaload, 1) := by decide +kernel
theorem d_K_write_63 : decode M_K_write.2.1 63 = .ok (.iload_n 3, 1) := by decide +kernel
theorem d_K_write_64 : decode M_K_write.2.1 64 = .ok (.invokevirtual 222, 3) := by decide +kernel
theorem d_K_write_67 : decode M_K_write.2.1 67 = .ok (.ifCond .eq 13, 3) := by decide +kernel
theorem d_K_write_70 : decode M_K_write.2.1 70 = .ok (.aload_n 0, 1) := by decide +kernel
theorem d_K_write_71 : decode M_K_write.2.1 71 = .ok (.iload_n 1, 1) := by decide +kernel
theorem d_K_write_72 : decode M_K_write.2.1 72 = .ok (.iload_n 2, 1) := by decide +kernel
theorem d_K_write_73 : decode M_K_write.2.1 73 = .ok (.iload_n 3, 1) := by decide +kernel
theorem d_K_write_74 : decode M_K_write.2.1 74 = .ok (.iload 4, 2) := by decide +kernel
theorem d_K_write_76 : decode M_K_write.2.1 76 = .ok (.invokevirtual 225, 3) := by decide +kernel
theorem d_K_write_79 : decode M_K_write.2.1 79 = .ok (.ireturn, 1) := by decide +kernel
theorem d_K_write_80 : decode M_K_write.2.1 80 = .ok (.aload_n 0, 1) := by decide +kernel
theorem d_K_write_81 : decode M_K_write.2.1 81 = .ok (.getfield 25, 3) := by decide +kernel
theorem d_K_write_84 : decode M_K_write.2.1 84 = .ok (.iload_n 2, 1) := by decide +kernel
theorem d_K_write_85 : decode M_K_write.2.1 85 = .ok (.iload_n 3, 1) := by decide +kernel
theorem d_K_write_86 : decode M_K_write.2.1 86 = .ok (.iload 4, 2) := by decide +kernel
theorem d_K_write_88 : decode M_K_write.2.1 88 = .ok (.invokevirtual 229, 3) := by decide +kernel
theorem d_K_write_91 : decode M_K_write.2.1 91 = .ok (.iconst 0, 1) := by decide +kernel
theorem d_K_write_92 : decode M_K_write.2.1 92 = .ok (.ireturn, 1) := by decide +kernel
theorem d_Disk_hasBlock_0 : decode M_Disk_hasBlock.2.1 0 = .ok (.iload_n 1, 1) := by decide +kernel
theorem d_Disk_hasBlock_1 : decode M_Disk_hasBlock.2.1 1 = .ok (.ifCond .lt 15, 3) := by decide +kernel
theorem d_Disk_hasBlock_4 : decode M_Disk_hasBlock.2.1 4 = .ok (.iload_n 1, 1) := by decide +kernel
theorem d_Disk_hasBlock_5 : decode M_Disk_hasBlock.2.1 5 = .ok (.aload_n 0, 1) := by decide +kernel
theorem d_Disk_hasBlock_6 : decode M_Disk_hasBlock.2.1 6 = .ok (.getfield 9, 3) := by decide +kernel
theorem d_Disk_hasBlock_9 : decode M_Disk_hasBlock.2.1 9 = .ok (.if_icmp .ge 7, 3) := by decide +kernel
theorem d_Disk_hasBlock_12 : decode M_Disk_hasBlock.2.1 12 = .ok (.iconst 1, 1) := by decide +kernel
theorem d_Disk_hasBlock_13 : decode M_Disk_hasBlock.2.1 13 = .ok (.goto 4, 3) := by decide +kernel
theorem d_Disk_hasBlock_16 : decode M_Disk_hasBlock.2.1 16 = .ok (.iconst 0, 1) := by decide +kernel
theorem d_Disk_hasBlock_17 : decode M_Disk_hasBlock.2.1 17 = .ok (.ireturn, 1) := by decide +kernel
theorem d_Disk_ownerOf_0 : decode M_Disk_ownerOf.2.1 0 = .ok (.aload_n 0, 1) := by decide +kernel
theorem d_Disk_ownerOf_1 : decode M_Disk_ownerOf.2.1 1 = .ok (.getfield 19, 3) := by decide +kernel
theorem d_Disk_ownerOf_4 : decode M_Disk_ownerOf.2.1 4 = .ok (.iload_n 1, 1) := by decide +kernel
theorem d_Disk_ownerOf_5 : decode M_Disk_ownerOf.2.1 5 = .ok (.iaload, 1) := by decide +kernel
theorem d_Disk_ownerOf_6 : decode M_Disk_ownerOf.2.1 6 = .ok (.ireturn, 1) := by decide +kernel
theorem d_Application_isLink_0 : decode M_Application_isLink.2.1 0 = .ok (.iload_n 1, 1) := by decide +kernel
theorem d_Application_isLink_1 : decode M_Application_isLink.2.1 1 = .ok (.aload_n 0, 1) := by decide +kernel
theorem d_Application_isLink_2 : decode M_Application_isLink.2.1 2 = .ok (.getfield 47, 3) := by decide +kernel
theorem d_Application_isLink_5 : decode M_Application_isLink.2.1 5 = .ok (.if_icmp .lt 20, 3) := by decide +kernel
theorem d_Application_isLink_8 : decode M_Application_isLink.2.1 8 = .ok (.iload_n 1, 1) := by decide +kernel
theorem d_Application_isLink_9 : decode M_Application_isLink.2.1 9 = .ok (.aload_n 0, 1) := by decide +kernel
theorem d_Application_isLink_10 : decode M_Application_isLink.2.1 10 = .ok (.getfield 47, 3) := by decide +kernel
theorem d_Application_isLink_13 : decode M_Application_isLink.2.1 13 = .ok (.aload_n 0, 1) := by decide +kernel
theorem d_Application_isLink_14 : decode M_Application_isLink.2.1 14 = .ok (.getfield 51, 3) := by decide +kernel
theorem d_Application_isLink_17 : decode M_Application_isLink.2.1 17 = .ok (.iadd, 1) := by decide +kernel
theorem d_Application_isLink_18 : decode M_Application_isLink.2.1 18 = .ok (.if_icmp .ge 7, 3) := by decide +kernel
theorem d_Application_isLink_21 : decode M_Application_isLink.2.1 21 = .ok (.iconst 1, 1) := by decide +kernel
theorem d_Application_isLink_22 : decode M_Application_isLink.2.1 22 = .ok (.goto 4, 3) := by decide +kernel
theorem d_Application_isLink_25 : decode M_Application_isLink.2.1 25 = .ok (.iconst 0, 1) := by decide +kernel
theorem d_Application_isLink_26 : decode M_Application_isLink.2.1 26 = .ok (.ireturn, 1) := by decide +kernel
theorem d_K_relink_0 : decode M_K_relink.2.1 0 = .ok (.iload 4, 2) := by decide +kernel
theorem d_K_relink_2 : decode M_K_relink.2.1 2 = .ok (.iconst (-1), 1) := by decide +kernel
theorem d_K_relink_3 : decode M_K_relink.2.1 3 = .ok (.if_icmp .eq 17, 3) := by decide +kernel
theorem d_K_relink_6 : decode M_K_relink.2.1 6 = .ok (.aload_n 0, 1) := by decide +kernel
theorem d_K_relink_7 : decode M_K_relink.2.1 7 = .ok (.getfield 25, 3) := by decide +kernel
theorem d_K_relink_10 : decode M_K_relink.2.1 10 = .ok (.iload 4, 2) := by decide +kernel
theorem d_K_relink_12 : decode M_K_relink.2.1 12 = .ok (.invokevirtual 215, 3) := by decide +kernel
theorem d_K_relink_15 : decode M_K_relink.2.1 15 = .ok (.ifCond .ne 5, 3) := by decide +kernel
theorem d_K_relink_18 : decode M_K_relink.2.1 18 = .ok (.iconst (-1), 1) := by decide +kernel
theorem d_K_relink_19 : decode M_K_relink.2.1 19 = .ok (.ireturn, 1) := by decide +kernel
theorem d_K_relink_20 : decode M_K_relink.2.1 20 = .ok (.aload_n 0, 1) := by decide +kernel
theorem d_K_relink_21 : decode M_K_relink.2.1 21 = .ok (.getfield 25, 3) := by decide +kernel
theorem d_K_relink_24 : decode M_K_relink.2.1 24 = .ok (.iload_n 2, 1) := by decide +kernel
theorem d_K_relink_25 : decode M_K_relink.2.1 25 = .ok (.iload_n 3, 1) := by decide +kernel
theorem d_K_relink_26 : decode M_K_relink.2.1 26 = .ok (.invokevirtual 262, 3) := by decide +kernel
theorem d_K_relink_29 : decode M_K_relink.2.1 29 = .ok (.istore 5, 2) := by decide +kernel
theorem d_K_relink_31 : decode M_K_relink.2.1 31 = .ok (.iload 5, 2) := by decide +kernel
theorem d_K_relink_33 : decode M_K_relink.2.1 33 = .ok (.iload 4, 2) := by decide +kernel
theorem d_K_relink_35 : decode M_K_relink.2.1 35 = .ok (.if_icmp .ne 5, 3) := by decide +kernel
theorem d_K_relink_38 : decode M_K_relink.2.1 38 = .ok (.iconst 0, 1) := by decide +kernel
theorem d_K_relink_39 : decode M_K_relink.2.1 39 = .ok (.ireturn, 1) := by decide +kernel
theorem d_K_relink_40 : decode M_K_relink.2.1 40 = .ok (.aload_n 0, 1) := by decide +kernel
theorem d_K_relink_41 : decode M_K_relink.2.1 41 = .ok (.getfield 49, 3) := by decide +kernel
theorem d_K_relink_44 : decode M_K_relink.2.1 44 = .ok (.iload_n 1, 1) := by decide +kernel
theorem d_K_relink_45 : decode M_K_relink.2.1 45 = .ok (.aaload, 1) := by decide +kernel
theorem d_K_relink_46 : decode M_K_relink.2.1 46 = .ok (.getfield 74, 3) := by decide +kernel
theorem d_K_relink_49 : decode M_K_relink.2.1 49 = .ok (.istore 6, 2) := by decide +kernel
theorem d_K_relink_51 : decode M_K_relink.2.1 51 = .ok (.aload_n 0, 1) := by decide +kernel
theorem d_K_relink_52 : decode M_K_relink.2.1 52 = .ok (.getfield 49, 3) := by decide +kernel
theorem d_K_relink_55 : decode M_K_relink.2.1 55 = .ok (.iload_n 1, 1) := by decide +kernel
theorem d_K_relink_56 : decode M_K_relink.2.1 56 = .ok (.aaload, 1) := by decide +kernel
theorem d_K_relink_57 : decode M_K_relink.2.1 57 = .ok (.getfield 77, 3) := by decide +kernel
theorem d_K_relink_60 : decode M_K_relink.2.1 60 = .ok (.istore 7, 2) := by decide +kernel
theorem d_K_relink_62 : decode M_K_relink.2.1 62 = .ok (.iload 5, 2) := by decide +kernel
theorem d_K_relink_64 : decode M_K_relink.2.1 64 = .ok (.iconst (-1), 1) := by decide +kernel
theorem d_K_relink_65 : decode M_K_relink.2.1 65 = .ok (.if_icmp .eq 22, 3) := by decide +kernel
theorem d_K_relink_68 : decode M_K_relink.2.1 68 = .ok (.aload_n 0, 1) := by decide +kernel
theorem d_K_relink_69 : decode M_K_relink.2.1 69 = .ok (.getfield 25, 3) := by decide +kernel
theorem d_K_relink_72 : decode M_K_relink.2.1 72 = .ok (.iload 5, 2) := by decide +kernel
theorem d_K_relink_74 : decode M_K_relink.2.1 74 = .ok (.iload 6, 2) := by decide +kernel
theorem d_K_relink_76 : decode M_K_relink.2.1 76 = .ok (.iload 7, 2) := by decide +kernel
theorem d_K_relink_78 : decode M_K_relink.2.1 78 = .ok (.invokevirtual 311, 3) := by decide +kernel
theorem d_K_relink_81 : decode M_K_relink.2.1 81 = .ok (.ifCond .eq 6, 3) := by decide +kernel
theorem d_K_relink_84 : decode M_K_relink.2.1 84 = .ok (.bipush (-3), 2) := by decide +kernel
theorem d_K_relink_86 : decode M_K_relink.2.1 86 = .ok (.ireturn, 1) := by decide +kernel
theorem d_K_relink_87 : decode M_K_relink.2.1 87 = .ok (.iload 4, 2) := by decide +kernel
theorem d_K_relink_89 : decode M_K_relink.2.1 89 = .ok (.iconst (-1), 1) := by decide +kernel
theorem d_K_relink_90 : decode M_K_relink.2.1 90 = .ok (.if_icmp .eq 18, 3) := by decide +kernel
theorem d_K_relink_93 : decode M_K_relink.2.1 93 = .ok (.aload_n 0, 1) := by decide +kernel
theorem d_K_relink_94 : decode M_K_relink.2.1 94 = .ok (.getfield 25, 3) := by decide +kernel
theorem d_K_relink_97 : decode M_K_relink.2.1 97 = .ok (.iload 4, 2) := by decide +kernel
theorem d_K_relink_99 : decode M_K_relink.2.1 99 = .ok (.invokevirtual 314, 3) := by decide +kernel
theorem d_K_relink_102 : decode M_K_relink.2.1 102 = .ok (.ifCond .ne 6, 3) := by decide +kernel
theorem d_K_relink_105 : decode M_K_relink.2.1 105 = .ok (.bipush (-4), 2) := by decide +kernel
theorem d_K_relink_107 : decode M_K_relink.2.1 107 = .ok (.ireturn, 1) := by decide +kernel
theorem d_K_relink_108 : decode M_K_relink.2.1 108 = .ok (.iload 5, 2) := by decide +kernel
theorem d_K_relink_110 : decode M_K_relink.2.1 110 = .ok (.iconst (-1), 1) := by decide +kernel
theorem d_K_relink_111 : decode M_K_relink.2.1 111 = .ok (.if_icmp .eq 12, 3) := by decide +kernel
theorem d_K_relink_114 : decode M_K_relink.2.1 114 = .ok (.aload_n 0, 1) := by decide +kernel
theorem d_K_relink_115 : decode M_K_relink.2.1 115 = .ok (.getfield 25, 3) := by decide +kernel
theorem d_K_relink_118 : decode M_K_relink.2.1 118 = .ok (.iload 5, 2) := by decide +kernel
theorem d_K_relink_120 : decode M_K_relink.2.1 120 = .ok (.invokevirtual 317, 3) := by decide +kernel
theorem d_K_relink_123 : decode M_K_relink.2.1 123 = .ok (.iload 4, 2) := by decide +kernel
theorem d_K_relink_125 : decode M_K_relink.2.1 125 = .ok (.iconst (-1), 1) := by decide +kernel
theorem d_K_relink_126 : decode M_K_relink.2.1 126 = .ok (.if_icmp .eq 17, 3) := by decide +kernel
theorem d_K_relink_129 : decode M_K_relink.2.1 129 = .ok (.aload_n 0, 1) := by decide +kernel
theorem d_K_relink_130 : decode M_K_relink.2.1 130 = .ok (.getfield 25, 3) := by decide +kernel
theorem d_K_relink_133 : decode M_K_relink.2.1 133 = .ok (.iload 4, 2) := by decide +kernel
theorem d_K_relink_135 : decode M_K_relink.2.1 135 = .ok (.iload_n 1, 1) := by decide +kernel
theorem d_K_relink_136 : decode M_K_relink.2.1 136 = .ok (.iload 6, 2) := by decide +kernel
theorem d_K_relink_138 : decode M_K_relink.2.1 138 = .ok (.iload 7, 2) := by decide +kernel
theorem d_K_relink_140 : decode M_K_relink.2.1 140 = .ok (.invokevirtual 80, 3) := by decide +kernel
theorem d_K_relink_143 : decode M_K_relink.2.1 143 = .ok (.aload_n 0, 1) := by decide +kernel
theorem d_K_relink_144 : decode M_K_relink.2.1 144 = .ok (.getfield 25, 3) := by decide +kernel
theorem d_K_relink_147 : decode M_K_relink.2.1 147 = .ok (.iload_n 2, 1) := by decide +kernel
theorem d_K_relink_148 : decode M_K_relink.2.1 148 = .ok (.iload_n 3, 1) := by decide +kernel
theorem d_K_relink_149 : decode M_K_relink.2.1 149 = .ok (.iload 4, 2) := by decide +kernel
theorem d_K_relink_151 : decode M_K_relink.2.1 151 = .ok (.invokevirtual 229, 3) := by decide +kernel
theorem d_K_relink_154 : decode M_K_relink.2.1 154 = .ok (.iconst 0, 1) := by decide +kernel
theorem d_K_relink_155 : decode M_K_relink.2.1 155 = .ok (.ireturn, 1) := by decide +kernel
theorem d_Disk_wordOf_0 : decode M_Disk_wordOf.2.1 0 = .ok (.aload_n 0, 1) := by decide +kernel
theorem d_Disk_wordOf_1 : decode M_Disk_wordOf.2.1 1 = .ok (.getfield 15, 3) := by decide +kernel
theorem d_Disk_wordOf_4 : decode M_Disk_wordOf.2.1 4 = .ok (.iload_n 1, 1) := by decide +kernel
theorem d_Disk_wordOf_5 : decode M_Disk_wordOf.2.1 5 = .ok (.bipush 8, 2) := by decide +kernel
theorem d_Disk_wordOf_7 : decode M_Disk_wordOf.2.1 7 = .ok (.imul, 1) := by decide +kernel
theorem d_Disk_wordOf_8 : decode M_Disk_wordOf.2.1 8 = .ok (.iload_n 2, 1) := by decide +kernel
theorem d_Disk_wordOf_9 : decode M_Disk_wordOf.2.1 9 = .ok (.iadd, 1) := by decide +kernel
theorem d_Disk_wordOf_10 : decode M_Disk_wordOf.2.1 10 = .ok (.iaload, 1) := by decide +kernel
theorem d_Disk_wordOf_11 : decode M_Disk_wordOf.2.1 11 = .ok (.ireturn, 1) := by decide +kernel
theorem d_Disk_namesBlocks_0 : decode M_Disk_namesBlocks.2.1 0 = .ok (.iload_n 2, 1) := by decide +kernel
theorem d_Disk_namesBlocks_1 : decode M_Disk_namesBlocks.2.1 1 = .ok (.istore 4, 2) := by decide +kernel
theorem d_Disk_namesBlocks_3 : decode M_Disk_namesBlocks.2.1 3 = .ok (.iload 4, 2) := by decide +kernel
theorem d_Disk_namesBlocks_5 : decode M_Disk_namesBlocks.2.1 5 = .ok (.iload_n 2, 1) := by decide +kernel
theorem d_Disk_namesBlocks_6 : decode M_Disk_namesBlocks.2.1 6 = .ok (.iload_n 3, 1) := by decide +kernel
theorem d_Disk_namesBlocks_7 : decode M_Disk_namesBlocks.2.1 7 = .ok (.iadd, 1) := by decide +kernel
theorem d_Disk_namesBlocks_8 : decode M_Disk_namesBlocks.2.1 8 = .ok (.if_icmp .ge 22, 3) := by decide +kernel
theorem d_Disk_namesBlocks_11 : decode M_Disk_namesBlocks.2.1 11 = .ok (.aload_n 0, 1) := by decide +kernel
theorem d_Disk_namesBlocks_12 : decode M_Disk_namesBlocks.2.1 12 = .ok (.iload_n 1, 1) := by decide +kernel
theorem d_Disk_namesBlocks_13 : decode M_Disk_namesBlocks.2.1 13 = .ok (.iload 4, 2) := by decide +kernel
theorem d_Disk_namesBlocks_15 : decode M_Disk_namesBlocks.2.1 15 = .ok (.invokevirtual 34, 3) := by decide +kernel
theorem d_Disk_namesBlocks_18 : decode M_Disk_namesBlocks.2.1 18 = .ok (.iconst (-1), 1) := by decide +kernel
theorem d_Disk_namesBlocks_19 : decode M_Disk_namesBlocks.2.1 19 = .ok (.if_icmp .eq 5, 3) := by decide +kernel
theorem d_Disk_namesBlocks_22 : decode M_Disk_namesBlocks.2.1 22 = .ok (.iconst 1, 1) := by decide +kernel
theorem d_Disk_namesBlocks_23 : decode M_Disk_namesBlocks.2.1 23 = .ok (.ireturn, 1) := by decide +kernel
theorem d_Disk_namesBlocks_24 : decode M_Disk_namesBlocks.2.1 24 = .ok (.iinc 4 1, 3) := by decide +kernel
theorem d_Disk_namesBlocks_27 : decode M_Disk_namesBlocks.2.1 27 = .ok (.goto (-24), 3) := by decide +kernel
theorem d_Disk_namesBlocks_30 : decode M_Disk_namesBlocks.2.1 30 = .ok (.iconst 0, 1) := by decide +kernel
theorem d_Disk_namesBlocks_31 : decode M_Disk_namesBlocks.2.1 31 = .ok (.ireturn, 1) := by decide +kernel
theorem d_K_put_0 : decode M_K_put.2.1 0 = .ok (.aload_n 0, 1) := by decide +kernel
theorem d_K_put_1 : decode M_K_put.2.1 1 = .ok (.iload_n 1, 1) := by decide +kernel
theorem d_K_put_2 : decode M_K_put.2.1 2 = .ok (.invokevirtual 84, 3) := by decide +kernel
theorem d_K_put_5 : decode M_K_put.2.1 5 = .ok (.ifCond .eq 15, 3) := by decide +kernel
theorem d_K_put_8 : decode M_K_put.2.1 8 = .ok (.aload_n 0, 1) := by decide +kernel
theorem d_K_put_9 : decode M_K_put.2.1 9 = .ok (.getfield 49, 3) := by decide +kernel
theorem d_K_put_12 : decode M_K_put.2.1 12 = .ok (.iload_n 1, 1) := by decide +kernel
theorem d_K_put_13 : decode M_K_put.2.1 13 = .ok (.aaload, 1) := by decide +kernel
theorem d_K_put_14 : decode M_K_put.2.1 14 = .ok (.getfield 218, 3) := by decide +kernel
theorem d_K_put_17 : decode M_K_put.2.1 17 = .ok (.ifCond .ne 5, 3) := by decide +kernel
theorem d_K_put_20 : decode M_K_put.2.1 20 = .ok (.iconst (-1), 1) := by decide +kernel
theorem d_K_put_21 : decode M_K_put.2.1 21 = .ok (.ireturn, 1) := by decide +kernel
theorem d_K_put_22 : decode M_K_put.2.1 22 = .ok (.aload_n 0, 1) := by decide +kernel
theorem d_K_put_23 : decode M_K_put.2.1 23 = .ok (.getfield 49, 3) := by decide +kernel
theorem d_K_put_26 : decode M_K_put.2.1 26 = .ok (.iload_n 1, 1) := by decide +kernel
theorem d_K_put_27 : decode M_K_put.2.1 27 = .ok (.aaload, 1) := by decide +kernel
theorem d_K_put_28 : decode M_K_put.2.1 28 = .ok (.getfield 230, 3) := by decide +kernel
theorem d_K_put_31 : decode M_K_put.2.1 31 = .ok (.astore 5, 2) := by decide +kernel
theorem d_K_put_33 : decode M_K_put.2.1 33 = .ok (.aload 5, 2) := by decide +kernel
theorem d_K_put_35 : decode M_K_put.2.1 35 = .ok (.aload_n 0, 1) := by decide +kernel
theorem d_K_put_36 : decode M_K_put.2.1 36 = .ok (.getfield 25, 3) := by decide +kernel
theorem d_K_put_39 : decode M_K_put.2.1 39 = .ok (.iload_n 2, 1) := by decide +kernel
theorem d_K_put_40 : decode M_K_put.2.1 40 = .ok (.invokevirtual 234, 3) := by decide +kernel
theorem d_K_put_43 : decode M_K_put.2.1 43 = .ok (.istore 6, 2) := by decide +kernel
theorem d_K_put_45 : decode M_K_put.2.1 45 = .ok (.iload 6, 2) := by decide +kernel
theorem d_K_put_47 : decode M_K_put.2.1 47 = .ok (.iconst (-1), 1) := by decide +kernel
theorem d_K_put_48 : decode M_K_put.2.1 48 = .ok (.if_icmp .ne 25, 3) := by decide +kernel
theorem d_K_put_51 : decode M_K_put.2.1 51 = .ok (.iload 4, 2) := by decide +kernel
theorem d_K_put_53 : decode M_K_put.2.1 53 = .ok (.ifCond .eq 18, 3) := by decide +kernel
theorem d_K_put_56 : decode M_K_put.2.1 56 = .ok (.aload 5, 2) := by decide +kernel
theorem d_K_put_58 : decode M_K_put.2.1 58 = .ok (.aload_n 0, 1) := by decide +kernel
theorem d_K_put_59 : decode M_K_put.2.1 59 = .ok (.getfield 25, 3) := by decide +kernel
theorem d_K_put_62 : decode M_K_put.2.1 62 = .ok (.iload_n 1, 1) := by decide +kernel
theorem d_K_put_63 : decode M_K_put.2.1 63 = .ok (.iload_n 2, 1) := by decide +kernel
theorem d_K_put_64 : decode M_K_put.2.1 64 = .ok (.iload_n 3, 1) := by decide +kernel
theorem d_K_put_65 : decode M_K_put.2.1 65 = .ok (.invokevirtual 240, 3) := by decide +kernel
theorem d_K_put_68 : decode M_K_put.2.1 68 = .ok (.goto 4, 3) := by decide +kernel
theorem d_K_put_71 : decode M_K_put.2.1 71 = .ok (.iconst (-1), 1) := by decide +kernel
theorem d_K_put_72 : decode M_K_put.2.1 72 = .ok (.ireturn, 1) := by decide +kernel
theorem d_K_put_73 : decode M_K_put.2.1 73 = .ok (.iload 4, 2) := by decide +kernel
theorem d_K_put_75 : decode M_K_put.2.1 75 = .ok (.ifCond .eq 19, 3) := by decide +kernel
theorem d_K_put_78 : decode M_K_put.2.1 78 = .ok (.aload 5, 2) := by decide +kernel
theorem d_K_put_80 : decode M_K_put.2.1 80 = .ok (.aload_n 0, 1) := by decide +kernel
theorem d_K_put_81 : decode M_K_put.2.1 81 = .ok (.getfield 25, 3) := by decide +kernel
theorem d_K_put_84 : decode M_K_put.2.1 84 = .ok (.iload 6, 2) := by decide +kernel
theorem d_K_put_86 : decode M_K_put.2.1 86 = .ok (.iload_n 2, 1) := by decide +kernel
theorem d_K_put_87 : decode M_K_put.2.1 87 = .ok (.iload_n 3, 1) := by decide +kernel
theorem d_K_put_88 : decode M_K_put.2.1 88 = .ok (.invokevirtual 243, 3) := by decide +kernel
theorem d_K_put_91 : decode M_K_put.2.1 91 = .ok (.goto 14, 3) := by decide +kernel
theorem d_K_put_94 : decode M_K_put.2.1 94 = .ok (.aload 5, 2) := by decide +kernel
theorem d_K_put_96 : decode M_K_put.2.1 96 = .ok (.aload_n 0, 1) := by decide +kernel
theorem d_K_put_97 : decode M_K_put.2.1 97 = .ok (.getfield 25, 3) := by decide +kernel
theorem d_K_put_100 : decode M_K_put.2.1 100 = .ok (.iload 6, 2) := by decide +kernel
theorem d_K_put_102 : decode M_K_put.2.1 102 = .ok (.invokevirtual 247, 3) := by decide +kernel
theorem d_K_put_105 : decode M_K_put.2.1 105 = .ok (.iconst 0, 1) := by decide +kernel
theorem d_K_put_106 : decode M_K_put.2.1 106 = .ok (.ireturn, 1) := by decide +kernel
theorem d_EntryTable_placeOf_0 : decode M_EntryTable_placeOf.2.1 0 = .ok (.iconst 0, 1) := by decide +kernel
theorem d_EntryTable_placeOf_1 : decode M_EntryTable_placeOf.2.1 1 = .ok (.istore_n 3, 1) := by decide +kernel
theorem d_EntryTable_placeOf_2 : decode M_EntryTable_placeOf.2.1 2 = .ok (.iload_n 3, 1) := by decide +kernel
theorem d_EntryTable_placeOf_3 : decode M_EntryTable_placeOf.2.1 3 = .ok (.aload_n 0, 1) := by decide +kernel
theorem d_EntryTable_placeOf_4 : decode M_EntryTable_placeOf.2.1 4 = .ok (.getfield 15, 3) := by decide +kernel
theorem d_EntryTable_placeOf_7 : decode M_EntryTable_placeOf.2.1 7 = .ok (.if_icmp .ge 21, 3) := by decide +kernel
theorem d_EntryTable_placeOf_10 : decode M_EntryTable_placeOf.2.1 10 = .ok (.aload_n 0, 1) := by decide +kernel
theorem d_EntryTable_placeOf_11 : decode M_EntryTable_placeOf.2.1 11 = .ok (.aload_n 1, 1) := by decide +kernel
theorem d_EntryTable_placeOf_12 : decode M_EntryTable_placeOf.2.1 12 = .ok (.iload_n 3, 1) := by decide +kernel
theorem d_EntryTable_placeOf_13 : decode M_EntryTable_placeOf.2.1 13 = .ok (.invokevirtual 19, 3) := by decide +kernel
theorem d_EntryTable_placeOf_16 : decode M_EntryTable_placeOf.2.1 16 = .ok (.iload_n 2, 1) := by decide +kernel
theorem d_EntryTable_placeOf_17 : decode M_EntryTable_placeOf.2.1 17 = .ok (.if_icmp .ne 5, 3) := by decide +kernel
theorem d_EntryTable_placeOf_20 : decode M_EntryTable_placeOf.2.1 20 = .ok (.iload_n 3, 1) := by decide +kernel
theorem d_EntryTable_placeOf_21 : decode M_EntryTable_placeOf.2.1 21 = .ok (.ireturn, 1) := by decide +kernel
theorem d_EntryTable_placeOf_22 : decode M_EntryTable_placeOf.2.1 22 = .ok (.iinc 3 1, 3) := by decide +kernel
theorem d_EntryTable_placeOf_25 : decode M_EntryTable_placeOf.2.1 25 = .ok (.goto (-23), 3) := by decide +kernel
theorem d_EntryTable_placeOf_28 : decode M_EntryTable_placeOf.2.1 28 = .ok (.iconst (-1), 1) := by decide +kernel
theorem d_EntryTable_placeOf_29 : decode M_EntryTable_placeOf.2.1 29 = .ok (.ireturn, 1) := by decide +kernel
theorem d_EntryTable_keyAt_0 : decode M_EntryTable_keyAt.2.1 0 = .ok (.aload_n 1, 1) := by decide +kernel
theorem d_EntryTable_keyAt_1 : decode M_EntryTable_keyAt.2.1 1 = .ok (.aload_n 0, 1) := by decide +kernel
theorem d_EntryTable_keyAt_2 : decode M_EntryTable_keyAt.2.1 2 = .ok (.iload_n 2, 1) := by decide +kernel
theorem d_EntryTable_keyAt_3 : decode M_EntryTable_keyAt.2.1 3 = .ok (.invokevirtual 40, 3) := by decide +kernel
theorem d_EntryTable_keyAt_6 : decode M_EntryTable_keyAt.2.1 6 = .ok (.iload_n 2, 1) := by decide +kernel
theorem d_EntryTable_keyAt_7 : decode M_EntryTable_keyAt.2.1 7 = .ok (.invokestatic 48, 3) := by decide +kernel
theorem d_EntryTable_keyAt_10 : decode M_EntryTable_keyAt.2.1 10 = .ok (.invokevirtual 51, 3) := by decide +kernel
theorem d_EntryTable_keyAt_13 : decode M_EntryTable_keyAt.2.1 13 = .ok (.ireturn, 1) := by decide +kernel
theorem d_EntryTable_blockOf_0 : decode M_EntryTable_blockOf.2.1 0 = .ok (.aload_n 0, 1) := by decide +kernel
theorem d_EntryTable_blockOf_1 : decode M_EntryTable_blockOf.2.1 1 = .ok (.getfield 11, 3) := by decide +kernel
theorem d_EntryTable_blockOf_4 : decode M_EntryTable_blockOf.2.1 4 = .ok (.iload_n 1, 1) := by decide +kernel
theorem d_EntryTable_blockOf_5 : decode M_EntryTable_blockOf.2.1 5 = .ok (.iconst 4, 1) := by decide +kernel
theorem d_EntryTable_blockOf_6 : decode M_EntryTable_blockOf.2.1 6 = .ok (.idiv, 1) := by decide +kernel
theorem d_EntryTable_blockOf_7 : decode M_EntryTable_blockOf.2.1 7 = .ok (.iaload, 1) := by decide +kernel
theorem d_EntryTable_blockOf_8 : decode M_EntryTable_blockOf.2.1 8 = .ok (.ireturn, 1) := by decide +kernel
theorem d_EntryTable_keyWordOf_0 : decode M_EntryTable_keyWordOf.2.1 0 = .ok (.iconst 2, 1) := by decide +kernel
theorem d_EntryTable_keyWordOf_1 : decode M_EntryTable_keyWordOf.2.1 1 = .ok (.iload_n 0, 1) := by decide +kernel
theorem d_EntryTable_keyWordOf_2 : decode M_EntryTable_keyWordOf.2.1 2 = .ok (.iconst 4, 1) := by decide +kernel
theorem d_EntryTable_keyWordOf_3 : decode M_EntryTable_keyWordOf.2.1 3 = .ok (.irem, 1) := by decide +kernel
theorem d_EntryTable_keyWordOf_4 : decode M_EntryTable_keyWordOf.2.1 4 = .ok (.imul, 1) := by decide +kernel
theorem d_EntryTable_keyWordOf_5 : decode M_EntryTable_keyWordOf.2.1 5 = .ok (.ireturn, 1) := by decide +kernel
theorem d_EntryTable_append_0 : decode M_EntryTable_append.2.1 0 = .ok (.aload_n 0, 1) := by decide +kernel
theorem d_EntryTable_append_1 : decode M_EntryTable_append.2.1 1 = .ok (.getfield 15, 3) := by decide +kernel
theorem d_EntryTable_append_4 : decode M_EntryTable_append.2.1 4 = .ok (.bipush 28, 2) := by decide +kernel
theorem d_EntryTable_append_6 : decode M_EntryTable_append.2.1 6 = .ok (.if_icmp .ne 6, 3) := by decide +kernel
theorem d_EntryTable_append_9 : decode M_EntryTable_append.2.1 9 = .ok (.bipush (-2), 2) := by decide +kernel
theorem d_EntryTable_append_11 : decode M_EntryTable_append.2.1 11 = .ok (.ireturn, 1) := by decide +kernel
theorem d_EntryTable_append_12 : decode M_EntryTable_append.2.1 12 = .ok (.aload_n 0, 1) := by decide +kernel
theorem d_EntryTable_append_13 : decode M_EntryTable_append.2.1 13 = .ok (.getfield 15, 3) := by decide +kernel
theorem d_EntryTable_append_16 : decode M_EntryTable_append.2.1 16 = .ok (.iconst 4, 1) := by decide +kernel
theorem d_EntryTable_append_17 : decode M_EntryTable_append.2.1 17 = .ok (.irem, 1) := by decide +kernel
theorem d_EntryTable_append_18 : decode M_EntryTable_append.2.1 18 = .ok (.ifCond .ne 40, 3) := by decide +kernel
theorem d_EntryTable_append_21 : decode M_EntryTable_append.2.1 21 = .ok (.aload_n 1, 1) := by decide +kernel
theorem d_EntryTable_append_22 : decode M_EntryTable_append.2.1 22 = .ok (.invokevirtual 23, 3) := by decide +kernel
theorem d_EntryTable_append_25 : decode M_EntryTable_append.2.1 25 = .ok (.istore 5, 2) := by decide +kernel
theorem d_EntryTable_append_27 : decode M_EntryTable_append.2.1 27 = .ok (.iload 5, 2) := by decide +kernel
theorem d_EntryTable_append_29 : decode M_EntryTable_append.2.1 29 = .ok (.iconst (-1), 1) := by decide +kernel
theorem d_EntryTable_append_30 : decode M_EntryTable_append.2.1 30 = .ok (.if_icmp .ne 6, 3) := by decide +kernel
theorem d_EntryTable_append_33 : decode M_EntryTable_append.2.1 33 = .ok (.bipush (-2), 2) := by decide +kernel
theorem d_EntryTable_append_35 : decode M_EntryTable_append.2.1 35 = .ok (.ireturn, 1) := by decide +kernel
theorem d_EntryTable_append_36 : decode M_EntryTable_append.2.1 36 = .ok (.aload_n 1, 1) := by decide +kernel
theorem d_EntryTable_append_37 : decode M_EntryTable_append.2.1 37 = .ok (.iload 5, 2) := by decide +kernel
theorem d_EntryTable_append_39 : decode M_EntryTable_append.2.1 39 = .ok (.iload_n 2, 1) := by decide +kernel
theorem d_EntryTable_append_40 : decode M_EntryTable_append.2.1 40 = .ok (.iconst 0, 1) := by decide +kernel
theorem d_EntryTable_append_41 : decode M_EntryTable_append.2.1 41 = .ok (.iconst 0, 1) := by decide +kernel
theorem d_EntryTable_append_42 : decode M_EntryTable_append.2.1 42 = .ok (.invokevirtual 29, 3) := by decide +kernel
theorem d_EntryTable_append_45 : decode M_EntryTable_append.2.1 45 = .ok (.aload_n 0, 1) := by decide +kernel
theorem d_EntryTable_append_46 : decode M_EntryTable_append.2.1 46 = .ok (.getfield 11, 3) := by decide +kernel
theorem d_EntryTable_append_49 : decode M_EntryTable_append.2.1 49 = .ok (.aload_n 0, 1) := by decide +kernel
theorem d_EntryTable_append_50 : decode M_EntryTable_append.2.1 50 = .ok (.getfield 15, 3) := by decide +kernel
theorem d_EntryTable_append_53 : decode M_EntryTable_append.2.1 53 = .ok (.iconst 4, 1) := by decide +kernel
theorem d_EntryTable_append_54 : decode M_EntryTable_append.2.1 54 = .ok (.idiv, 1) := by decide +kernel
theorem d_EntryTable_append_55 : decode M_EntryTable_append.2.1 55 = .ok (.iload 5, 2) := by decide +kernel
theorem d_EntryTable_append_57 : decode M_EntryTable_append.2.1 57 = .ok (.iastore, 1) := by decide +kernel
theorem d_EntryTable_append_58 : decode M_EntryTable_append.2.1 58 = .ok (.aload_n 0, 1) := by decide +kernel
theorem d_EntryTable_append_59 : decode M_EntryTable_append.2.1 59 = .ok (.aload_n 1, 1) := by decide +kernel
theorem d_EntryTable_append_60 : decode M_EntryTable_append.2.1 60 = .ok (.aload_n 0, 1) := by decide +kernel
theorem d_EntryTable_append_61 : decode M_EntryTable_append.2.1 61 = .ok (.getfield 15, 3) := by decide +kernel
theorem d_EntryTable_append_64 : decode M_EntryTable_append.2.1 64 = .ok (.iload_n 3, 1) := by decide +kernel
theorem d_EntryTable_append_65 : decode M_EntryTable_append.2.1 65 = .ok (.iload 4, 2) := by decide +kernel
theorem d_EntryTable_append_67 : decode M_EntryTable_append.2.1 67 = .ok (.invokevirtual 33, 3) := by decide +kernel
theorem d_EntryTable_append_70 : decode M_EntryTable_append.2.1 70 = .ok (.aload_n 0, 1) := by decide +kernel
theorem d_EntryTable_append_71 : decode M_EntryTable_append.2.1 71 = .ok (.dup, 1) := by decide +kernel
theorem d_EntryTable_append_72 : decode M_EntryTable_append.2.1 72 = .ok (.getfield 15, 3) := by decide +kernel
theorem d_EntryTable_append_75 : decode M_EntryTable_append.2.1 75 = .ok (.iconst 1, 1) := by decide +kernel
theorem d_EntryTable_append_76 : decode M_EntryTable_append.2.1 76 = .ok (.iadd, 1) := by decide +kernel
theorem d_EntryTable_append_77 : decode M_EntryTable_append.2.1 77 = .ok (.putfield 15, 3) := by decide +kernel
theorem d_EntryTable_append_80 : decode M_EntryTable_append.2.1 80 = .ok (.iconst 0, 1) := by decide +kernel
theorem d_EntryTable_append_81 : decode M_EntryTable_append.2.1 81 = .ok (.ireturn, 1) := by decide +kernel
theorem d_EntryTable_setEntry_0 : decode M_EntryTable_setEntry.2.1 0 = .ok (.aload_n 1, 1) := by decide +kernel
theorem d_EntryTable_setEntry_1 : decode M_EntryTable_setEntry.2.1 1 = .ok (.aload_n 0, 1) := by decide +kernel
theorem d_EntryTable_setEntry_2 : decode M_EntryTable_setEntry.2.1 2 = .ok (.iload_n 2, 1) := by decide +kernel
theorem d_EntryTable_setEntry_3 : decode M_EntryTable_setEntry.2.1 3 = .ok (.invokevirtual 40, 3) := by decide +kernel
theorem d_EntryTable_setEntry_6 : decode M_EntryTable_setEntry.2.1 6 = .ok (.iload_n 2, 1) := by decide +kernel
theorem d_EntryTable_setEntry_7 : decode M_EntryTable_setEntry.2.1 7 = .ok (.invokestatic 48, 3) := by decide +kernel
theorem d_EntryTable_setEntry_10 : decode M_EntryTable_setEntry.2.1 10 = .ok (.iload_n 3, 1) := by decide +kernel
theorem d_EntryTable_setEntry_11 : decode M_EntryTable_setEntry.2.1 11 = .ok (.invokevirtual 55, 3) := by decide +kernel
theorem d_EntryTable_setEntry_14 : decode M_EntryTable_setEntry.2.1 14 = .ok (.aload_n 1, 1) := by decide +kernel
theorem d_EntryTable_setEntry_15 : decode M_EntryTable_setEntry.2.1 15 = .ok (.aload_n 0, 1) := by decide +kernel
theorem d_EntryTable_setEntry_16 : decode M_EntryTable_setEntry.2.1 16 = .ok (.iload_n 2, 1) := by decide +kernel
theorem d_EntryTable_setEntry_17 : decode M_EntryTable_setEntry.2.1 17 = .ok (.invokevirtual 40, 3) := by decide +kernel
theorem d_EntryTable_setEntry_20 : decode M_EntryTable_setEntry.2.1 20 = .ok (.iload_n 2, 1) := by decide +kernel
theorem d_EntryTable_setEntry_21 : decode M_EntryTable_setEntry.2.1 21 = .ok (.invokestatic 48, 3) := by decide +kernel
theorem d_EntryTable_setEntry_24 : decode M_EntryTable_setEntry.2.1 24 = .ok (.iconst 1, 1) := by decide +kernel
theorem d_EntryTable_setEntry_25 : decode M_EntryTable_setEntry.2.1 25 = .ok (.iadd, 1) := by decide +kernel
theorem d_EntryTable_setEntry_26 : decode M_EntryTable_setEntry.2.1 26 = .ok (.iload 4, 2) := by decide +kernel
theorem d_EntryTable_setEntry_28 : decode M_EntryTable_setEntry.2.1 28 = .ok (.invokevirtual 55, 3) := by decide +kernel
theorem d_EntryTable_setEntry_31 : decode M_EntryTable_setEntry.2.1 31 = .ok (.return_, 1) := by decide +kernel
theorem d_EntryTable_removeAt_0 : decode M_EntryTable_removeAt.2.1 0 = .ok (.aload_n 0, 1) := by decide +kernel
theorem d_EntryTable_removeAt_1 : decode M_EntryTable_removeAt.2.1 1 = .ok (.getfield 15, 3) := by decide +kernel
theorem d_EntryTable_removeAt_4 : decode M_EntryTable_removeAt.2.1 4 = .ok (.iconst 1, 1) := by decide +kernel
theorem d_EntryTable_removeAt_5 : decode M_EntryTable_removeAt.2.1 5 = .ok (.isub, 1) := by decide +kernel
theorem d_EntryTable_removeAt_6 : decode M_EntryTable_removeAt.2.1 6 = .ok (.istore_n 3, 1) := by decide +kernel
theorem d_EntryTable_removeAt_7 : decode M_EntryTable_removeAt.2.1 7 = .ok (.aload_n 0, 1) := by decide +kernel
theorem d_EntryTable_removeAt_8 : decode M_EntryTable_removeAt.2.1 8 = .ok (.aload_n 1, 1) := by decide +kernel
theorem d_EntryTable_removeAt_9 : decode M_EntryTable_removeAt.2.1 9 = .ok (.iload_n 2, 1) := by decide +kernel
theorem d_EntryTable_removeAt_10 : decode M_EntryTable_removeAt.2.1 10 = .ok (.aload_n 0, 1) := by decide +kernel
theorem d_EntryTable_removeAt_11 : decode M_EntryTable_removeAt.2.1 11 = .ok (.aload_n 1, 1) := by decide +kernel
theorem d_EntryTable_removeAt_12 : decode M_EntryTable_removeAt.2.1 12 = .ok (.iload_n 3, 1) := by decide +kernel
theorem d_EntryTable_removeAt_13 : decode M_EntryTable_removeAt.2.1 13 = .ok (.invokevirtual 19, 3) := by decide +kernel
theorem d_EntryTable_removeAt_16 : decode M_EntryTable_removeAt.2.1 16 = .ok (.aload_n 0, 1) := by decide +kernel
theorem d_EntryTable_removeAt_17 : decode M_EntryTable_removeAt.2.1 17 = .ok (.aload_n 1, 1) := by decide +kernel
theorem d_EntryTable_removeAt_18 : decode M_EntryTable_removeAt.2.1 18 = .ok (.iload_n 3, 1) := by decide +kernel
theorem d_EntryTable_removeAt_19 : decode M_EntryTable_removeAt.2.1 19 = .ok (.invokevirtual 37, 3) := by decide +kernel
theorem d_EntryTable_removeAt_22 : decode M_EntryTable_removeAt.2.1 22 = .ok (.invokevirtual 33, 3) := by decide +kernel
theorem d_EntryTable_removeAt_25 : decode M_EntryTable_removeAt.2.1 25 = .ok (.iload_n 3, 1) := by decide +kernel
theorem d_EntryTable_removeAt_26 : decode M_EntryTable_removeAt.2.1 26 = .ok (.iconst 4, 1) := by decide +kernel
theorem d_EntryTable_removeAt_27 : decode M_EntryTable_removeAt.2.1 27 = .ok (.irem, 1) := by decide +kernel
theorem d_EntryTable_removeAt_28 : decode M_EntryTable_removeAt.2.1 28 = .ok (.ifCond .ne 12, 3) := by decide +kernel
theorem d_EntryTable_removeAt_31 : decode M_EntryTable_removeAt.2.1 31 = .ok (.aload_n 1, 1) := by decide +kernel
theorem d_EntryTable_removeAt_32 : decode M_EntryTable_removeAt.2.1 32 = .ok (.aload_n 0, 1) := by decide +kernel
theorem d_EntryTable_removeAt_33 : decode M_EntryTable_removeAt.2.1 33 = .ok (.iload_n 3, 1) := by decide +kernel
theorem d_EntryTable_removeAt_34 : decode M_EntryTable_removeAt.2.1 34 = .ok (.invokevirtual 40, 3) := by decide +kernel
theorem d_EntryTable_removeAt_37 : decode M_EntryTable_removeAt.2.1 37 = .ok (.invokevirtual 44, 3) := by decide +kernel
theorem d_EntryTable_removeAt_40 : decode M_EntryTable_removeAt.2.1 40 = .ok (.aload_n 0, 1) := by decide +kernel
theorem d_EntryTable_removeAt_41 : decode M_EntryTable_removeAt.2.1 41 = .ok (.iload_n 3, 1) := by decide +kernel
theorem d_EntryTable_removeAt_42 : decode M_EntryTable_removeAt.2.1 42 = .ok (.putfield 15, 3) := by decide +kernel
theorem d_EntryTable_removeAt_45 : decode M_EntryTable_removeAt.2.1 45 = .ok (.return_, 1) := by decide +kernel
theorem d_EntryTable_valueAt_0 : decode M_EntryTable_valueAt.2.1 0 = .ok (.aload_n 1, 1) := by decide +kernel
theorem d_EntryTable_valueAt_1 : decode M_EntryTable_valueAt.2.1 1 = .ok (.aload_n 0, 1) := by decide +kernel
theorem d_EntryTable_valueAt_2 : decode M_EntryTable_valueAt.2.1 2 = .ok (.iload_n 2, 1) := by decide +kernel
theorem d_EntryTable_valueAt_3 : decode M_EntryTable_valueAt.2.1 3 = .ok (.invokevirtual 40, 3) := by decide +kernel
theorem d_EntryTable_valueAt_6 : decode M_EntryTable_valueAt.2.1 6 = .ok (.iload_n 2, 1) := by decide +kernel
theorem d_EntryTable_valueAt_7 : decode M_EntryTable_valueAt.2.1 7 = .ok (.invokestatic 48, 3) := by decide +kernel
theorem d_EntryTable_valueAt_10 : decode M_EntryTable_valueAt.2.1 10 = .ok (.iconst 1, 1) := by decide +kernel
theorem d_EntryTable_valueAt_11 : decode M_EntryTable_valueAt.2.1 11 = .ok (.iadd, 1) := by decide +kernel
theorem d_EntryTable_valueAt_12 : decode M_EntryTable_valueAt.2.1 12 = .ok (.invokevirtual 51, 3) := by decide +kernel
theorem d_EntryTable_valueAt_15 : decode M_EntryTable_valueAt.2.1 15 = .ok (.ireturn, 1) := by decide +kernel
theorem d_K_get_0 : decode M_K_get.2.1 0 = .ok (.aload_n 0, 1) := by decide +kernel
theorem d_K_get_1 : decode M_K_get.2.1 1 = .ok (.iload_n 1, 1) := by decide +kernel
theorem d_K_get_2 : decode M_K_get.2.1 2 = .ok (.invokevirtual 84, 3) := by decide +kernel
theorem d_K_get_5 : decode M_K_get.2.1 5 = .ok (.ifCond .ne 7, 3) := by decide +kernel
theorem d_K_get_8 : decode M_K_get.2.1 8 = .ok (.ldc2_w 123, 3) := by decide +kernel
theorem d_K_get_11 : decode M_K_get.2.1 11 = .ok (.lreturn, 1) := by decide +kernel
theorem d_K_get_12 : decode M_K_get.2.1 12 = .ok (.aload_n 0, 1) := by decide +kernel
theorem d_K_get_13 : decode M_K_get.2.1 13 = .ok (.getfield 49, 3) := by decide +kernel
theorem d_K_get_16 : decode M_K_get.2.1 16 = .ok (.iload_n 1, 1) := by decide +kernel
theorem d_K_get_17 : decode M_K_get.2.1 17 = .ok (.aaload, 1) := by decide +kernel
theorem d_K_get_18 : decode M_K_get.2.1 18 = .ok (.getfield 218, 3) := by decide +kernel
theorem d_K_get_21 : decode M_K_get.2.1 21 = .ok (.ifCond .eq 51, 3) := by decide +kernel
theorem d_K_get_24 : decode M_K_get.2.1 24 = .ok (.aload_n 0, 1) := by decide +kernel
theorem d_K_get_25 : decode M_K_get.2.1 25 = .ok (.getfield 49, 3) := by decide +kernel
theorem d_K_get_28 : decode M_K_get.2.1 28 = .ok (.iload_n 1, 1) := by decide +kernel
theorem d_K_get_29 : decode M_K_get.2.1 29 = .ok (.aaload, 1) := by decide +kernel
theorem d_K_get_30 : decode M_K_get.2.1 30 = .ok (.getfield 230, 3) := by decide +kernel
theorem d_K_get_33 : decode M_K_get.2.1 33 = .ok (.aload_n 0, 1) := by decide +kernel
theorem d_K_get_34 : decode M_K_get.2.1 34 = .ok (.getfield 25, 3) := by decide +kernel
theorem d_K_get_37 : decode M_K_get.2.1 37 = .ok (.iload_n 2, 1) := by decide +kernel
theorem d_K_get_38 : decode M_K_get.2.1 38 = .ok (.invokevirtual 234, 3) := by decide +kernel
theorem d_K_get_41 : decode M_K_get.2.1 41 = .ok (.istore_n 3, 1) := by decide +kernel
theorem d_K_get_42 : decode M_K_get.2.1 42 = .ok (.iload_n 3, 1) := by decide +kernel
theorem d_K_get_43 : decode M_K_get.2.1 43 = .ok (.iconst (-1), 1) := by decide +kernel
theorem d_K_get_44 : decode M_K_get.2.1 44 = .ok (.if_icmp .ne 9, 3) := by decide +kernel
theorem d_K_get_47 : decode M_K_get.2.1 47 = .ok (.ldc2_w 123, 3) := by decide +kernel
theorem d_K_get_50 : decode M_K_get.2.1 50 = .ok (.goto 21, 3) := by decide +kernel
theorem d_K_get_53 : decode M_K_get.2.1 53 = .ok (.aload_n 0, 1) := by decide +kernel
theorem d_K_get_54 : decode M_K_get.2.1 54 = .ok (.getfield 49, 3) := by decide +kernel
theorem d_K_get_57 : decode M_K_get.2.1 57 = .ok (.iload_n 1, 1) := by decide +kernel
theorem d_K_get_58 : decode M_K_get.2.1 58 = .ok (.aaload, 1) := by decide +kernel
theorem d_K_get_59 : decode M_K_get.2.1 59 = .ok (.getfield 230, 3) := by decide +kernel
theorem d_K_get_62 : decode M_K_get.2.1 62 = .ok (.aload_n 0, 1) := by decide +kernel
theorem d_K_get_63 : decode M_K_get.2.1 63 = .ok (.getfield 25, 3) := by decide +kernel
theorem d_K_get_66 : decode M_K_get.2.1 66 = .ok (.iload_n 3, 1) := by decide +kernel
theorem d_K_get_67 : decode M_K_get.2.1 67 = .ok (.invokevirtual 251, 3) := by decide +kernel
theorem d_K_get_70 : decode M_K_get.2.1 70 = .ok (.i2l, 1) := by decide +kernel
theorem d_K_get_71 : decode M_K_get.2.1 71 = .ok (.lreturn, 1) := by decide +kernel
theorem d_K_get_72 : decode M_K_get.2.1 72 = .ok (.iload_n 2, 1) := by decide +kernel
theorem d_K_get_73 : decode M_K_get.2.1 73 = .ok (.bipush 8, 2) := by decide +kernel
theorem d_K_get_75 : decode M_K_get.2.1 75 = .ok (.invokestatic 254, 3) := by decide +kernel
theorem d_K_get_78 : decode M_K_get.2.1 78 = .ok (.istore_n 3, 1) := by decide +kernel
theorem d_K_get_79 : decode M_K_get.2.1 79 = .ok (.aload_n 0, 1) := by decide +kernel
theorem d_K_get_80 : decode M_K_get.2.1 80 = .ok (.getfield 25, 3) := by decide +kernel
theorem d_K_get_83 : decode M_K_get.2.1 83 = .ok (.iload_n 3, 1) := by decide +kernel
theorem d_K_get_84 : decode M_K_get.2.1 84 = .ok (.invokevirtual 215, 3) := by decide +kernel
theorem d_K_get_87 : decode M_K_get.2.1 87 = .ok (.ifCond .eq 15, 3) := by decide +kernel
theorem d_K_get_90 : decode M_K_get.2.1 90 = .ok (.aload_n 0, 1) := by decide +kernel
theorem d_K_get_91 : decode M_K_get.2.1 91 = .ok (.getfield 25, 3) := by decide +kernel
theorem d_K_get_94 : decode M_K_get.2.1 94 = .ok (.iload_n 3, 1) := by decide +kernel
theorem d_K_get_95 : decode M_K_get.2.1 95 = .ok (.invokevirtual 221, 3) := by decide +kernel
theorem d_K_get_98 : decode M_K_get.2.1 98 = .ok (.iload_n 1, 1) := by decide +kernel
theorem d_K_get_99 : decode M_K_get.2.1 99 = .ok (.if_icmp .eq 7, 3) := by decide +kernel
theorem d_K_get_102 : decode M_K_get.2.1 102 = .ok (.ldc2_w 123, 3) := by decide +kernel
theorem d_K_get_105 : decode M_K_get.2.1 105 = .ok (.lreturn, 1) := by decide +kernel
theorem d_K_get_106 : decode M_K_get.2.1 106 = .ok (.aload_n 0, 1) := by decide +kernel
theorem d_K_get_107 : decode M_K_get.2.1 107 = .ok (.getfield 25, 3) := by decide +kernel
theorem d_K_get_110 : decode M_K_get.2.1 110 = .ok (.iload_n 3, 1) := by decide +kernel
theorem d_K_get_111 : decode M_K_get.2.1 111 = .ok (.iload_n 2, 1) := by decide +kernel
theorem d_K_get_112 : decode M_K_get.2.1 112 = .ok (.bipush 8, 2) := by decide +kernel
theorem d_K_get_114 : decode M_K_get.2.1 114 = .ok (.invokestatic 259, 3) := by decide +kernel
theorem d_K_get_117 : decode M_K_get.2.1 117 = .ok (.invokevirtual 262, 3) := by decide +kernel
theorem d_K_get_120 : decode M_K_get.2.1 120 = .ok (.i2l, 1) := by decide +kernel
theorem d_K_get_121 : decode M_K_get.2.1 121 = .ok (.lreturn, 1) := by decide +kernel
theorem d_Math_floorDiv_0 : decode M_Math_floorDiv.2.1 0 = .ok (.iload_n 0, 1) := by decide +kernel
theorem d_Math_floorDiv_1 : decode M_Math_floorDiv.2.1 1 = .ok (.iload_n 1, 1) := by decide +kernel
theorem d_Math_floorDiv_2 : decode M_Math_floorDiv.2.1 2 = .ok (.idiv, 1) := by decide +kernel
theorem d_Math_floorDiv_3 : decode M_Math_floorDiv.2.1 3 = .ok (.istore_n 2, 1) := by decide +kernel
theorem d_Math_floorDiv_4 : decode M_Math_floorDiv.2.1 4 = .ok (.iload_n 0, 1) := by decide +kernel
theorem d_Math_floorDiv_5 : decode M_Math_floorDiv.2.1 5 = .ok (.iload_n 1, 1) := by decide +kernel
theorem d_Math_floorDiv_6 : decode M_Math_floorDiv.2.1 6 = .ok (.ixor, 1) := by decide +kernel
theorem d_Math_floorDiv_7 : decode M_Math_floorDiv.2.1 7 = .ok (.ifCond .ge 14, 3) := by decide +kernel
theorem d_Math_floorDiv_10 : decode M_Math_floorDiv.2.1 10 = .ok (.iload_n 2, 1) := by decide +kernel
theorem d_Math_floorDiv_11 : decode M_Math_floorDiv.2.1 11 = .ok (.iload_n 1, 1) := by decide +kernel
theorem d_Math_floorDiv_12 : decode M_Math_floorDiv.2.1 12 = .ok (.imul, 1) := by decide +kernel
theorem d_Math_floorDiv_13 : decode M_Math_floorDiv.2.1 13 = .ok (.iload_n 0, 1) := by decide +kernel
theorem d_Math_floorDiv_14 : decode M_Math_floorDiv.2.1 14 = .ok (.if_icmp .eq 7, 3) := by decide +kernel
theorem d_Math_floorDiv_17 : decode M_Math_floorDiv.2.1 17 = .ok (.iload_n 2, 1) := by decide +kernel
theorem d_Math_floorDiv_18 : decode M_Math_floorDiv.2.1 18 = .ok (.iconst 1, 1) := by decide +kernel
theorem d_Math_floorDiv_19 : decode M_Math_floorDiv.2.1 19 = .ok (.isub, 1) := by decide +kernel
theorem d_Math_floorDiv_20 : decode M_Math_floorDiv.2.1 20 = .ok (.ireturn, 1) := by decide +kernel
theorem d_Math_floorDiv_21 : decode M_Math_floorDiv.2.1 21 = .ok (.iload_n 2, 1) := by decide +kernel
theorem d_Math_floorDiv_22 : decode M_Math_floorDiv.2.1 22 = .ok (.ireturn, 1) := by decide +kernel
theorem d_Math_floorMod_0 : decode M_Math_floorMod.2.1 0 = .ok (.iload_n 0, 1) := by decide +kernel
theorem d_Math_floorMod_1 : decode M_Math_floorMod.2.1 1 = .ok (.iload_n 1, 1) := by decide +kernel
theorem d_Math_floorMod_2 : decode M_Math_floorMod.2.1 2 = .ok (.irem, 1) := by decide +kernel
theorem d_Math_floorMod_3 : decode M_Math_floorMod.2.1 3 = .ok (.istore_n 2, 1) := by decide +kernel
theorem d_Math_floorMod_4 : decode M_Math_floorMod.2.1 4 = .ok (.iload_n 0, 1) := by decide +kernel
theorem d_Math_floorMod_5 : decode M_Math_floorMod.2.1 5 = .ok (.iload_n 1, 1) := by decide +kernel
theorem d_Math_floorMod_6 : decode M_Math_floorMod.2.1 6 = .ok (.ixor, 1) := by decide +kernel
theorem d_Math_floorMod_7 : decode M_Math_floorMod.2.1 7 = .ok (.ifCond .ge 11, 3) := by decide +kernel
theorem d_Math_floorMod_10 : decode M_Math_floorMod.2.1 10 = .ok (.iload_n 2, 1) := by decide +kernel
theorem d_Math_floorMod_11 : decode M_Math_floorMod.2.1 11 = .ok (.ifCond .eq 7, 3) := by decide +kernel
theorem d_Math_floorMod_14 : decode M_Math_floorMod.2.1 14 = .ok (.iload_n 2, 1) := by decide +kernel
theorem d_Math_floorMod_15 : decode M_Math_floorMod.2.1 15 = .ok (.iload_n 1, 1) := by decide +kernel
theorem d_Math_floorMod_16 : decode M_Math_floorMod.2.1 16 = .ok (.iadd, 1) := by decide +kernel
theorem d_Math_floorMod_17 : decode M_Math_floorMod.2.1 17 = .ok (.ireturn, 1) := by decide +kernel
theorem d_Math_floorMod_18 : decode M_Math_floorMod.2.1 18 = .ok (.iload_n 2, 1) := by decide +kernel
theorem d_Math_floorMod_19 : decode M_Math_floorMod.2.1 19 = .ok (.ireturn, 1) := by decide +kernel
theorem d_K_holder_0 : decode M_K_holder.2.1 0 = .ok (.iload_n 1, 1) := by decide +kernel
theorem d_K_holder_1 : decode M_K_holder.2.1 1 = .ok (.ifCond .ne 27, 3) := by decide +kernel
theorem d_K_holder_4 : decode M_K_holder.2.1 4 = .ok (.aload_n 0, 1) := by decide +kernel
theorem d_K_holder_5 : decode M_K_holder.2.1 5 = .ok (.getfield 18, 3) := by decide +kernel
theorem d_K_holder_8 : decode M_K_holder.2.1 8 = .ok (.iload_n 2, 1) := by decide +kernel
theorem d_K_holder_9 : decode M_K_holder.2.1 9 = .ok (.invokevirtual 263, 3) := by decide +kernel
theorem d_K_holder_12 : decode M_K_holder.2.1 12 = .ok (.ifCond .eq 14, 3) := by decide +kernel
theorem d_K_holder_15 : decode M_K_holder.2.1 15 = .ok (.aload_n 0, 1) := by decide +kernel
theorem d_K_holder_16 : decode M_K_holder.2.1 16 = .ok (.getfield 18, 3) := by decide +kernel
theorem d_K_holder_19 : decode M_K_holder.2.1 19 = .ok (.iload_n 2, 1) := by decide +kernel
theorem d_K_holder_20 : decode M_K_holder.2.1 20 = .ok (.invokevirtual 144, 3) := by decide +kernel
theorem d_K_holder_23 : decode M_K_holder.2.1 23 = .ok (.goto 4, 3) := by decide +kernel
theorem d_K_holder_26 : decode M_K_holder.2.1 26 = .ok (.iconst (-1), 1) := by decide +kernel
theorem d_K_holder_27 : decode M_K_holder.2.1 27 = .ok (.ireturn, 1) := by decide +kernel
theorem d_K_holder_28 : decode M_K_holder.2.1 28 = .ok (.iload_n 1, 1) := by decide +kernel
theorem d_K_holder_29 : decode M_K_holder.2.1 29 = .ok (.iconst 1, 1) := by decide +kernel
theorem d_K_holder_30 : decode M_K_holder.2.1 30 = .ok (.if_icmp .ne 27, 3) := by decide +kernel
theorem d_K_holder_33 : decode M_K_holder.2.1 33 = .ok (.aload_n 0, 1) := by decide +kernel
theorem d_K_holder_34 : decode M_K_holder.2.1 34 = .ok (.getfield 25, 3) := by decide +kernel
theorem d_K_holder_37 : decode M_K_holder.2.1 37 = .ok (.iload_n 2, 1) := by decide +kernel
theorem d_K_holder_38 : decode M_K_holder.2.1 38 = .ok (.invokevirtual 215, 3) := by decide +kernel
theorem d_K_holder_41 : decode M_K_holder.2.1 41 = .ok (.ifCond .eq 14, 3) := by decide +kernel
theorem d_K_holder_44 : decode M_K_holder.2.1 44 = .ok (.aload_n 0, 1) := by decide +kernel
theorem d_K_holder_45 : decode M_K_holder.2.1 45 = .ok (.getfield 25, 3) := by decide +kernel
theorem d_K_holder_48 : decode M_K_holder.2.1 48 = .ok (.iload_n 2, 1) := by decide +kernel
theorem d_K_holder_49 : decode M_K_holder.2.1 49 = .ok (.invokevirtual 221, 3) := by decide +kernel
theorem d_K_holder_52 : decode M_K_holder.2.1 52 = .ok (.goto 4, 3) := by decide +kernel
theorem d_K_holder_55 : decode M_K_holder.2.1 55 = .ok (.iconst (-1), 1) := by decide +kernel
theorem d_K_holder_56 : decode M_K_holder.2.1 56 = .ok (.ireturn, 1) := by decide +kernel
theorem d_K_holder_57 : decode M_K_holder.2.1 57 = .ok (.iload_n 1, 1) := by decide +kernel
theorem d_K_holder_58 : decode M_K_holder.2.1 58 = .ok (.iconst 2, 1) := by decide +kernel
theorem d_K_holder_59 : decode M_K_holder.2.1 59 = .ok (.bipush 7, 2) := by decide +kernel
theorem d_K_holder_61 : decode M_K_holder.2.1 61 = .ok (.invokestatic 108, 3) := by decide +kernel
theorem d_K_holder_64 : decode M_K_holder.2.1 64 = .ok (.ifCond .ne 5, 3) := by decide +kernel
theorem d_K_holder_67 : decode M_K_holder.2.1 67 = .ok (.iconst (-1), 1) := by decide +kernel
theorem d_K_holder_68 : decode M_K_holder.2.1 68 = .ok (.ireturn, 1) := by decide +kernel
theorem d_K_holder_69 : decode M_K_holder.2.1 69 = .ok (.aload_n 0, 1) := by decide +kernel
theorem d_K_holder_70 : decode M_K_holder.2.1 70 = .ok (.getfield 49, 3) := by decide +kernel
theorem d_K_holder_73 : decode M_K_holder.2.1 73 = .ok (.iload_n 1, 1) := by decide +kernel
theorem d_K_holder_74 : decode M_K_holder.2.1 74 = .ok (.iconst 2, 1) := by decide +kernel
theorem d_K_holder_75 : decode M_K_holder.2.1 75 = .ok (.isub, 1) := by decide +kernel
theorem d_K_holder_76 : decode M_K_holder.2.1 76 = .ok (.aaload, 1) := by decide +kernel
theorem d_K_holder_77 : decode M_K_holder.2.1 77 = .ok (.getfield 147, 3) := by decide +kernel
theorem d_K_holder_80 : decode M_K_holder.2.1 80 = .ok (.astore_n 3, 1) := by decide +kernel
theorem d_K_holder_81 : decode M_K_holder.2.1 81 = .ok (.aload_n 3, 1) := by decide +kernel
theorem d_K_holder_82 : decode M_K_holder.2.1 82 = .ok (.iload_n 2, 1) := by decide +kernel
theorem d_K_holder_83 : decode M_K_holder.2.1 83 = .ok (.invokevirtual 266, 3) := by decide +kernel
theorem d_K_holder_86 : decode M_K_holder.2.1 86 = .ok (.ifCond .eq 11, 3) := by decide +kernel
theorem d_K_holder_89 : decode M_K_holder.2.1 89 = .ok (.aload_n 3, 1) := by decide +kernel
theorem d_K_holder_90 : decode M_K_holder.2.1 90 = .ok (.iload_n 2, 1) := by decide +kernel
theorem d_K_holder_91 : decode M_K_holder.2.1 91 = .ok (.invokevirtual 269, 3) := by decide +kernel
theorem d_K_holder_94 : decode M_K_holder.2.1 94 = .ok (.goto 4, 3) := by decide +kernel
theorem d_K_holder_97 : decode M_K_holder.2.1 97 = .ok (.iconst (-1), 1) := by decide +kernel
theorem d_K_holder_98 : decode M_K_holder.2.1 98 = .ok (.ireturn, 1) := by decide +kernel
theorem d_PageList_keeps_0 : decode M_PageList_keeps.2.1 0 = .ok (.iload_n 1, 1) := by decide +kernel
theorem d_PageList_keeps_1 : decode M_PageList_keeps.2.1 1 = .ok (.ifCond .lt 15, 3) := by decide +kernel
theorem d_PageList_keeps_4 : decode M_PageList_keeps.2.1 4 = .ok (.iload_n 1, 1) := by decide +kernel
theorem d_PageList_keeps_5 : decode M_PageList_keeps.2.1 5 = .ok (.aload_n 0, 1) := by decide +kernel
theorem d_PageList_keeps_6 : decode M_PageList_keeps.2.1 6 = .ok (.getfield 13, 3) := by decide +kernel
theorem d_PageList_keeps_9 : decode M_PageList_keeps.2.1 9 = .ok (.if_icmp .ge 7, 3) := by decide +kernel
theorem d_PageList_keeps_12 : decode M_PageList_keeps.2.1 12 = .ok (.iconst 1, 1) := by decide +kernel
theorem d_PageList_keeps_13 : decode M_PageList_keeps.2.1 13 = .ok (.goto 4, 3) := by decide +kernel
theorem d_PageList_keeps_16 : decode M_PageList_keeps.2.1 16 = .ok (.iconst 0, 1) := by decide +kernel
theorem d_PageList_keeps_17 : decode M_PageList_keeps.2.1 17 = .ok (.ireturn, 1) := by decide +kernel
theorem d_PageList_beforeLast_0 : decode M_PageList_beforeLast.2.1 0 = .ok (.aload_n 0, 1) := by decide +kernel
theorem d_PageList_beforeLast_1 : decode M_PageList_beforeLast.2.1 1 = .ok (.getfield 9, 3) := by decide +kernel
theorem d_PageList_beforeLast_4 : decode M_PageList_beforeLast.2.1 4 = .ok (.aload_n 0, 1) := by decide +kernel
theorem d_PageList_beforeLast_5 : decode M_PageList_beforeLast.2.1 5 = .ok (.getfield 17, 3) := by decide +kernel
theorem d_PageList_beforeLast_8 : decode M_PageList_beforeLast.2.1 8 = .ok (.bipush 8, 2) := by decide +kernel
theorem d_PageList_beforeLast_10 : decode M_PageList_beforeLast.2.1 10 = .ok (.iadd, 1) := by decide +kernel
theorem d_PageList_beforeLast_11 : decode M_PageList_beforeLast.2.1 11 = .ok (.iconst 1, 1) := by decide +kernel
theorem d_PageList_beforeLast_12 : decode M_PageList_beforeLast.2.1 12 = .ok (.isub, 1) := by decide +kernel
theorem d_PageList_beforeLast_13 : decode M_PageList_beforeLast.2.1 13 = .ok (.iload_n 1, 1) := by decide +kernel
theorem d_PageList_beforeLast_14 : decode M_PageList_beforeLast.2.1 14 = .ok (.isub, 1) := by decide +kernel
theorem d_PageList_beforeLast_15 : decode M_PageList_beforeLast.2.1 15 = .ok (.bipush 8, 2) := by decide +kernel
theorem d_PageList_beforeLast_17 : decode M_PageList_beforeLast.2.1 17 = .ok (.irem, 1) := by decide +kernel
theorem d_PageList_beforeLast_18 : decode M_PageList_beforeLast.2.1 18 = .ok (.iaload, 1) := by decide +kernel
theorem d_PageList_beforeLast_19 : decode M_PageList_beforeLast.2.1 19 = .ok (.ireturn, 1) := by decide +kernel
theorem d_K_count_0 : decode M_K_count.2.1 0 = .ok (.iload_n 1, 1) := by decide +kernel
theorem d_K_count_1 : decode M_K_count.2.1 1 = .ok (.tableswitch 50 0 2 #[27, 36, 45], 27) := by decide +kernel
theorem d_K_count_28 : decode M_K_count.2.1 28 = .ok (.aload_n 0, 1) := by decide +kernel
theorem d_K_count_29 : decode M_K_count.2.1 29 = .ok (.getfield 18, 3) := by decide +kernel
theorem d_K_count_32 : decode M_K_count.2.1 32 = .ok (.iconst (-1), 1) := by decide +kernel
theorem d_K_count_33 : decode M_K_count.2.1 33 = .ok (.invokevirtual 272, 3) := by decide +kernel
theorem d_K_count_36 : decode M_K_count.2.1 36 = .ok (.ireturn, 1) := by decide +kernel
theorem d_K_count_37 : decode M_K_count.2.1 37 = .ok (.aload_n 0, 1) := by decide +kernel
theorem d_K_count_38 : decode M_K_count.2.1 38 = .ok (.getfield 25, 3) := by decide +kernel
theorem d_K_count_41 : decode M_K_count.2.1 41 = .ok (.iconst (-1), 1) := by decide +kernel
theorem d_K_count_42 : decode M_K_count.2.1 42 = .ok (.invokevirtual 275, 3) := by decide +kernel
theorem d_K_count_45 : decode M_K_count.2.1 45 = .ok (.ireturn, 1) := by decide +kernel
theorem d_K_count_46 : decode M_K_count.2.1 46 = .ok (.aload_n 0, 1) := by decide +kernel
theorem d_K_count_47 : decode M_K_count.2.1 47 = .ok (.getfield 43, 3) := by decide +kernel
theorem d_K_count_50 : decode M_K_count.2.1 50 = .ok (.ireturn, 1) := by decide +kernel
theorem d_K_count_51 : decode M_K_count.2.1 51 = .ok (.iload_n 2, 1) := by decide +kernel
theorem d_K_count_52 : decode M_K_count.2.1 52 = .ok (.invokestatic 54, 3) := by decide +kernel
theorem d_K_count_55 : decode M_K_count.2.1 55 = .ok (.ifCond .eq 12, 3) := by decide +kernel
theorem d_K_count_58 : decode M_K_count.2.1 58 = .ok (.aload_n 0, 1) := by decide +kernel
theorem d_K_count_59 : decode M_K_count.2.1 59 = .ok (.iload_n 2, 1) := by decide +kernel
theorem d_K_count_60 : decode M_K_count.2.1 60 = .ok (.iload_n 1, 1) := by decide +kernel
theorem d_K_count_61 : decode M_K_count.2.1 61 = .ok (.invokevirtual 278, 3) := by decide +kernel
theorem d_K_count_64 : decode M_K_count.2.1 64 = .ok (.goto 4, 3) := by decide +kernel
theorem d_K_count_67 : decode M_K_count.2.1 67 = .ok (.iconst (-1), 1) := by decide +kernel
theorem d_K_count_68 : decode M_K_count.2.1 68 = .ok (.ireturn, 1) := by decide +kernel
theorem d_Memory_pagesOf_0 : decode M_Memory_pagesOf.2.1 0 = .ok (.iconst 0, 1) := by decide +kernel
theorem d_Memory_pagesOf_1 : decode M_Memory_pagesOf.2.1 1 = .ok (.istore_n 2, 1) := by decide +kernel
theorem d_Memory_pagesOf_2 : decode M_Memory_pagesOf.2.1 2 = .ok (.iconst 0, 1) := by decide +kernel
theorem d_Memory_pagesOf_3 : decode M_Memory_pagesOf.2.1 3 = .ok (.istore_n 3, 1) := by decide +kernel
theorem d_Memory_pagesOf_4 : decode M_Memory_pagesOf.2.1 4 = .ok (.iload_n 3, 1) := by decide +kernel
theorem d_Memory_pagesOf_5 : decode M_Memory_pagesOf.2.1 5 = .ok (.aload_n 0, 1) := by decide +kernel
theorem d_Memory_pagesOf_6 : decode M_Memory_pagesOf.2.1 6 = .ok (.getfield 9, 3) := by decide +kernel
theorem d_Memory_pagesOf_9 : decode M_Memory_pagesOf.2.1 9 = .ok (.if_icmp .ge 22, 3) := by decide +kernel
theorem d_Memory_pagesOf_12 : decode M_Memory_pagesOf.2.1 12 = .ok (.aload_n 0, 1) := by decide +kernel
theorem d_Memory_pagesOf_13 : decode M_Memory_pagesOf.2.1 13 = .ok (.getfield 19, 3) := by decide +kernel
theorem d_Memory_pagesOf_16 : decode M_Memory_pagesOf.2.1 16 = .ok (.iload_n 3, 1) := by decide +kernel
theorem d_Memory_pagesOf_17 : decode M_Memory_pagesOf.2.1 17 = .ok (.iaload, 1) := by decide +kernel
theorem d_Memory_pagesOf_18 : decode M_Memory_pagesOf.2.1 18 = .ok (.iload_n 1, 1) := by decide +kernel
theorem d_Memory_pagesOf_19 : decode M_Memory_pagesOf.2.1 19 = .ok (.if_icmp .ne 6, 3) := by decide +kernel
theorem d_Memory_pagesOf_22 : decode M_Memory_pagesOf.2.1 22 = .ok (.iinc 2 1, 3) := by decide +kernel
theorem d_Memory_pagesOf_25 : decode M_Memory_pagesOf.2.1 25 = .ok (.iinc 3 1, 3) := by decide +kernel
theorem d_Memory_pagesOf_28 : decode M_Memory_pagesOf.2.1 28 = .ok (.goto (-24), 3) := by decide +kernel
theorem d_Memory_pagesOf_31 : decode M_Memory_pagesOf.2.1 31 = .ok (.iload_n 2, 1) := by decide +kernel
theorem d_Memory_pagesOf_32 : decode M_Memory_pagesOf.2.1 32 = .ok (.ireturn, 1) := by decide +kernel
theorem d_Disk_blocksOf_0 : decode M_Disk_blocksOf.2.1 0 = .ok (.iconst 0, 1) := by decide +kernel
theorem d_Disk_blocksOf_1 : decode M_Disk_blocksOf.2.1 1 = .ok (.istore_n 2, 1) := by decide +kernel
theorem d_Disk_blocksOf_2 : decode M_Disk_blocksOf.2.1 2 = .ok (.iconst 0, 1) := by decide +kernel
theorem d_Disk_blocksOf_3 : decode M_Disk_blocksOf.2.1 3 = .ok (.istore_n 3, 1) := by decide +kernel
theorem d_Disk_blocksOf_4 : decode M_Disk_blocksOf.2.1 4 = .ok (.iload_n 3, 1) := by decide +kernel
theorem d_Disk_blocksOf_5 : decode M_Disk_blocksOf.2.1 5 = .ok (.aload_n 0, 1) := by decide +kernel
theorem d_Disk_blocksOf_6 : decode M_Disk_blocksOf.2.1 6 = .ok (.getfield 9, 3) := by decide +kernel
theorem d_Disk_blocksOf_9 : decode M_Disk_blocksOf.2.1 9 = .ok (.if_icmp .ge 22, 3) := by decide +kernel
theorem d_Disk_blocksOf_12 : decode M_Disk_blocksOf.2.1 12 = .ok (.aload_n 0, 1) := by decide +kernel
theorem d_Disk_blocksOf_13 : decode M_Disk_blocksOf.2.1 13 = .ok (.getfield 19, 3) := by decide +kernel
theorem d_Disk_blocksOf_16 : decode M_Disk_blocksOf.2.1 16 = .ok (.iload_n 3, 1) := by decide +kernel
theorem d_Disk_blocksOf_17 : decode M_Disk_blocksOf.2.1 17 = .ok (.iaload, 1) := by decide +kernel
theorem d_Disk_blocksOf_18 : decode M_Disk_blocksOf.2.1 18 = .ok (.iload_n 1, 1) := by decide +kernel
theorem d_Disk_blocksOf_19 : decode M_Disk_blocksOf.2.1 19 = .ok (.if_icmp .ne 6, 3) := by decide +kernel
theorem d_Disk_blocksOf_22 : decode M_Disk_blocksOf.2.1 22 = .ok (.iinc 2 1, 3) := by decide +kernel
theorem d_Disk_blocksOf_25 : decode M_Disk_blocksOf.2.1 25 = .ok (.iinc 3 1, 3) := by decide +kernel
theorem d_Disk_blocksOf_28 : decode M_Disk_blocksOf.2.1 28 = .ok (.goto (-24), 3) := by decide +kernel
theorem d_Disk_blocksOf_31 : decode M_Disk_blocksOf.2.1 31 = .ok (.iload_n 2, 1) := by decide +kernel
theorem d_Disk_blocksOf_32 : decode M_Disk_blocksOf.2.1 32 = .ok (.ireturn, 1) := by decide +kernel
theorem d_K_countOf_0 : decode M_K_countOf.2.1 0 = .ok (.iload_n 2, 1) := by decide +kernel
theorem d_K_countOf_1 : decode M_K_countOf.2.1 1 = .ok (.tableswitch 103 3 8 #[39, 48, 57, 70, 79, 90], 39) := by decide +kernel
theorem d_K_countOf_40 : decode M_K_countOf.2.1 40 = .ok (.aload_n 0, 1) := by decide +kernel
theorem d_K_countOf_41 : decode M_K_countOf.2.1 41 = .ok (.getfield 18, 3) := by decide +kernel
theorem d_K_countOf_44 : decode M_K_countOf.2.1 44 = .ok (.iload_n 1, 1) := by decide +kernel
theorem d_K_countOf_45 : decode M_K_countOf.2.1 45 = .ok (.invokevirtual 272, 3) := by decide +kernel
theorem d_K_countOf_48 : decode M_K_countOf.2.1 48 = .ok (.ireturn, 1) := by decide +kernel
theorem d_K_countOf_49 : decode M_K_countOf.2.1 49 = .ok (.aload_n 0, 1) := by decide +kernel
theorem d_K_countOf_50 : decode M_K_countOf.2.1 50 = .ok (.getfield 18, 3) := by decide +kernel
theorem d_K_countOf_53 : decode M_K_countOf.2.1 53 = .ok (.iload_n 1, 1) := by decide +kernel
theorem d_K_countOf_54 : decode M_K_countOf.2.1 54 = .ok (.invokevirtual 281, 3) := by decide +kernel
theorem d_K_countOf_57 : decode M_K_countOf.2.1 57 = .ok (.ireturn, 1) := by decide +kernel
theorem d_K_countOf_58 : decode M_K_countOf.2.1 58 = .ok (.aload_n 0, 1) := by decide +kernel
theorem d_K_countOf_59 : decode M_K_countOf.2.1 59 = .ok (.getfield 49, 3) := by decide +kernel
theorem d_K_countOf_62 : decode M_K_countOf.2.1 62 = .ok (.iload_n 1, 1) := by decide +kernel
theorem d_K_countOf_63 : decode M_K_countOf.2.1 63 = .ok (.aaload, 1) := by decide +kernel
theorem d_K_countOf_64 : decode M_K_countOf.2.1 64 = .ok (.getfield 194, 3) := by decide +kernel
theorem d_K_countOf_67 : decode M_K_countOf.2.1 67 = .ok (.getfield 198, 3) := by decide +kernel
theorem d_K_countOf_70 : decode M_K_countOf.2.1 70 = .ok (.ireturn, 1) := by decide +kernel
theorem d_K_countOf_71 : decode M_K_countOf.2.1 71 = .ok (.aload_n 0, 1) := by decide +kernel
theorem d_K_countOf_72 : decode M_K_countOf.2.1 72 = .ok (.getfield 25, 3) := by decide +kernel
theorem d_K_countOf_75 : decode M_K_countOf.2.1 75 = .ok (.iload_n 1, 1) := by decide +kernel
theorem d_K_countOf_76 : decode M_K_countOf.2.1 76 = .ok (.invokevirtual 275, 3) := by decide +kernel
theorem d_K_countOf_79 : decode M_K_countOf.2.1 79 = .ok (.ireturn, 1) := by decide +kernel
theorem d_K_countOf_80 : decode M_K_countOf.2.1 80 = .ok (.iconst 1, 1) := by decide +kernel
theorem d_K_countOf_81 : decode M_K_countOf.2.1 81 = .ok (.aload_n 0, 1) := by decide +kernel
theorem d_K_countOf_82 : decode M_K_countOf.2.1 82 = .ok (.getfield 32, 3) := by decide +kernel
theorem d_K_countOf_85 : decode M_K_countOf.2.1 85 = .ok (.iload_n 1, 1) := by decide +kernel
theorem d_K_countOf_86 : decode M_K_countOf.2.1 86 = .ok (.invokevirtual 284, 3) := by decide +kernel
theorem d_K_countOf_89 : decode M_K_countOf.2.1 89 = .ok (.iadd, 1) := by decide +kernel
theorem d_K_countOf_90 : decode M_K_countOf.2.1 90 = .ok (.ireturn, 1) := by decide +kernel
theorem d_K_countOf_91 : decode M_K_countOf.2.1 91 = .ok (.aload_n 0, 1) := by decide +kernel
theorem d_K_countOf_92 : decode M_K_countOf.2.1 92 = .ok (.getfield 49, 3) := by decide +kernel
theorem d_K_countOf_95 : decode M_K_countOf.2.1 95 = .ok (.iload_n 1, 1) := by decide +kernel
theorem d_K_countOf_96 : decode M_K_countOf.2.1 96 = .ok (.aaload, 1) := by decide +kernel
theorem d_K_countOf_97 : decode M_K_countOf.2.1 97 = .ok (.getfield 230, 3) := by decide +kernel
theorem d_K_countOf_100 : decode M_K_countOf.2.1 100 = .ok (.getfield 286, 3) := by decide +kernel
theorem d_K_countOf_103 : decode M_K_countOf.2.1 103 = .ok (.ireturn, 1) := by decide +kernel
theorem d_K_countOf_104 : decode M_K_countOf.2.1 104 = .ok (.iconst (-1), 1) := by decide +kernel
theorem d_K_countOf_105 : decode M_K_countOf.2.1 105 = .ok (.ireturn, 1) := by decide +kernel
theorem d_Memory_namedPagesOf_0 : decode M_Memory_namedPagesOf.2.1 0 = .ok (.iconst 0, 1) := by decide +kernel
theorem d_Memory_namedPagesOf_1 : decode M_Memory_namedPagesOf.2.1 1 = .ok (.istore_n 2, 1) := by decide +kernel
theorem d_Memory_namedPagesOf_2 : decode M_Memory_namedPagesOf.2.1 2 = .ok (.iconst 0, 1) := by decide +kernel
theorem d_Memory_namedPagesOf_3 : decode M_Memory_namedPagesOf.2.1 3 = .ok (.istore_n 3, 1) := by decide +kernel
theorem d_Memory_namedPagesOf_4 : decode M_Memory_namedPagesOf.2.1 4 = .ok (.iload_n 3, 1) := by decide +kernel
theorem d_Memory_namedPagesOf_5 : decode M_Memory_namedPagesOf.2.1 5 = .ok (.aload_n 0, 1) := by decide +kernel
theorem d_Memory_namedPagesOf_6 : decode M_Memory_namedPagesOf.2.1 6 = .ok (.getfield 9, 3) := by decide +kernel
theorem d_Memory_namedPagesOf_9 : decode M_Memory_namedPagesOf.2.1 9 = .ok (.if_icmp .ge 31, 3) := by decide +kernel
theorem d_Memory_namedPagesOf_12 : decode M_Memory_namedPagesOf.2.1 12 = .ok (.aload_n 0, 1) := by decide +kernel
theorem d_Memory_namedPagesOf_13 : decode M_Memory_namedPagesOf.2.1 13 = .ok (.getfield 19, 3) := by decide +kernel
theorem d_Memory_namedPagesOf_16 : decode M_Memory_namedPagesOf.2.1 16 = .ok (.iload_n 3, 1) := by decide +kernel
theorem d_Memory_namedPagesOf_17 : decode M_Memory_namedPagesOf.2.1 17 = .ok (.iaload, 1) := by decide +kernel
theorem d_Memory_namedPagesOf_18 : decode M_Memory_namedPagesOf.2.1 18 = .ok (.iload_n 1, 1) := by decide +kernel
theorem d_Memory_namedPagesOf_19 : decode M_Memory_namedPagesOf.2.1 19 = .ok (.if_icmp .ne 15, 3) := by decide +kernel
theorem d_Memory_namedPagesOf_22 : decode M_Memory_namedPagesOf.2.1 22 = .ok (.aload_n 0, 1) := by decide +kernel
theorem d_Memory_namedPagesOf_23 : decode M_Memory_namedPagesOf.2.1 23 = .ok (.getfield 28, 3) := by decide +kernel
theorem d_Memory_namedPagesOf_26 : decode M_Memory_namedPagesOf.2.1 26 = .ok (.iload_n 3, 1) := by decide +kernel
theorem d_Memory_namedPagesOf_27 : decode M_Memory_namedPagesOf.2.1 27 = .ok (.baload, 1) := by decide +kernel
theorem d_Memory_namedPagesOf_28 : decode M_Memory_namedPagesOf.2.1 28 = .ok (.ifCond .eq 6, 3) := by decide +kernel
theorem d_Memory_namedPagesOf_31 : decode M_Memory_namedPagesOf.2.1 31 = .ok (.iinc 2 1, 3) := by decide +kernel
theorem d_Memory_namedPagesOf_34 : decode M_Memory_namedPagesOf.2.1 34 = .ok (.iinc 3 1, 3) := by decide +kernel
theorem d_Memory_namedPagesOf_37 : decode M_Memory_namedPagesOf.2.1 37 = .ok (.goto (-33), 3) := by decide +kernel
theorem d_Memory_namedPagesOf_40 : decode M_Memory_namedPagesOf.2.1 40 = .ok (.iload_n 2, 1) := by decide +kernel
theorem d_Memory_namedPagesOf_41 : decode M_Memory_namedPagesOf.2.1 41 = .ok (.ireturn, 1) := by decide +kernel
theorem d_Law_cell_0 : decode M_Law_cell.2.1 0 = .ok (.iload_n 1, 1) := by decide +kernel
theorem d_Law_cell_1 : decode M_Law_cell.2.1 1 = .ok (.aload_n 0, 1) := by decide +kernel
theorem d_Law_cell_2 : decode M_Law_cell.2.1 2 = .ok (.arraylength, 1) := by decide +kernel
theorem d_Law_cell_3 : decode M_Law_cell.2.1 3 = .ok (.if_icmp .ge 9, 3) := by decide +kernel
theorem d_Law_cell_6 : decode M_Law_cell.2.1 6 = .ok (.aload_n 0, 1) := by decide +kernel
theorem d_Law_cell_7 : decode M_Law_cell.2.1 7 = .ok (.iload_n 1, 1) := by decide +kernel
theorem d_Law_cell_8 : decode M_Law_cell.2.1 8 = .ok (.iaload, 1) := by decide +kernel
theorem d_Law_cell_9 : decode M_Law_cell.2.1 9 = .ok (.goto 4, 3) := by decide +kernel
theorem d_Law_cell_12 : decode M_Law_cell.2.1 12 = .ok (.iconst 0, 1) := by decide +kernel
theorem d_Law_cell_13 : decode M_Law_cell.2.1 13 = .ok (.ireturn, 1) := by decide +kernel
theorem d_Mo_init_0 : decode M_Mo_init.2.1 0 = .ok (.aload_n 0, 1) := by decide +kernel
theorem d_Mo_init_1 : decode M_Mo_init.2.1 1 = .ok (.invokespecial 1, 3) := by decide +kernel
theorem d_Mo_init_4 : decode M_Mo_init.2.1 4 = .ok (.aload_n 0, 1) := by decide +kernel
theorem d_Mo_init_5 : decode M_Mo_init.2.1 5 = .ok (.bipush 6, 2) := by decide +kernel
theorem d_Mo_init_7 : decode M_Mo_init.2.1 7 = .ok (.newarray .boolean, 2) := by decide +kernel
theorem d_Mo_init_9 : decode M_Mo_init.2.1 9 = .ok (.putfield 7, 3) := by decide +kernel
theorem d_Mo_init_12 : decode M_Mo_init.2.1 12 = .ok (.aload_n 0, 1) := by decide +kernel
theorem d_Mo_init_13 : decode M_Mo_init.2.1 13 = .ok (.bipush 6, 2) := by decide +kernel
theorem d_Mo_init_15 : decode M_Mo_init.2.1 15 = .ok (.newarray .boolean, 2) := by decide +kernel
theorem d_Mo_init_17 : decode M_Mo_init.2.1 17 = .ok (.putfield 13, 3) := by decide +kernel
theorem d_Mo_init_20 : decode M_Mo_init.2.1 20 = .ok (.aload_n 0, 1) := by decide +kernel
theorem d_Mo_init_21 : decode M_Mo_init.2.1 21 = .ok (.bipush 6, 2) := by decide +kernel
theorem d_Mo_init_23 : decode M_Mo_init.2.1 23 = .ok (.newarray .int, 2) := by decide +kernel
theorem d_Mo_init_25 : decode M_Mo_init.2.1 25 = .ok (.putfield 16, 3) := by decide +kernel
theorem d_Mo_init_28 : decode M_Mo_init.2.1 28 = .ok (.aload_n 0, 1) := by decide +kernel
theorem d_Mo_init_29 : decode M_Mo_init.2.1 29 = .ok (.bipush 6, 2) := by decide +kernel
theorem d_Mo_init_31 : decode M_Mo_init.2.1 31 = .ok (.newarray .int, 2) := by decide +kernel
theorem d_Mo_init_33 : decode M_Mo_init.2.1 33 = .ok (.putfield 20, 3) := by decide +kernel
theorem d_Mo_init_36 : decode M_Mo_init.2.1 36 = .ok (.aload_n 0, 1) := by decide +kernel
theorem d_Mo_init_37 : decode M_Mo_init.2.1 37 = .ok (.iconst 0, 1) := by decide +kernel
theorem d_Mo_init_38 : decode M_Mo_init.2.1 38 = .ok (.putfield 23, 3) := by decide +kernel
theorem d_Mo_init_41 : decode M_Mo_init.2.1 41 = .ok (.aload_n 0, 1) := by decide +kernel
theorem d_Mo_init_42 : decode M_Mo_init.2.1 42 = .ok (.iconst 0, 1) := by decide +kernel
theorem d_Mo_init_43 : decode M_Mo_init.2.1 43 = .ok (.putfield 27, 3) := by decide +kernel
theorem d_Mo_init_46 : decode M_Mo_init.2.1 46 = .ok (.aload_n 0, 1) := by decide +kernel
theorem d_Mo_init_47 : decode M_Mo_init.2.1 47 = .ok (.iconst 0, 1) := by decide +kernel
theorem d_Mo_init_48 : decode M_Mo_init.2.1 48 = .ok (.putfield 30, 3) := by decide +kernel
theorem d_Mo_init_51 : decode M_Mo_init.2.1 51 = .ok (.aload_n 0, 1) := by decide +kernel
theorem d_Mo_init_52 : decode M_Mo_init.2.1 52 = .ok (.bipush 32, 2) := by decide +kernel
theorem d_Mo_init_54 : decode M_Mo_init.2.1 54 = .ok (.newarray .int, 2) := by decide +kernel
theorem d_Mo_init_56 : decode M_Mo_init.2.1 56 = .ok (.putfield 33, 3) := by decide +kernel
theorem d_Mo_init_59 : decode M_Mo_init.2.1 59 = .ok (.aload_n 0, 1) := by decide +kernel
theorem d_Mo_init_60 : decode M_Mo_init.2.1 60 = .ok (.bipush 32, 2) := by decide +kernel
theorem d_Mo_init_62 : decode M_Mo_init.2.1 62 = .ok (.newarray .int, 2) := by decide +kernel
theorem d_Mo_init_64 : decode M_Mo_init.2.1 64 = .ok (.putfield 36, 3) := by decide +kernel
theorem d_Mo_init_67 : decode M_Mo_init.2.1 67 = .ok (.aload_n 0, 1) := by decide +kernel
theorem d_Mo_init_68 : decode M_Mo_init.2.1 68 = .ok (.bipush 32, 2) := by decide +kernel
theorem d_Mo_init_70 : decode M_Mo_init.2.1 70 = .ok (.newarray .int, 2) := by decide +kernel
theorem d_Mo_init_72 : decode M_Mo_init.2.1 72 = .ok (.putfield 39, 3) := by decide +kernel
theorem d_Mo_init_75 : decode M_Mo_init.2.1 75 = .ok (.aload_n 0, 1) := by decide +kernel
theorem d_Mo_init_76 : decode M_Mo_init.2.1 76 = .ok (.sipush 192, 3) := by decide +kernel
theorem d_Mo_init_79 : decode M_Mo_init.2.1 79 = .ok (.newarray .int, 2) := by decide +kernel
theorem d_Mo_init_81 : decode M_Mo_init.2.1 81 = .ok (.putfield 42, 3) := by decide +kernel
theorem d_Mo_init_84 : decode M_Mo_init.2.1 84 = .ok (.aload_n 0, 1) := by decide +kernel
theorem d_Mo_init_85 : decode M_Mo_init.2.1 85 = .ok (.sipush 128, 3) := by decide +kernel
theorem d_Mo_init_88 : decode M_Mo_init.2.1 88 = .ok (.newarray .int, 2) := by decide +kernel
theorem d_Mo_init_90 : decode M_Mo_init.2.1 90 = .ok (.putfield 45, 3) := by decide +kernel
theorem d_Mo_init_93 : decode M_Mo_init.2.1 93 = .ok (.aload_n 0, 1) := by decide +kernel
theorem d_Mo_init_94 : decode M_Mo_init.2.1 94 = .ok (.bipush 48, 2) := by decide +kernel
theorem d_Mo_init_96 : decode M_Mo_init.2.1 96 = .ok (.newarray .int, 2) := by decide +kernel
theorem d_Mo_init_98 : decode M_Mo_init.2.1 98 = .ok (.putfield 48, 3) := by decide +kernel
theorem d_Mo_init_101 : decode M_Mo_init.2.1 101 = .ok (.aload_n 0, 1) := by decide +kernel
theorem d_Mo_init_102 : decode M_Mo_init.2.1 102 = .ok (.bipush 6, 2) := by decide +kernel
theorem d_Mo_init_104 : decode M_Mo_init.2.1 104 = .ok (.newarray .int, 2) := by decide +kernel
theorem d_Mo_init_106 : decode M_Mo_init.2.1 106 = .ok (.putfield 51, 3) := by decide +kernel
theorem d_Mo_init_109 : decode M_Mo_init.2.1 109 = .ok (.aload_n 0, 1) := by decide +kernel
theorem d_Mo_init_110 : decode M_Mo_init.2.1 110 = .ok (.bipush 12, 2) := by decide +kernel
theorem d_Mo_init_112 : decode M_Mo_init.2.1 112 = .ok (.newarray .int, 2) := by decide +kernel
theorem d_Mo_init_114 : decode M_Mo_init.2.1 114 = .ok (.putfield 54, 3) := by decide +kernel
theorem d_Mo_init_117 : decode M_Mo_init.2.1 117 = .ok (.aload_n 0, 1) := by decide +kernel
theorem d_Mo_init_118 : decode M_Mo_init.2.1 118 = .ok (.sipush 768, 3) := by decide +kernel
theorem d_Mo_init_121 : decode M_Mo_init.2.1 121 = .ok (.newarray .int, 2) := by decide +kernel
theorem d_Mo_init_123 : decode M_Mo_init.2.1 123 = .ok (.putfield 57, 3) := by decide +kernel
theorem d_Mo_init_126 : decode M_Mo_init.2.1 126 = .ok (.aload_n 0, 1) := by decide +kernel
theorem d_Mo_init_127 : decode M_Mo_init.2.1 127 = .ok (.bipush 6, 2) := by decide +kernel
theorem d_Mo_init_129 : decode M_Mo_init.2.1 129 = .ok (.newarray .int, 2) := by decide +kernel
theorem d_Mo_init_131 : decode M_Mo_init.2.1 131 = .ok (.putfield 60, 3) := by decide +kernel
theorem d_Mo_init_134 : decode M_Mo_init.2.1 134 = .ok (.aload_n 0, 1) := by decide +kernel
theorem d_Mo_init_135 : decode M_Mo_init.2.1 135 = .ok (.iconst 0, 1) := by decide +kernel
theorem d_Mo_init_136 : decode M_Mo_init.2.1 136 = .ok (.putfield 63, 3) := by decide +kernel
theorem d_Mo_init_139 : decode M_Mo_init.2.1 139 = .ok (.aload_n 0, 1) := by decide +kernel
theorem d_Mo_init_140 : decode M_Mo_init.2.1 140 = .ok (.iconst 0, 1) := by decide +kernel
theorem d_Mo_init_141 : decode M_Mo_init.2.1 141 = .ok (.putfield 66, 3) := by decide +kernel
theorem d_Mo_init_144 : decode M_Mo_init.2.1 144 = .ok (.aload_n 0, 1) := by decide +kernel
theorem d_Mo_init_145 : decode M_Mo_init.2.1 145 = .ok (.bipush 16, 2) := by decide +kernel
theorem d_Mo_init_147 : decode M_Mo_init.2.1 147 = .ok (.newarray .int, 2) := by decide +kernel
theorem d_Mo_init_149 : decode M_Mo_init.2.1 149 = .ok (.putfield 69, 3) := by decide +kernel
theorem d_Mo_init_152 : decode M_Mo_init.2.1 152 = .ok (.aload_n 0, 1) := by decide +kernel
theorem d_Mo_init_153 : decode M_Mo_init.2.1 153 = .ok (.bipush 6, 2) := by decide +kernel
theorem d_Mo_init_155 : decode M_Mo_init.2.1 155 = .ok (.newarray .int, 2) := by decide +kernel
theorem d_Mo_init_157 : decode M_Mo_init.2.1 157 = .ok (.putfield 72, 3) := by decide +kernel
theorem d_Mo_init_160 : decode M_Mo_init.2.1 160 = .ok (.aload_n 0, 1) := by decide +kernel
theorem d_Mo_init_161 : decode M_Mo_init.2.1 161 = .ok (.bipush 24, 2) := by decide +kernel
theorem d_Mo_init_163 : decode M_Mo_init.2.1 163 = .ok (.newarray .int, 2) := by decide +kernel
theorem d_Mo_init_165 : decode M_Mo_init.2.1 165 = .ok (.putfield 75, 3) := by decide +kernel
theorem d_Mo_init_168 : decode M_Mo_init.2.1 168 = .ok (.aload_n 0, 1) := by decide +kernel
theorem d_Mo_init_169 : decode M_Mo_init.2.1 169 = .ok (.sipush 384, 3) := by decide +kernel
theorem d_Mo_init_172 : decode M_Mo_init.2.1 172 = .ok (.newarray .int, 2) := by decide +kernel
theorem d_Mo_init_174 : decode M_Mo_init.2.1 174 = .ok (.putfield 78, 3) := by decide +kernel
theorem d_Mo_init_177 : decode M_Mo_init.2.1 177 = .ok (.aload_n 0, 1) := by decide +kernel
theorem d_Mo_init_178 : decode M_Mo_init.2.1 178 = .ok (.iconst 0, 1) := by decide +kernel
theorem d_Mo_init_179 : decode M_Mo_init.2.1 179 = .ok (.putfield 81, 3) := by decide +kernel
theorem d_Mo_init_182 : decode M_Mo_init.2.1 182 = .ok (.aload_n 0, 1) := by decide +kernel
theorem d_Mo_init_183 : decode M_Mo_init.2.1 183 = .ok (.iconst 0, 1) := by decide +kernel
theorem d_Mo_init_184 : decode M_Mo_init.2.1 184 = .ok (.putfield 84, 3) := by decide +kernel
theorem d_Mo_init_187 : decode M_Mo_init.2.1 187 = .ok (.aload_n 0, 1) := by decide +kernel
theorem d_Mo_init_188 : decode M_Mo_init.2.1 188 = .ok (.bipush 32, 2) := by decide +kernel
theorem d_Mo_init_190 : decode M_Mo_init.2.1 190 = .ok (.newarray .int, 2) := by decide +kernel
theorem d_Mo_init_192 : decode M_Mo_init.2.1 192 = .ok (.putfield 87, 3) := by decide +kernel
theorem d_Mo_init_195 : decode M_Mo_init.2.1 195 = .ok (.aload_n 0, 1) := by decide +kernel
theorem d_Mo_init_196 : decode M_Mo_init.2.1 196 = .ok (.sipush 256, 3) := by decide +kernel
theorem d_Mo_init_199 : decode M_Mo_init.2.1 199 = .ok (.newarray .int, 2) := by decide +kernel
theorem d_Mo_init_201 : decode M_Mo_init.2.1 201 = .ok (.putfield 90, 3) := by decide +kernel
theorem d_Mo_init_204 : decode M_Mo_init.2.1 204 = .ok (.aload_n 0, 1) := by decide +kernel
theorem d_Mo_init_205 : decode M_Mo_init.2.1 205 = .ok (.bipush 42, 2) := by decide +kernel
theorem d_Mo_init_207 : decode M_Mo_init.2.1 207 = .ok (.newarray .int, 2) := by decide +kernel
theorem d_Mo_init_209 : decode M_Mo_init.2.1 209 = .ok (.putfield 93, 3) := by decide +kernel
theorem d_Mo_init_212 : decode M_Mo_init.2.1 212 = .ok (.aload_n 0, 1) := by decide +kernel
theorem d_Mo_init_213 : decode M_Mo_init.2.1 213 = .ok (.bipush 6, 2) := by decide +kernel
theorem d_Mo_init_215 : decode M_Mo_init.2.1 215 = .ok (.newarray .int, 2) := by decide +kernel
theorem d_Mo_init_217 : decode M_Mo_init.2.1 217 = .ok (.putfield 96, 3) := by decide +kernel
theorem d_Mo_init_220 : decode M_Mo_init.2.1 220 = .ok (.aload_n 0, 1) := by decide +kernel
theorem d_Mo_init_221 : decode M_Mo_init.2.1 221 = .ok (.sipush 168, 3) := by decide +kernel
theorem d_Mo_init_224 : decode M_Mo_init.2.1 224 = .ok (.newarray .int, 2) := by decide +kernel
theorem d_Mo_init_226 : decode M_Mo_init.2.1 226 = .ok (.putfield 99, 3) := by decide +kernel
theorem d_Mo_init_229 : decode M_Mo_init.2.1 229 = .ok (.aload_n 0, 1) := by decide +kernel
theorem d_Mo_init_230 : decode M_Mo_init.2.1 230 = .ok (.sipush 168, 3) := by decide +kernel
theorem d_Mo_init_233 : decode M_Mo_init.2.1 233 = .ok (.newarray .int, 2) := by decide +kernel
theorem d_Mo_init_235 : decode M_Mo_init.2.1 235 = .ok (.putfield 102, 3) := by decide +kernel
theorem d_Mo_init_238 : decode M_Mo_init.2.1 238 = .ok (.aload_n 0, 1) := by decide +kernel
theorem d_Mo_init_239 : decode M_Mo_init.2.1 239 = .ok (.iload_n 1, 1) := by decide +kernel
theorem d_Mo_init_240 : decode M_Mo_init.2.1 240 = .ok (.iconst 4, 1) := by decide +kernel
theorem d_Mo_init_241 : decode M_Mo_init.2.1 241 = .ok (.if_icmp .ge 7, 3) := by decide +kernel
theorem d_Mo_init_244 : decode M_Mo_init.2.1 244 = .ok (.iconst 4, 1) := by decide +kernel
theorem d_Mo_init_245 : decode M_Mo_init.2.1 245 = .ok (.goto 15, 3) := by decide +kernel
theorem d_Mo_init_248 : decode M_Mo_init.2.1 248 = .ok (.iload_n 1, 1) := by decide +kernel
theorem d_Mo_init_249 : decode M_Mo_init.2.1 249 = .ok (.bipush 32, 2) := by decide +kernel
theorem d_Mo_init_251 : decode M_Mo_init.2.1 251 = .ok (.if_icmp .le 8, 3) := by decide +kernel
theorem d_Mo_init_254 : decode M_Mo_init.2.1 254 = .ok (.bipush 32, 2) := by decide +kernel
theorem d_Mo_init_256 : decode M_Mo_init.2.1 256 = .ok (.goto 4, 3) := by decide +kernel
theorem d_Mo_init_259 : decode M_Mo_init.2.1 259 = .ok (.iload_n 1, 1) := by decide +kernel
theorem d_Mo_init_260 : decode M_Mo_init.2.1 260 = .ok (.putfield 105, 3) := by decide +kernel
theorem d_Mo_init_263 : decode M_Mo_init.2.1 263 = .ok (.aload_n 0, 1) := by decide +kernel
theorem d_Mo_init_264 : decode M_Mo_init.2.1 264 = .ok (.iload_n 2, 1) := by decide +kernel
theorem d_Mo_init_265 : decode M_Mo_init.2.1 265 = .ok (.iconst 4, 1) := by decide +kernel
theorem d_Mo_init_266 : decode M_Mo_init.2.1 266 = .ok (.if_icmp .ge 7, 3) := by decide +kernel
theorem d_Mo_init_269 : decode M_Mo_init.2.1 269 = .ok (.iconst 4, 1) := by decide +kernel
theorem d_Mo_init_270 : decode M_Mo_init.2.1 270 = .ok (.goto 15, 3) := by decide +kernel
theorem d_Mo_init_273 : decode M_Mo_init.2.1 273 = .ok (.iload_n 2, 1) := by decide +kernel
theorem d_Mo_init_274 : decode M_Mo_init.2.1 274 = .ok (.bipush 32, 2) := by decide +kernel
theorem d_Mo_init_276 : decode M_Mo_init.2.1 276 = .ok (.if_icmp .le 8, 3) := by decide +kernel
theorem d_Mo_init_279 : decode M_Mo_init.2.1 279 = .ok (.bipush 32, 2) := by decide +kernel
theorem d_Mo_init_281 : decode M_Mo_init.2.1 281 = .ok (.goto 4, 3) := by decide +kernel
theorem d_Mo_init_284 : decode M_Mo_init.2.1 284 = .ok (.iload_n 2, 1) := by decide +kernel
theorem d_Mo_init_285 : decode M_Mo_init.2.1 285 = .ok (.putfield 108, 3) := by decide +kernel
theorem d_Mo_init_288 : decode M_Mo_init.2.1 288 = .ok (.iconst 0, 1) := by decide +kernel
theorem d_Mo_init_289 : decode M_Mo_init.2.1 289 = .ok (.istore_n 3, 1) := by decide +kernel
theorem d_Mo_init_290 : decode M_Mo_init.2.1 290 = .ok (.iload_n 3, 1) := by decide +kernel
theorem d_Mo_init_291 : decode M_Mo_init.2.1 291 = .ok (.bipush 32, 2) := by decide +kernel
theorem d_Mo_init_293 : decode M_Mo_init.2.1 293 = .ok (.if_icmp .ge 23, 3) := by decide +kernel
theorem d_Mo_init_296 : decode M_Mo_init.2.1 296 = .ok (.aload_n 0, 1) := by decide +kernel
theorem d_Mo_init_297 : decode M_Mo_init.2.1 297 = .ok (.getfield 33, 3) := by decide +kernel
theorem d_Mo_init_300 : decode M_Mo_init.2.1 300 = .ok (.iload_n 3, 1) := by decide +kernel
theorem d_Mo_init_301 : decode M_Mo_init.2.1 301 = .ok (.iconst (-1), 1) := by decide +kernel
theorem d_Mo_init_302 : decode M_Mo_init.2.1 302 = .ok (.iastore, 1) := by decide +kernel
theorem d_Mo_init_303 : decode M_Mo_init.2.1 303 = .ok (.aload_n 0, 1) := by decide +kernel
theorem d_Mo_init_304 : decode M_Mo_init.2.1 304 = .ok (.getfield 87, 3) := by decide +kernel
theorem d_Mo_init_307 : decode M_Mo_init.2.1 307 = .ok (.iload_n 3, 1) := by decide +kernel
theorem d_Mo_init_308 : decode M_Mo_init.2.1 308 = .ok (.iconst (-1), 1) := by decide +kernel
theorem d_Mo_init_309 : decode M_Mo_init.2.1 309 = .ok (.iastore, 1) := by decide +kernel
theorem d_Mo_init_310 : decode M_Mo_init.2.1 310 = .ok (.iinc 3 1, 3) := by decide +kernel
theorem d_Mo_init_313 : decode M_Mo_init.2.1 313 = .ok (.goto (-23), 3) := by decide +kernel
theorem d_Mo_init_316 : decode M_Mo_init.2.1 316 = .ok (.return_, 1) := by decide +kernel
theorem d_Mo_open_0 : decode M_Mo_open.2.1 0 = .ok (.aload_n 0, 1) := by decide +kernel
theorem d_Mo_open_1 : decode M_Mo_open.2.1 1 = .ok (.iload_n 1, 1) := by decide +kernel
theorem d_Mo_open_2 : decode M_Mo_open.2.1 2 = .ok (.bipush 6, 2) := by decide +kernel
theorem d_Mo_open_4 : decode M_Mo_open.2.1 4 = .ok (.invokevirtual 111, 3) := by decide +kernel
theorem d_Mo_open_7 : decode M_Mo_open.2.1 7 = .ok (.ifCond .eq 5, 3) := by decide +kernel
theorem d_Mo_open_10 : decode M_Mo_open.2.1 10 = .ok (.iconst (-1), 1) := by decide +kernel
theorem d_Mo_open_11 : decode M_Mo_open.2.1 11 = .ok (.ireturn, 1) := by decide +kernel
theorem d_Mo_open_12 : decode M_Mo_open.2.1 12 = .ok (.iload_n 2, 1) := by decide +kernel
theorem d_Mo_open_13 : decode M_Mo_open.2.1 13 = .ok (.ifCond .ne 28, 3) := by decide +kernel
theorem d_Mo_open_16 : decode M_Mo_open.2.1 16 = .ok (.aload_n 0, 1) := by decide +kernel
theorem d_Mo_open_17 : decode M_Mo_open.2.1 17 = .ok (.iload_n 3, 1) := by decide +kernel
theorem d_Mo_open_18 : decode M_Mo_open.2.1 18 = .ok (.bipush 8, 2) := by decide +kernel
theorem d_Mo_open_20 : decode M_Mo_open.2.1 20 = .ok (.invokevirtual 111, 3) := by decide +kernel
theorem d_Mo_open_23 : decode M_Mo_open.2.1 23 = .ok (.ifCond .ne 16, 3) := by decide +kernel
theorem d_Mo_open_26 : decode M_Mo_open.2.1 26 = .ok (.aload_n 0, 1) := by decide +kernel
theorem d_Mo_open_27 : decode M_Mo_open.2.1 27 = .ok (.iload 4, 2) := by decide +kernel
theorem d_Mo_open_29 : decode M_Mo_open.2.1 29 = .ok (.bipush 9, 2) := by decide +kernel
theorem d_Mo_open_31 : decode M_Mo_open.2.1 31 = .ok (.iload_n 3, 1) := by decide +kernel
theorem d_Mo_open_32 : decode M_Mo_open.2.1 32 = .ok (.isub, 1) := by decide +kernel
theorem d_Mo_open_33 : decode M_Mo_open.2.1 33 = .ok (.invokevirtual 111, 3) := by decide +kernel
theorem d_Mo_open_36 : decode M_Mo_open.2.1 36 = .ok (.ifCond .eq 5, 3) := by decide +kernel
theorem d_Mo_open_39 : decode M_Mo_open.2.1 39 = .ok (.iconst (-1), 1) := by decide +kernel
theorem d_Mo_open_40 : decode M_Mo_open.2.1 40 = .ok (.ireturn, 1) := by decide +kernel
theorem d_Mo_open_41 : decode M_Mo_open.2.1 41 = .ok (.aload_n 0, 1) := by decide +kernel
theorem d_Mo_open_42 : decode M_Mo_open.2.1 42 = .ok (.getfield 7, 3) := by decide +kernel
theorem d_Mo_open_45 : decode M_Mo_open.2.1 45 = .ok (.iload_n 1, 1) := by decide +kernel
theorem d_Mo_open_46 : decode M_Mo_open.2.1 46 = .ok (.baload, 1) := by decide +kernel
theorem d_Mo_open_47 : decode M_Mo_open.2.1 47 = .ok (.ifCond .eq 5, 3) := by decide +kernel
theorem d_Mo_open_50 : decode M_Mo_open.2.1 50 = .ok (.iconst (-1), 1) := by decide +kernel
theorem d_Mo_open_51 : decode M_Mo_open.2.1 51 = .ok (.ireturn, 1) := by decide +kernel
theorem d_Mo_open_52 : decode M_Mo_open.2.1 52 = .ok (.aload_n 0, 1) := by decide +kernel
theorem d_Mo_open_53 : decode M_Mo_open.2.1 53 = .ok (.invokevirtual 118, 3) := by decide +kernel
theorem d_Mo_open_56 : decode M_Mo_open.2.1 56 = .ok (.istore 5, 2) := by decide +kernel
theorem d_Mo_open_58 : decode M_Mo_open.2.1 58 = .ok (.iload 5, 2) := by decide +kernel
theorem d_Mo_open_60 : decode M_Mo_open.2.1 60 = .ok (.ifCond .ge 6, 3) := by decide +kernel
theorem d_Mo_open_63 : decode M_Mo_open.2.1 63 = .ok (.bipush (-2), 2) := by decide +kernel
theorem d_Mo_open_65 : decode M_Mo_open.2.1 65 = .ok (.ireturn, 1) := by decide +kernel
theorem d_Mo_open_66 : decode M_Mo_open.2.1 66 = .ok (.aload_n 0, 1) := by decide +kernel
theorem d_Mo_open_67 : decode M_Mo_open.2.1 67 = .ok (.getfield 7, 3) := by decide +kernel
theorem d_Mo_open_70 : decode M_Mo_open.2.1 70 = .ok (.iload_n 1, 1) := by decide +kernel
theorem d_Mo_open_71 : decode M_Mo_open.2.1 71 = .ok (.iconst 1, 1) := by decide +kernel
theorem d_Mo_open_72 : decode M_Mo_open.2.1 72 = .ok (.bastore, 1) := by decide +kernel
theorem d_Mo_open_73 : decode M_Mo_open.2.1 73 = .ok (.aload_n 0, 1) := by decide +kernel
theorem d_Mo_open_74 : decode M_Mo_open.2.1 74 = .ok (.getfield 13, 3) := by decide +kernel
theorem d_Mo_open_77 : decode M_Mo_open.2.1 77 = .ok (.iload_n 1, 1) := by decide +kernel
theorem d_Mo_open_78 : decode M_Mo_open.2.1 78 = .ok (.iload_n 2, 1) := by decide +kernel
theorem d_Mo_open_79 : decode M_Mo_open.2.1 79 = .ok (.bastore, 1) := by decide +kernel
theorem d_Mo_open_80 : decode M_Mo_open.2.1 80 = .ok (.aload_n 0, 1) := by decide +kernel
theorem d_Mo_open_81 : decode M_Mo_open.2.1 81 = .ok (.getfield 16, 3) := by decide +kernel
theorem d_Mo_open_84 : decode M_Mo_open.2.1 84 = .ok (.iload_n 1, 1) := by decide +kernel
theorem d_Mo_open_85 : decode M_Mo_open.2.1 85 = .ok (.iload_n 3, 1) := by decide +kernel
theorem d_Mo_open_86 : decode M_Mo_open.2.1 86 = .ok (.iastore, 1) := by decide +kernel
theorem d_Mo_open_87 : decode M_Mo_open.2.1 87 = .ok (.aload_n 0, 1) := by decide +kernel
theorem d_Mo_open_88 : decode M_Mo_open.2.1 88 = .ok (.getfield 20, 3) := by decide +kernel
theorem d_Mo_open_91 : decode M_Mo_open.2.1 91 = .ok (.iload_n 1, 1) := by decide +kernel
theorem d_Mo_open_92 : decode M_Mo_open.2.1 92 = .ok (.iload 4, 2) := by decide +kernel
theorem d_Mo_open_94 : decode M_Mo_open.2.1 94 = .ok (.iastore, 1) := by decide +kernel
theorem d_Mo_open_95 : decode M_Mo_open.2.1 95 = .ok (.aload_n 0, 1) := by decide +kernel
theorem d_Mo_open_96 : decode M_Mo_open.2.1 96 = .ok (.iload_n 1, 1) := by decide +kernel
theorem d_Mo_open_97 : decode M_Mo_open.2.1 97 = .ok (.iload 5, 2) := by decide +kernel
theorem d_Mo_open_99 : decode M_Mo_open.2.1 99 = .ok (.invokevirtual 122, 3) := by decide +kernel
theorem d_Mo_open_102 : decode M_Mo_open.2.1 102 = .ok (.aload_n 0, 1) := by decide +kernel
theorem d_Mo_open_103 : decode M_Mo_open.2.1 103 = .ok (.getfield 54, 3) := by decide +kernel
theorem d_Mo_open_106 : decode M_Mo_open.2.1 106 = .ok (.iload_n 1, 1) := by decide +kernel
theorem d_Mo_open_107 : decode M_Mo_open.2.1 107 = .ok (.iconst 0, 1) := by decide +kernel
theorem d_Mo_open_108 : decode M_Mo_open.2.1 108 = .ok (.iastore, 1) := by decide +kernel
theorem d_Mo_open_109 : decode M_Mo_open.2.1 109 = .ok (.aload_n 0, 1) := by decide +kernel
theorem d_Mo_open_110 : decode M_Mo_open.2.1 110 = .ok (.getfield 72, 3) := by decide +kernel
theorem d_Mo_open_113 : decode M_Mo_open.2.1 113 = .ok (.iload_n 1, 1) := by decide +kernel
theorem d_Mo_open_114 : decode M_Mo_open.2.1 114 = .ok (.iconst 0, 1) := by decide +kernel
theorem d_Mo_open_115 : decode M_Mo_open.2.1 115 = .ok (.iastore, 1) := by decide +kernel
theorem d_Mo_open_116 : decode M_Mo_open.2.1 116 = .ok (.aload_n 0, 1) := by decide +kernel
theorem d_Mo_open_117 : decode M_Mo_open.2.1 117 = .ok (.getfield 96, 3) := by decide +kernel
theorem d_Mo_open_120 : decode M_Mo_open.2.1 120 = .ok (.iload_n 1, 1) := by decide +kernel
theorem d_Mo_open_121 : decode M_Mo_open.2.1 121 = .ok (.iconst 0, 1) := by decide +kernel
theorem d_Mo_open_122 : decode M_Mo_open.2.1 122 = .ok (.iastore, 1) := by decide +kernel
theorem d_Mo_open_123 : decode M_Mo_open.2.1 123 = .ok (.aload_n 0, 1) := by decide +kernel
theorem d_Mo_open_124 : decode M_Mo_open.2.1 124 = .ok (.getfield 51, 3) := by decide +kernel
theorem d_Mo_open_127 : decode M_Mo_open.2.1 127 = .ok (.iload_n 1, 1) := by decide +kernel
theorem d_Mo_open_128 : decode M_Mo_open.2.1 128 = .ok (.iconst 0, 1) := by decide +kernel
theorem d_Mo_open_129 : decode M_Mo_open.2.1 129 = .ok (.iastore, 1) := by decide +kernel
theorem d_Mo_open_130 : decode M_Mo_open.2.1 130 = .ok (.iconst 0, 1) := by decide +kernel
theorem d_Mo_open_131 : decode M_Mo_open.2.1 131 = .ok (.ireturn, 1) := by decide +kernel
theorem d_Mo_out_0 : decode M_Mo_out.2.1 0 = .ok (.iload_n 1, 1) := by decide +kernel
theorem d_Mo_out_1 : decode M_Mo_out.2.1 1 = .ok (.ifCond .lt 8, 3) := by decide +kernel
theorem d_Mo_out_4 : decode M_Mo_out.2.1 4 = .ok (.iload_n 1, 1) := by decide +kernel
theorem d_Mo_out_5 : decode M_Mo_out.2.1 5 = .ok (.iload_n 2, 1) := by decide +kernel
theorem d_Mo_out_6 : decode M_Mo_out.2.1 6 = .ok (.if_icmp .lt 7, 3) := by decide +kernel
theorem d_Mo_out_9 : decode M_Mo_out.2.1 9 = .ok (.iconst 1, 1) := by decide +kernel
theorem d_Mo_out_10 : decode M_Mo_out.2.1 10 = .ok (.goto 4, 3) := by decide +kernel
theorem d_Mo_out_13 : decode M_Mo_out.2.1 13 = .ok (.iconst 0, 1) := by decide +kernel
theorem d_Mo_out_14 : decode M_Mo_out.2.1 14 = .ok (.ireturn, 1) := by decide +kernel
theorem d_Mo_freeBlock_0 : decode M_Mo_freeBlock.2.1 0 = .ok (.iconst 0, 1) := by decide +kernel
theorem d_Mo_freeBlock_1 : decode M_Mo_freeBlock.2.1 1 = .ok (.istore_n 1, 1) := by decide +kernel
theorem d_Mo_freeBlock_2 : decode M_Mo_freeBlock.2.1 2 = .ok (.iload_n 1, 1) := by decide +kernel
theorem d_Mo_freeBlock_3 : decode M_Mo_freeBlock.2.1 3 = .ok (.aload_n 0, 1) := by decide +kernel
theorem d_Mo_freeBlock_4 : decode M_Mo_freeBlock.2.1 4 = .ok (.getfield 108, 3) := by decide +kernel
theorem d_Mo_freeBlock_7 : decode M_Mo_freeBlock.2.1 7 = .ok (.if_icmp .ge 20, 3) := by decide +kernel
theorem d_Mo_freeBlock_10 : decode M_Mo_freeBlock.2.1 10 = .ok (.aload_n 0, 1) := by decide +kernel
theorem d_Mo_freeBlock_11 : decode M_Mo_freeBlock.2.1 11 = .ok (.getfield 87, 3) := by decide +kernel
theorem d_Mo_freeBlock_14 : decode M_Mo_freeBlock.2.1 14 = .ok (.iload_n 1, 1) := by decide +kernel
theorem d_Mo_freeBlock_15 : decode M_Mo_freeBlock.2.1 15 = .ok (.iaload, 1) := by decide +kernel
theorem d_Mo_freeBlock_16 : decode M_Mo_freeBlock.2.1 16 = .ok (.ifCond .ge 5, 3) := by decide +kernel
theorem d_Mo_freeBlock_19 : decode M_Mo_freeBlock.2.1 19 = .ok (.iload_n 1, 1) := by decide +kernel
theorem d_Mo_freeBlock_20 : decode M_Mo_freeBlock.2.1 20 = .ok (.ireturn, 1) := by decide +kernel
theorem d_Mo_freeBlock_21 : decode M_Mo_freeBlock.2.1 21 = .ok (.iinc 1 1, 3) := by decide +kernel
theorem d_Mo_freeBlock_24 : decode M_Mo_freeBlock.2.1 24 = .ok (.goto (-22), 3) := by decide +kernel
theorem d_Mo_freeBlock_27 : decode M_Mo_freeBlock.2.1 27 = .ok (.iconst (-1), 1) := by decide +kernel
theorem d_Mo_freeBlock_28 : decode M_Mo_freeBlock.2.1 28 = .ok (.ireturn, 1) := by decide +kernel
theorem d_Mo_renew_0 : decode M_Mo_renew.2.1 0 = .ok (.aload_n 0, 1) := by decide +kernel
theorem d_Mo_renew_1 : decode M_Mo_renew.2.1 1 = .ok (.getfield 87, 3) := by decide +kernel
theorem d_Mo_renew_4 : decode M_Mo_renew.2.1 4 = .ok (.iload_n 2, 1) := by decide +kernel
theorem d_Mo_renew_5 : decode M_Mo_renew.2.1 5 = .ok (.iload_n 1, 1) := by decide +kernel
theorem d_Mo_renew_6 : decode M_Mo_renew.2.1 6 = .ok (.iastore, 1) := by decide +kernel
theorem d_Mo_renew_7 : decode M_Mo_renew.2.1 7 = .ok (.iconst 0, 1) := by decide +kernel
theorem d_Mo_renew_8 : decode M_Mo_renew.2.1 8 = .ok (.istore_n 3, 1) := by decide +kernel
theorem d_Mo_renew_9 : decode M_Mo_renew.2.1 9 = .ok (.iload_n 3, 1) := by decide +kernel
theorem d_Mo_renew_10 : decode M_Mo_renew.2.1 10 = .ok (.bipush 8, 2) := by decide +kernel
theorem d_Mo_renew_12 : decode M_Mo_renew.2.1 12 = .ok (.if_icmp .ge 34, 3) := by decide +kernel
theorem d_Mo_renew_15 : decode M_Mo_renew.2.1 15 = .ok (.aload_n 0, 1) := by decide +kernel
theorem d_Mo_renew_16 : decode M_Mo_renew.2.1 16 = .ok (.getfield 90, 3) := by decide +kernel
theorem d_Mo_renew_19 : decode M_Mo_renew.2.1 19 = .ok (.iload_n 2, 1) := by decide +kernel
theorem d_Mo_renew_20 : decode M_Mo_renew.2.1 20 = .ok (.bipush 8, 2) := by decide +kernel
theorem d_Mo_renew_22 : decode M_Mo_renew.2.1 22 = .ok (.imul, 1) := by decide +kernel
theorem d_Mo_renew_23 : decode M_Mo_renew.2.1 23 = .ok (.iload_n 3, 1) := by decide +kernel
theorem d_Mo_renew_24 : decode M_Mo_renew.2.1 24 = .ok (.iadd, 1) := by decide +kernel
theorem d_Mo_renew_25 : decode M_Mo_renew.2.1 25 = .ok (.aload_n 0, 1) := by decide +kernel
theorem d_Mo_renew_26 : decode M_Mo_renew.2.1 26 = .ok (.iload_n 1, 1) := by decide +kernel
theorem d_Mo_renew_27 : decode M_Mo_renew.2.1 27 = .ok (.iload_n 3, 1) := by decide +kernel
theorem d_Mo_renew_28 : decode M_Mo_renew.2.1 28 = .ok (.invokevirtual 115, 3) := by decide +kernel
theorem d_Mo_renew_31 : decode M_Mo_renew.2.1 31 = .ok (.ifCond .eq 7, 3) := by decide +kernel
theorem d_Mo_renew_34 : decode M_Mo_renew.2.1 34 = .ok (.iconst (-1), 1) := by decide +kernel
theorem d_Mo_renew_35 : decode M_Mo_renew.2.1 35 = .ok (.goto 4, 3) := by decide +kernel
theorem d_Mo_renew_38 : decode M_Mo_renew.2.1 38 = .ok (.iconst 0, 1) := by decide +kernel
theorem d_Mo_renew_39 : decode M_Mo_renew.2.1 39 = .ok (.iastore, 1) := by decide +kernel
theorem d_Mo_renew_40 : decode M_Mo_renew.2.1 40 = .ok (.iinc 3 1, 3) := by decide +kernel
theorem d_Mo_renew_43 : decode M_Mo_renew.2.1 43 = .ok (.goto (-34), 3) := by decide +kernel
theorem d_Mo_renew_46 : decode M_Mo_renew.2.1 46 = .ok (.return_, 1) := by decide +kernel
theorem d_Mo_isLink_0 : decode M_Mo_isLink.2.1 0 = .ok (.aload_n 0, 1) := by decide +kernel
theorem d_Mo_isLink_1 : decode M_Mo_isLink.2.1 1 = .ok (.getfield 13, 3) := by decide +kernel
theorem d_Mo_isLink_4 : decode M_Mo_isLink.2.1 4 = .ok (.iload_n 1, 1) := by decide +kernel
theorem d_Mo_isLink_5 : decode M_Mo_isLink.2.1 5 = .ok (.baload, 1) := by decide +kernel
theorem d_Mo_isLink_6 : decode M_Mo_isLink.2.1 6 = .ok (.ifCond .ne 34, 3) := by decide +kernel
theorem d_Mo_isLink_9 : decode M_Mo_isLink.2.1 9 = .ok (.iload_n 2, 1) := by decide +kernel
theorem d_Mo_isLink_10 : decode M_Mo_isLink.2.1 10 = .ok (.aload_n 0, 1) := by decide +kernel
theorem d_Mo_isLink_11 : decode M_Mo_isLink.2.1 11 = .ok (.getfield 16, 3) := by decide +kernel
theorem d_Mo_isLink_14 : decode M_Mo_isLink.2.1 14 = .ok (.iload_n 1, 1) := by decide +kernel
theorem d_Mo_isLink_15 : decode M_Mo_isLink.2.1 15 = .ok (.iaload, 1) := by decide +kernel
theorem d_Mo_isLink_16 : decode M_Mo_isLink.2.1 16 = .ok (.if_icmp .lt 24, 3) := by decide +kernel
theorem d_Mo_isLink_19 : decode M_Mo_isLink.2.1 19 = .ok (.iload_n 2, 1) := by decide +kernel
theorem d_Mo_isLink_20 : decode M_Mo_isLink.2.1 20 = .ok (.aload_n 0, 1) := by decide +kernel
theorem d_Mo_isLink_21 : decode M_Mo_isLink.2.1 21 = .ok (.getfield 16, 3) := by decide +kernel
theorem d_Mo_isLink_24 : decode M_Mo_isLink.2.1 24 = .ok (.iload_n 1, 1) := by decide +kernel
theorem d_Mo_isLink_25 : decode M_Mo_isLink.2.1 25 = .ok (.iaload, 1) := by decide +kernel
theorem d_Mo_isLink_26 : decode M_Mo_isLink.2.1 26 = .ok (.aload_n 0, 1) := by decide +kernel
theorem d_Mo_isLink_27 : decode M_Mo_isLink.2.1 27 = .ok (.getfield 20, 3) := by decide +kernel
theorem d_Mo_isLink_30 : decode M_Mo_isLink.2.1 30 = .ok (.iload_n 1, 1) := by decide +kernel
theorem d_Mo_isLink_31 : decode M_Mo_isLink.2.1 31 = .ok (.iaload, 1) := by decide +kernel
theorem d_Mo_isLink_32 : decode M_Mo_isLink.2.1 32 = .ok (.iadd, 1) := by decide +kernel
theorem d_Mo_isLink_33 : decode M_Mo_isLink.2.1 33 = .ok (.if_icmp .ge 7, 3) := by decide +kernel
theorem d_Mo_isLink_36 : decode M_Mo_isLink.2.1 36 = .ok (.iconst 1, 1) := by decide +kernel
theorem d_Mo_isLink_37 : decode M_Mo_isLink.2.1 37 = .ok (.goto 4, 3) := by decide +kernel
theorem d_Mo_isLink_40 : decode M_Mo_isLink.2.1 40 = .ok (.iconst 0, 1) := by decide +kernel
theorem d_Mo_isLink_41 : decode M_Mo_isLink.2.1 41 = .ok (.ireturn, 1) := by decide +kernel
theorem d_Mo_close_0 : decode M_Mo_close.2.1 0 = .ok (.aload_n 0, 1) := by decide +kernel
end
section
/-! decode rows -/
theorem d_Mo_close_1 : decode M_Mo_close.2.1 1 = .ok (.iload_n 1, 1) := by decide +kernel
theorem d_Mo_close_2 : decode M_Mo_close.2.1 2 = .ok (.invokevirtual 126, 3) := by decide +kernel
theorem d_Mo_close_5 : decode M_Mo_close.2.1 5 = .ok (.ifCond .eq 5, 3) := by decide +kernel
theorem d_Mo_close_8 : decode M_Mo_close.2.1 8 = .ok (.iconst (-1), 1) := by decide +kernel
theorem d_Mo_close_9 : decode M_Mo_close.2.1 9 = .ok (.ireturn, 1) := by decide +kernel
theorem d_Mo_close_10 : decode M_Mo_close.2.1 10 = .ok (.iconst 0, 1) := by decide +kernel
theorem d_Mo_close_11 : decode M_Mo_close.2.1 11 = .ok (.istore_n 2, 1) := by decide +kernel
theorem d_Mo_close_12 : decode M_Mo_close.2.1 12 = .ok (.iload_n 2, 1) := by decide +kernel
theorem d_Mo_close_13 : decode M_Mo_close.2.1 13 = .ok (.aload_n 0, 1) := by decide +kernel
theorem d_Mo_close_14 : decode M_Mo_close.2.1 14 = .ok (.getfield 105, 3) := by decide +kernel
theorem d_Mo_close_17 : decode M_Mo_close.2.1 17 = .ok (.if_icmp .ge 36, 3) := by decide +kernel
theorem d_Mo_close_20 : decode M_Mo_close.2.1 20 = .ok (.aload_n 0, 1) := by decide +kernel
theorem d_Mo_close_21 : decode M_Mo_close.2.1 21 = .ok (.getfield 33, 3) := by decide +kernel
theorem d_Mo_close_24 : decode M_Mo_close.2.1 24 = .ok (.iload_n 2, 1) := by decide +kernel
theorem d_Mo_close_25 : decode M_Mo_close.2.1 25 = .ok (.iaload, 1) := by decide +kernel
theorem d_Mo_close_26 : decode M_Mo_close.2.1 26 = .ok (.iload_n 1, 1) := by decide +kernel
theorem d_Mo_close_27 : decode M_Mo_close.2.1 27 = .ok (.if_icmp .ne 8, 3) := by decide +kernel
theorem d_Mo_close_30 : decode M_Mo_close.2.1 30 = .ok (.aload_n 0, 1) := by decide +kernel
theorem d_Mo_close_31 : decode M_Mo_close.2.1 31 = .ok (.iload_n 2, 1) := by decide +kernel
theorem d_Mo_close_32 : decode M_Mo_close.2.1 32 = .ok (.invokevirtual 130, 3) := by decide +kernel
theorem d_Mo_close_35 : decode M_Mo_close.2.1 35 = .ok (.aload_n 0, 1) := by decide +kernel
theorem d_Mo_close_36 : decode M_Mo_close.2.1 36 = .ok (.getfield 42, 3) := by decide +kernel
theorem d_Mo_close_39 : decode M_Mo_close.2.1 39 = .ok (.iload_n 2, 1) := by decide +kernel
theorem d_Mo_close_40 : decode M_Mo_close.2.1 40 = .ok (.bipush 6, 2) := by decide +kernel
theorem d_Mo_close_42 : decode M_Mo_close.2.1 42 = .ok (.imul, 1) := by decide +kernel
theorem d_Mo_close_43 : decode M_Mo_close.2.1 43 = .ok (.iload_n 1, 1) := by decide +kernel
theorem d_Mo_close_44 : decode M_Mo_close.2.1 44 = .ok (.iadd, 1) := by decide +kernel
theorem d_Mo_close_45 : decode M_Mo_close.2.1 45 = .ok (.iconst 0, 1) := by decide +kernel
theorem d_Mo_close_46 : decode M_Mo_close.2.1 46 = .ok (.iastore, 1) := by decide +kernel
theorem d_Mo_close_47 : decode M_Mo_close.2.1 47 = .ok (.iinc 2 1, 3) := by decide +kernel
theorem d_Mo_close_50 : decode M_Mo_close.2.1 50 = .ok (.goto (-38), 3) := by decide +kernel
theorem d_Mo_close_53 : decode M_Mo_close.2.1 53 = .ok (.iconst 0, 1) := by decide +kernel
theorem d_Mo_close_54 : decode M_Mo_close.2.1 54 = .ok (.istore_n 2, 1) := by decide +kernel
theorem d_Mo_close_55 : decode M_Mo_close.2.1 55 = .ok (.iload_n 2, 1) := by decide +kernel
theorem d_Mo_close_56 : decode M_Mo_close.2.1 56 = .ok (.aload_n 0, 1) := by decide +kernel
theorem d_Mo_close_57 : decode M_Mo_close.2.1 57 = .ok (.getfield 108, 3) := by decide +kernel
theorem d_Mo_close_60 : decode M_Mo_close.2.1 60 = .ok (.if_icmp .ge 26, 3) := by decide +kernel
theorem d_Mo_close_63 : decode M_Mo_close.2.1 63 = .ok (.aload_n 0, 1) := by decide +kernel
theorem d_Mo_close_64 : decode M_Mo_close.2.1 64 = .ok (.getfield 87, 3) := by decide +kernel
theorem d_Mo_close_67 : decode M_Mo_close.2.1 67 = .ok (.iload_n 2, 1) := by decide +kernel
theorem d_Mo_close_68 : decode M_Mo_close.2.1 68 = .ok (.iaload, 1) := by decide +kernel
theorem d_Mo_close_69 : decode M_Mo_close.2.1 69 = .ok (.iload_n 1, 1) := by decide +kernel
theorem d_Mo_close_70 : decode M_Mo_close.2.1 70 = .ok (.if_icmp .ne 10, 3) := by decide +kernel
theorem d_Mo_close_73 : decode M_Mo_close.2.1 73 = .ok (.aload_n 0, 1) := by decide +kernel
theorem d_Mo_close_74 : decode M_Mo_close.2.1 74 = .ok (.getfield 87, 3) := by decide +kernel
theorem d_Mo_close_77 : decode M_Mo_close.2.1 77 = .ok (.iload_n 2, 1) := by decide +kernel
theorem d_Mo_close_78 : decode M_Mo_close.2.1 78 = .ok (.iconst (-1), 1) := by decide +kernel
theorem d_Mo_close_79 : decode M_Mo_close.2.1 79 = .ok (.iastore, 1) := by decide +kernel
theorem d_Mo_close_80 : decode M_Mo_close.2.1 80 = .ok (.iinc 2 1, 3) := by decide +kernel
theorem d_Mo_close_83 : decode M_Mo_close.2.1 83 = .ok (.goto (-28), 3) := by decide +kernel
theorem d_Mo_close_86 : decode M_Mo_close.2.1 86 = .ok (.aload_n 0, 1) := by decide +kernel
theorem d_Mo_close_87 : decode M_Mo_close.2.1 87 = .ok (.iload_n 1, 1) := by decide +kernel
theorem d_Mo_close_88 : decode M_Mo_close.2.1 88 = .ok (.invokevirtual 134, 3) := by decide +kernel
theorem d_Mo_close_91 : decode M_Mo_close.2.1 91 = .ok (.aload_n 0, 1) := by decide +kernel
theorem d_Mo_close_92 : decode M_Mo_close.2.1 92 = .ok (.getfield 7, 3) := by decide +kernel
theorem d_Mo_close_95 : decode M_Mo_close.2.1 95 = .ok (.iload_n 1, 1) := by decide +kernel
theorem d_Mo_close_96 : decode M_Mo_close.2.1 96 = .ok (.iconst 0, 1) := by decide +kernel
theorem d_Mo_close_97 : decode M_Mo_close.2.1 97 = .ok (.bastore, 1) := by decide +kernel
theorem d_Mo_close_98 : decode M_Mo_close.2.1 98 = .ok (.iconst 0, 1) := by decide +kernel
theorem d_Mo_close_99 : decode M_Mo_close.2.1 99 = .ok (.ireturn, 1) := by decide +kernel
theorem d_Mo_shut_0 : decode M_Mo_shut.2.1 0 = .ok (.aload_n 0, 1) := by decide +kernel
theorem d_Mo_shut_1 : decode M_Mo_shut.2.1 1 = .ok (.iload_n 1, 1) := by decide +kernel
theorem d_Mo_shut_2 : decode M_Mo_shut.2.1 2 = .ok (.bipush 6, 2) := by decide +kernel
theorem d_Mo_shut_4 : decode M_Mo_shut.2.1 4 = .ok (.invokevirtual 111, 3) := by decide +kernel
theorem d_Mo_shut_7 : decode M_Mo_shut.2.1 7 = .ok (.ifCond .ne 12, 3) := by decide +kernel
theorem d_Mo_shut_10 : decode M_Mo_shut.2.1 10 = .ok (.aload_n 0, 1) := by decide +kernel
theorem d_Mo_shut_11 : decode M_Mo_shut.2.1 11 = .ok (.getfield 7, 3) := by decide +kernel
theorem d_Mo_shut_14 : decode M_Mo_shut.2.1 14 = .ok (.iload_n 1, 1) := by decide +kernel
theorem d_Mo_shut_15 : decode M_Mo_shut.2.1 15 = .ok (.baload, 1) := by decide +kernel
theorem d_Mo_shut_16 : decode M_Mo_shut.2.1 16 = .ok (.ifCond .ne 7, 3) := by decide +kernel
theorem d_Mo_shut_19 : decode M_Mo_shut.2.1 19 = .ok (.iconst 1, 1) := by decide +kernel
theorem d_Mo_shut_20 : decode M_Mo_shut.2.1 20 = .ok (.goto 4, 3) := by decide +kernel
theorem d_Mo_shut_23 : decode M_Mo_shut.2.1 23 = .ok (.iconst 0, 1) := by decide +kernel
theorem d_Mo_shut_24 : decode M_Mo_shut.2.1 24 = .ok (.ireturn, 1) := by decide +kernel
theorem d_Mo_free_0 : decode M_Mo_free.2.1 0 = .ok (.aload_n 0, 1) := by decide +kernel
theorem d_Mo_free_1 : decode M_Mo_free.2.1 1 = .ok (.getfield 33, 3) := by decide +kernel
theorem d_Mo_free_4 : decode M_Mo_free.2.1 4 = .ok (.iload_n 1, 1) := by decide +kernel
theorem d_Mo_free_5 : decode M_Mo_free.2.1 5 = .ok (.iconst (-1), 1) := by decide +kernel
theorem d_Mo_free_6 : decode M_Mo_free.2.1 6 = .ok (.iastore, 1) := by decide +kernel
theorem d_Mo_free_7 : decode M_Mo_free.2.1 7 = .ok (.aload_n 0, 1) := by decide +kernel
theorem d_Mo_free_8 : decode M_Mo_free.2.1 8 = .ok (.getfield 39, 3) := by decide +kernel
theorem d_Mo_free_11 : decode M_Mo_free.2.1 11 = .ok (.iload_n 1, 1) := by decide +kernel
theorem d_Mo_free_12 : decode M_Mo_free.2.1 12 = .ok (.iconst 0, 1) := by decide +kernel
theorem d_Mo_free_13 : decode M_Mo_free.2.1 13 = .ok (.iastore, 1) := by decide +kernel
theorem d_Mo_free_14 : decode M_Mo_free.2.1 14 = .ok (.iconst 0, 1) := by decide +kernel
theorem d_Mo_free_15 : decode M_Mo_free.2.1 15 = .ok (.istore_n 2, 1) := by decide +kernel
theorem d_Mo_free_16 : decode M_Mo_free.2.1 16 = .ok (.iload_n 2, 1) := by decide +kernel
theorem d_Mo_free_17 : decode M_Mo_free.2.1 17 = .ok (.bipush 6, 2) := by decide +kernel
theorem d_Mo_free_19 : decode M_Mo_free.2.1 19 = .ok (.if_icmp .ge 21, 3) := by decide +kernel
theorem d_Mo_free_22 : decode M_Mo_free.2.1 22 = .ok (.aload_n 0, 1) := by decide +kernel
theorem d_Mo_free_23 : decode M_Mo_free.2.1 23 = .ok (.getfield 42, 3) := by decide +kernel
theorem d_Mo_free_26 : decode M_Mo_free.2.1 26 = .ok (.iload_n 1, 1) := by decide +kernel
theorem d_Mo_free_27 : decode M_Mo_free.2.1 27 = .ok (.bipush 6, 2) := by decide +kernel
theorem d_Mo_free_29 : decode M_Mo_free.2.1 29 = .ok (.imul, 1) := by decide +kernel
theorem d_Mo_free_30 : decode M_Mo_free.2.1 30 = .ok (.iload_n 2, 1) := by decide +kernel
theorem d_Mo_free_31 : decode M_Mo_free.2.1 31 = .ok (.iadd, 1) := by decide +kernel
theorem d_Mo_free_32 : decode M_Mo_free.2.1 32 = .ok (.iconst 0, 1) := by decide +kernel
theorem d_Mo_free_33 : decode M_Mo_free.2.1 33 = .ok (.iastore, 1) := by decide +kernel
theorem d_Mo_free_34 : decode M_Mo_free.2.1 34 = .ok (.iinc 2 1, 3) := by decide +kernel
theorem d_Mo_free_37 : decode M_Mo_free.2.1 37 = .ok (.goto (-21), 3) := by decide +kernel
theorem d_Mo_free_40 : decode M_Mo_free.2.1 40 = .ok (.return_, 1) := by decide +kernel
theorem d_Mo_withdraw_0 : decode M_Mo_withdraw.2.1 0 = .ok (.iconst 0, 1) := by decide +kernel
theorem d_Mo_withdraw_1 : decode M_Mo_withdraw.2.1 1 = .ok (.istore_n 2, 1) := by decide +kernel
theorem d_Mo_withdraw_2 : decode M_Mo_withdraw.2.1 2 = .ok (.iconst 0, 1) := by decide +kernel
theorem d_Mo_withdraw_3 : decode M_Mo_withdraw.2.1 3 = .ok (.istore_n 3, 1) := by decide +kernel
theorem d_Mo_withdraw_4 : decode M_Mo_withdraw.2.1 4 = .ok (.iload_n 3, 1) := by decide +kernel
theorem d_Mo_withdraw_5 : decode M_Mo_withdraw.2.1 5 = .ok (.aload_n 0, 1) := by decide +kernel
theorem d_Mo_withdraw_6 : decode M_Mo_withdraw.2.1 6 = .ok (.getfield 63, 3) := by decide +kernel
theorem d_Mo_withdraw_9 : decode M_Mo_withdraw.2.1 9 = .ok (.if_icmp .ge 37, 3) := by decide +kernel
theorem d_Mo_withdraw_12 : decode M_Mo_withdraw.2.1 12 = .ok (.aload_n 0, 1) := by decide +kernel
theorem d_Mo_withdraw_13 : decode M_Mo_withdraw.2.1 13 = .ok (.getfield 60, 3) := by decide +kernel
theorem d_Mo_withdraw_16 : decode M_Mo_withdraw.2.1 16 = .ok (.iload_n 3, 1) := by decide +kernel
theorem d_Mo_withdraw_17 : decode M_Mo_withdraw.2.1 17 = .ok (.iaload, 1) := by decide +kernel
theorem d_Mo_withdraw_18 : decode M_Mo_withdraw.2.1 18 = .ok (.iload_n 1, 1) := by decide +kernel
theorem d_Mo_withdraw_19 : decode M_Mo_withdraw.2.1 19 = .ok (.if_icmp .ne 6, 3) := by decide +kernel
theorem d_Mo_withdraw_22 : decode M_Mo_withdraw.2.1 22 = .ok (.goto 18, 3) := by decide +kernel
theorem d_Mo_withdraw_25 : decode M_Mo_withdraw.2.1 25 = .ok (.aload_n 0, 1) := by decide +kernel
theorem d_Mo_withdraw_26 : decode M_Mo_withdraw.2.1 26 = .ok (.getfield 60, 3) := by decide +kernel
theorem d_Mo_withdraw_29 : decode M_Mo_withdraw.2.1 29 = .ok (.iload_n 2, 1) := by decide +kernel
theorem d_Mo_withdraw_30 : decode M_Mo_withdraw.2.1 30 = .ok (.aload_n 0, 1) := by decide +kernel
theorem d_Mo_withdraw_31 : decode M_Mo_withdraw.2.1 31 = .ok (.getfield 60, 3) := by decide +kernel
theorem d_Mo_withdraw_34 : decode M_Mo_withdraw.2.1 34 = .ok (.iload_n 3, 1) := by decide +kernel
theorem d_Mo_withdraw_35 : decode M_Mo_withdraw.2.1 35 = .ok (.iaload, 1) := by decide +kernel
theorem d_Mo_withdraw_36 : decode M_Mo_withdraw.2.1 36 = .ok (.iastore, 1) := by decide +kernel
theorem d_Mo_withdraw_37 : decode M_Mo_withdraw.2.1 37 = .ok (.iinc 2 1, 3) := by decide +kernel
theorem d_Mo_withdraw_40 : decode M_Mo_withdraw.2.1 40 = .ok (.iinc 3 1, 3) := by decide +kernel
theorem d_Mo_withdraw_43 : decode M_Mo_withdraw.2.1 43 = .ok (.goto (-39), 3) := by decide +kernel
theorem d_Mo_withdraw_46 : decode M_Mo_withdraw.2.1 46 = .ok (.aload_n 0, 1) := by decide +kernel
theorem d_Mo_withdraw_47 : decode M_Mo_withdraw.2.1 47 = .ok (.iload_n 2, 1) := by decide +kernel
theorem d_Mo_withdraw_48 : decode M_Mo_withdraw.2.1 48 = .ok (.putfield 63, 3) := by decide +kernel
theorem d_Mo_withdraw_51 : decode M_Mo_withdraw.2.1 51 = .ok (.return_, 1) := by decide +kernel
theorem d_Mo_take_0 : decode M_Mo_take.2.1 0 = .ok (.aload_n 0, 1) := by decide +kernel
theorem d_Mo_take_1 : decode M_Mo_take.2.1 1 = .ok (.iload_n 1, 1) := by decide +kernel
theorem d_Mo_take_2 : decode M_Mo_take.2.1 2 = .ok (.invokevirtual 126, 3) := by decide +kernel
theorem d_Mo_take_5 : decode M_Mo_take.2.1 5 = .ok (.ifCond .eq 5, 3) := by decide +kernel
theorem d_Mo_take_8 : decode M_Mo_take.2.1 8 = .ok (.iconst (-1), 1) := by decide +kernel
theorem d_Mo_take_9 : decode M_Mo_take.2.1 9 = .ok (.ireturn, 1) := by decide +kernel
theorem d_Mo_take_10 : decode M_Mo_take.2.1 10 = .ok (.iconst 0, 1) := by decide +kernel
theorem d_Mo_take_11 : decode M_Mo_take.2.1 11 = .ok (.istore_n 2, 1) := by decide +kernel
theorem d_Mo_take_12 : decode M_Mo_take.2.1 12 = .ok (.iload_n 2, 1) := by decide +kernel
theorem d_Mo_take_13 : decode M_Mo_take.2.1 13 = .ok (.aload_n 0, 1) := by decide +kernel
theorem d_Mo_take_14 : decode M_Mo_take.2.1 14 = .ok (.getfield 105, 3) := by decide +kernel
theorem d_Mo_take_17 : decode M_Mo_take.2.1 17 = .ok (.if_icmp .ge 18, 3) := by decide +kernel
theorem d_Mo_take_20 : decode M_Mo_take.2.1 20 = .ok (.aload_n 0, 1) := by decide +kernel
theorem d_Mo_take_21 : decode M_Mo_take.2.1 21 = .ok (.getfield 33, 3) := by decide +kernel
theorem d_Mo_take_24 : decode M_Mo_take.2.1 24 = .ok (.iload_n 2, 1) := by decide +kernel
theorem d_Mo_take_25 : decode M_Mo_take.2.1 25 = .ok (.iaload, 1) := by decide +kernel
theorem d_Mo_take_26 : decode M_Mo_take.2.1 26 = .ok (.ifCond .lt 9, 3) := by decide +kernel
theorem d_Mo_take_29 : decode M_Mo_take.2.1 29 = .ok (.iinc 2 1, 3) := by decide +kernel
theorem d_Mo_take_32 : decode M_Mo_take.2.1 32 = .ok (.goto (-20), 3) := by decide +kernel
theorem d_Mo_take_35 : decode M_Mo_take.2.1 35 = .ok (.iload_n 2, 1) := by decide +kernel
theorem d_Mo_take_36 : decode M_Mo_take.2.1 36 = .ok (.aload_n 0, 1) := by decide +kernel
theorem d_Mo_take_37 : decode M_Mo_take.2.1 37 = .ok (.getfield 105, 3) := by decide +kernel
theorem d_Mo_take_40 : decode M_Mo_take.2.1 40 = .ok (.if_icmp .ne 6, 3) := by decide +kernel
theorem d_Mo_take_43 : decode M_Mo_take.2.1 43 = .ok (.bipush (-2), 2) := by decide +kernel
theorem d_Mo_take_45 : decode M_Mo_take.2.1 45 = .ok (.ireturn, 1) := by decide +kernel
theorem d_Mo_take_46 : decode M_Mo_take.2.1 46 = .ok (.aload_n 0, 1) := by decide +kernel
theorem d_Mo_take_47 : decode M_Mo_take.2.1 47 = .ok (.getfield 33, 3) := by decide +kernel
theorem d_Mo_take_50 : decode M_Mo_take.2.1 50 = .ok (.iload_n 2, 1) := by decide +kernel
theorem d_Mo_take_51 : decode M_Mo_take.2.1 51 = .ok (.iload_n 1, 1) := by decide +kernel
theorem d_Mo_take_52 : decode M_Mo_take.2.1 52 = .ok (.iastore, 1) := by decide +kernel
theorem d_Mo_take_53 : decode M_Mo_take.2.1 53 = .ok (.aload_n 0, 1) := by decide +kernel
theorem d_Mo_take_54 : decode M_Mo_take.2.1 54 = .ok (.dup, 1) := by decide +kernel
theorem d_Mo_take_55 : decode M_Mo_take.2.1 55 = .ok (.getfield 27, 3) := by decide +kernel
theorem d_Mo_take_58 : decode M_Mo_take.2.1 58 = .ok (.iconst 1, 1) := by decide +kernel
theorem d_Mo_take_59 : decode M_Mo_take.2.1 59 = .ok (.iadd, 1) := by decide +kernel
theorem d_Mo_take_60 : decode M_Mo_take.2.1 60 = .ok (.putfield 27, 3) := by decide +kernel
theorem d_Mo_take_63 : decode M_Mo_take.2.1 63 = .ok (.aload_n 0, 1) := by decide +kernel
theorem d_Mo_take_64 : decode M_Mo_take.2.1 64 = .ok (.getfield 36, 3) := by decide +kernel
theorem d_Mo_take_67 : decode M_Mo_take.2.1 67 = .ok (.iload_n 2, 1) := by decide +kernel
theorem d_Mo_take_68 : decode M_Mo_take.2.1 68 = .ok (.aload_n 0, 1) := by decide +kernel
theorem d_Mo_take_69 : decode M_Mo_take.2.1 69 = .ok (.getfield 27, 3) := by decide +kernel
theorem d_Mo_take_72 : decode M_Mo_take.2.1 72 = .ok (.iastore, 1) := by decide +kernel
theorem d_Mo_take_73 : decode M_Mo_take.2.1 73 = .ok (.iconst 0, 1) := by decide +kernel
theorem d_Mo_take_74 : decode M_Mo_take.2.1 74 = .ok (.istore_n 3, 1) := by decide +kernel
theorem d_Mo_take_75 : decode M_Mo_take.2.1 75 = .ok (.iload_n 3, 1) := by decide +kernel
theorem d_Mo_take_76 : decode M_Mo_take.2.1 76 = .ok (.iconst 4, 1) := by decide +kernel
theorem d_Mo_take_77 : decode M_Mo_take.2.1 77 = .ok (.if_icmp .ge 20, 3) := by decide +kernel
theorem d_Mo_take_80 : decode M_Mo_take.2.1 80 = .ok (.aload_n 0, 1) := by decide +kernel
theorem d_Mo_take_81 : decode M_Mo_take.2.1 81 = .ok (.getfield 45, 3) := by decide +kernel
theorem d_Mo_take_84 : decode M_Mo_take.2.1 84 = .ok (.iload_n 2, 1) := by decide +kernel
theorem d_Mo_take_85 : decode M_Mo_take.2.1 85 = .ok (.iconst 4, 1) := by decide +kernel
theorem d_Mo_take_86 : decode M_Mo_take.2.1 86 = .ok (.imul, 1) := by decide +kernel
theorem d_Mo_take_87 : decode M_Mo_take.2.1 87 = .ok (.iload_n 3, 1) := by decide +kernel
theorem d_Mo_take_88 : decode M_Mo_take.2.1 88 = .ok (.iadd, 1) := by decide +kernel
theorem d_Mo_take_89 : decode M_Mo_take.2.1 89 = .ok (.iconst 0, 1) := by decide +kernel
theorem d_Mo_take_90 : decode M_Mo_take.2.1 90 = .ok (.iastore, 1) := by decide +kernel
theorem d_Mo_take_91 : decode M_Mo_take.2.1 91 = .ok (.iinc 3 1, 3) := by decide +kernel
theorem d_Mo_take_94 : decode M_Mo_take.2.1 94 = .ok (.goto (-19), 3) := by decide +kernel
theorem d_Mo_take_97 : decode M_Mo_take.2.1 97 = .ok (.iload_n 2, 1) := by decide +kernel
theorem d_Mo_take_98 : decode M_Mo_take.2.1 98 = .ok (.ireturn, 1) := by decide +kernel
theorem d_Mo_release_0 : decode M_Mo_release.2.1 0 = .ok (.aload_n 0, 1) := by decide +kernel
theorem d_Mo_release_1 : decode M_Mo_release.2.1 1 = .ok (.iload_n 2, 1) := by decide +kernel
theorem d_Mo_release_2 : decode M_Mo_release.2.1 2 = .ok (.aload_n 0, 1) := by decide +kernel
theorem d_Mo_release_3 : decode M_Mo_release.2.1 3 = .ok (.getfield 105, 3) := by decide +kernel
theorem d_Mo_release_6 : decode M_Mo_release.2.1 6 = .ok (.invokevirtual 111, 3) := by decide +kernel
theorem d_Mo_release_9 : decode M_Mo_release.2.1 9 = .ok (.ifCond .ne 21, 3) := by decide +kernel
theorem d_Mo_release_12 : decode M_Mo_release.2.1 12 = .ok (.aload_n 0, 1) := by decide +kernel
theorem d_Mo_release_13 : decode M_Mo_release.2.1 13 = .ok (.iload_n 1, 1) := by decide +kernel
theorem d_Mo_release_14 : decode M_Mo_release.2.1 14 = .ok (.invokevirtual 126, 3) := by decide +kernel
theorem d_Mo_release_17 : decode M_Mo_release.2.1 17 = .ok (.ifCond .ne 13, 3) := by decide +kernel
theorem d_Mo_release_20 : decode M_Mo_release.2.1 20 = .ok (.aload_n 0, 1) := by decide +kernel
theorem d_Mo_release_21 : decode M_Mo_release.2.1 21 = .ok (.getfield 33, 3) := by decide +kernel
theorem d_Mo_release_24 : decode M_Mo_release.2.1 24 = .ok (.iload_n 2, 1) := by decide +kernel
theorem d_Mo_release_25 : decode M_Mo_release.2.1 25 = .ok (.iaload, 1) := by decide +kernel
theorem d_Mo_release_26 : decode M_Mo_release.2.1 26 = .ok (.iload_n 1, 1) := by decide +kernel
theorem d_Mo_release_27 : decode M_Mo_release.2.1 27 = .ok (.if_icmp .eq 5, 3) := by decide +kernel
theorem d_Mo_release_30 : decode M_Mo_release.2.1 30 = .ok (.iconst (-1), 1) := by decide +kernel
theorem d_Mo_release_31 : decode M_Mo_release.2.1 31 = .ok (.ireturn, 1) := by decide +kernel
theorem d_Mo_release_32 : decode M_Mo_release.2.1 32 = .ok (.aload_n 0, 1) := by decide +kernel
theorem d_Mo_release_33 : decode M_Mo_release.2.1 33 = .ok (.iload_n 2, 1) := by decide +kernel
theorem d_Mo_release_34 : decode M_Mo_release.2.1 34 = .ok (.invokevirtual 130, 3) := by decide +kernel
theorem d_Mo_release_37 : decode M_Mo_release.2.1 37 = .ok (.iconst 0, 1) := by decide +kernel
theorem d_Mo_release_38 : decode M_Mo_release.2.1 38 = .ok (.ireturn, 1) := by decide +kernel
theorem d_Mo_share_0 : decode M_Mo_share.2.1 0 = .ok (.aload_n 0, 1) := by decide +kernel
theorem d_Mo_share_1 : decode M_Mo_share.2.1 1 = .ok (.iload_n 2, 1) := by decide +kernel
theorem d_Mo_share_2 : decode M_Mo_share.2.1 2 = .ok (.aload_n 0, 1) := by decide +kernel
theorem d_Mo_share_3 : decode M_Mo_share.2.1 3 = .ok (.getfield 105, 3) := by decide +kernel
theorem d_Mo_share_6 : decode M_Mo_share.2.1 6 = .ok (.invokevirtual 111, 3) := by decide +kernel
theorem d_Mo_share_9 : decode M_Mo_share.2.1 9 = .ok (.ifCond .ne 31, 3) := by decide +kernel
theorem d_Mo_share_12 : decode M_Mo_share.2.1 12 = .ok (.aload_n 0, 1) := by decide +kernel
theorem d_Mo_share_13 : decode M_Mo_share.2.1 13 = .ok (.iload_n 3, 1) := by decide +kernel
theorem d_Mo_share_14 : decode M_Mo_share.2.1 14 = .ok (.bipush 6, 2) := by decide +kernel
theorem d_Mo_share_16 : decode M_Mo_share.2.1 16 = .ok (.invokevirtual 111, 3) := by decide +kernel
theorem d_Mo_share_19 : decode M_Mo_share.2.1 19 = .ok (.ifCond .ne 21, 3) := by decide +kernel
theorem d_Mo_share_22 : decode M_Mo_share.2.1 22 = .ok (.aload_n 0, 1) := by decide +kernel
theorem d_Mo_share_23 : decode M_Mo_share.2.1 23 = .ok (.iload 4, 2) := by decide +kernel
theorem d_Mo_share_25 : decode M_Mo_share.2.1 25 = .ok (.iconst 3, 1) := by decide +kernel
theorem d_Mo_share_26 : decode M_Mo_share.2.1 26 = .ok (.invokevirtual 111, 3) := by decide +kernel
theorem d_Mo_share_29 : decode M_Mo_share.2.1 29 = .ok (.ifCond .ne 11, 3) := by decide +kernel
theorem d_Mo_share_32 : decode M_Mo_share.2.1 32 = .ok (.aload_n 0, 1) := by decide +kernel
theorem d_Mo_share_33 : decode M_Mo_share.2.1 33 = .ok (.iload_n 1, 1) := by decide +kernel
theorem d_Mo_share_34 : decode M_Mo_share.2.1 34 = .ok (.invokevirtual 126, 3) := by decide +kernel
theorem d_Mo_share_37 : decode M_Mo_share.2.1 37 = .ok (.ifCond .eq 5, 3) := by decide +kernel
theorem d_Mo_share_40 : decode M_Mo_share.2.1 40 = .ok (.iconst (-1), 1) := by decide +kernel
theorem d_Mo_share_41 : decode M_Mo_share.2.1 41 = .ok (.ireturn, 1) := by decide +kernel
theorem d_Mo_share_42 : decode M_Mo_share.2.1 42 = .ok (.aload_n 0, 1) := by decide +kernel
theorem d_Mo_share_43 : decode M_Mo_share.2.1 43 = .ok (.getfield 33, 3) := by decide +kernel
theorem d_Mo_share_46 : decode M_Mo_share.2.1 46 = .ok (.iload_n 2, 1) := by decide +kernel
theorem d_Mo_share_47 : decode M_Mo_share.2.1 47 = .ok (.iaload, 1) := by decide +kernel
theorem d_Mo_share_48 : decode M_Mo_share.2.1 48 = .ok (.iload_n 1, 1) := by decide +kernel
theorem d_Mo_share_49 : decode M_Mo_share.2.1 49 = .ok (.if_icmp .ne 17, 3) := by decide +kernel
theorem d_Mo_share_52 : decode M_Mo_share.2.1 52 = .ok (.iload_n 3, 1) := by decide +kernel
theorem d_Mo_share_53 : decode M_Mo_share.2.1 53 = .ok (.iload_n 1, 1) := by decide +kernel
theorem d_Mo_share_54 : decode M_Mo_share.2.1 54 = .ok (.if_icmp .eq 12, 3) := by decide +kernel
theorem d_Mo_share_57 : decode M_Mo_share.2.1 57 = .ok (.aload_n 0, 1) := by decide +kernel
theorem d_Mo_share_58 : decode M_Mo_share.2.1 58 = .ok (.getfield 7, 3) := by decide +kernel
theorem d_Mo_share_61 : decode M_Mo_share.2.1 61 = .ok (.iload_n 3, 1) := by decide +kernel
theorem d_Mo_share_62 : decode M_Mo_share.2.1 62 = .ok (.baload, 1) := by decide +kernel
theorem d_Mo_share_63 : decode M_Mo_share.2.1 63 = .ok (.ifCond .ne 5, 3) := by decide +kernel
theorem d_Mo_share_66 : decode M_Mo_share.2.1 66 = .ok (.iconst (-1), 1) := by decide +kernel
theorem d_Mo_share_67 : decode M_Mo_share.2.1 67 = .ok (.ireturn, 1) := by decide +kernel
theorem d_Mo_share_68 : decode M_Mo_share.2.1 68 = .ok (.aload_n 0, 1) := by decide +kernel
theorem d_Mo_share_69 : decode M_Mo_share.2.1 69 = .ok (.getfield 42, 3) := by decide +kernel
theorem d_Mo_share_72 : decode M_Mo_share.2.1 72 = .ok (.iload_n 2, 1) := by decide +kernel
theorem d_Mo_share_73 : decode M_Mo_share.2.1 73 = .ok (.bipush 6, 2) := by decide +kernel
theorem d_Mo_share_75 : decode M_Mo_share.2.1 75 = .ok (.imul, 1) := by decide +kernel
theorem d_Mo_share_76 : decode M_Mo_share.2.1 76 = .ok (.iload_n 3, 1) := by decide +kernel
theorem d_Mo_share_77 : decode M_Mo_share.2.1 77 = .ok (.iadd, 1) := by decide +kernel
theorem d_Mo_share_78 : decode M_Mo_share.2.1 78 = .ok (.iload 4, 2) := by decide +kernel
theorem d_Mo_share_80 : decode M_Mo_share.2.1 80 = .ok (.iastore, 1) := by decide +kernel
theorem d_Mo_share_81 : decode M_Mo_share.2.1 81 = .ok (.iconst 0, 1) := by decide +kernel
theorem d_Mo_share_82 : decode M_Mo_share.2.1 82 = .ok (.ireturn, 1) := by decide +kernel
theorem d_Mo_store_0 : decode M_Mo_store.2.1 0 = .ok (.aload_n 0, 1) := by decide +kernel
theorem d_Mo_store_1 : decode M_Mo_store.2.1 1 = .ok (.iload_n 2, 1) := by decide +kernel
theorem d_Mo_store_2 : decode M_Mo_store.2.1 2 = .ok (.aload_n 0, 1) := by decide +kernel
theorem d_Mo_store_3 : decode M_Mo_store.2.1 3 = .ok (.getfield 105, 3) := by decide +kernel
theorem d_Mo_store_6 : decode M_Mo_store.2.1 6 = .ok (.invokevirtual 111, 3) := by decide +kernel
theorem d_Mo_store_9 : decode M_Mo_store.2.1 9 = .ok (.ifCond .ne 20, 3) := by decide +kernel
theorem d_Mo_store_12 : decode M_Mo_store.2.1 12 = .ok (.aload_n 0, 1) := by decide +kernel
theorem d_Mo_store_13 : decode M_Mo_store.2.1 13 = .ok (.iload_n 3, 1) := by decide +kernel
theorem d_Mo_store_14 : decode M_Mo_store.2.1 14 = .ok (.iconst 4, 1) := by decide +kernel
theorem d_Mo_store_15 : decode M_Mo_store.2.1 15 = .ok (.invokevirtual 111, 3) := by decide +kernel
theorem d_Mo_store_18 : decode M_Mo_store.2.1 18 = .ok (.ifCond .ne 11, 3) := by decide +kernel
theorem d_Mo_store_21 : decode M_Mo_store.2.1 21 = .ok (.aload_n 0, 1) := by decide +kernel
theorem d_Mo_store_22 : decode M_Mo_store.2.1 22 = .ok (.iload_n 1, 1) := by decide +kernel
theorem d_Mo_store_23 : decode M_Mo_store.2.1 23 = .ok (.invokevirtual 126, 3) := by decide +kernel
theorem d_Mo_store_26 : decode M_Mo_store.2.1 26 = .ok (.ifCond .eq 5, 3) := by decide +kernel
theorem d_Mo_store_29 : decode M_Mo_store.2.1 29 = .ok (.iconst (-1), 1) := by decide +kernel
theorem d_Mo_store_30 : decode M_Mo_store.2.1 30 = .ok (.ireturn, 1) := by decide +kernel
theorem d_Mo_store_31 : decode M_Mo_store.2.1 31 = .ok (.aload_n 0, 1) := by decide +kernel
theorem d_Mo_store_32 : decode M_Mo_store.2.1 32 = .ok (.getfield 33, 3) := by decide +kernel
theorem d_Mo_store_35 : decode M_Mo_store.2.1 35 = .ok (.iload_n 2, 1) := by decide +kernel
theorem d_Mo_store_36 : decode M_Mo_store.2.1 36 = .ok (.iaload, 1) := by decide +kernel
theorem d_Mo_store_37 : decode M_Mo_store.2.1 37 = .ok (.iload_n 1, 1) := by decide +kernel
theorem d_Mo_store_38 : decode M_Mo_store.2.1 38 = .ok (.if_icmp .eq 20, 3) := by decide +kernel
theorem d_Mo_store_41 : decode M_Mo_store.2.1 41 = .ok (.aload_n 0, 1) := by decide +kernel
theorem d_Mo_store_42 : decode M_Mo_store.2.1 42 = .ok (.getfield 42, 3) := by decide +kernel
theorem d_Mo_store_45 : decode M_Mo_store.2.1 45 = .ok (.iload_n 2, 1) := by decide +kernel
theorem d_Mo_store_46 : decode M_Mo_store.2.1 46 = .ok (.bipush 6, 2) := by decide +kernel
theorem d_Mo_store_48 : decode M_Mo_store.2.1 48 = .ok (.imul, 1) := by decide +kernel
theorem d_Mo_store_49 : decode M_Mo_store.2.1 49 = .ok (.iload_n 1, 1) := by decide +kernel
theorem d_Mo_store_50 : decode M_Mo_store.2.1 50 = .ok (.iadd, 1) := by decide +kernel
theorem d_Mo_store_51 : decode M_Mo_store.2.1 51 = .ok (.iaload, 1) := by decide +kernel
theorem d_Mo_store_52 : decode M_Mo_store.2.1 52 = .ok (.iconst 2, 1) := by decide +kernel
theorem d_Mo_store_53 : decode M_Mo_store.2.1 53 = .ok (.if_icmp .eq 5, 3) := by decide +kernel
theorem d_Mo_store_56 : decode M_Mo_store.2.1 56 = .ok (.iconst (-1), 1) := by decide +kernel
theorem d_Mo_store_57 : decode M_Mo_store.2.1 57 = .ok (.ireturn, 1) := by decide +kernel
theorem d_Mo_store_58 : decode M_Mo_store.2.1 58 = .ok (.aload_n 0, 1) := by decide +kernel
theorem d_Mo_store_59 : decode M_Mo_store.2.1 59 = .ok (.getfield 45, 3) := by decide +kernel
theorem d_Mo_store_62 : decode M_Mo_store.2.1 62 = .ok (.iload_n 2, 1) := by decide +kernel
theorem d_Mo_store_63 : decode M_Mo_store.2.1 63 = .ok (.iconst 4, 1) := by decide +kernel
theorem d_Mo_store_64 : decode M_Mo_store.2.1 64 = .ok (.imul, 1) := by decide +kernel
theorem d_Mo_store_65 : decode M_Mo_store.2.1 65 = .ok (.iload_n 3, 1) := by decide +kernel
theorem d_Mo_store_66 : decode M_Mo_store.2.1 66 = .ok (.iadd, 1) := by decide +kernel
theorem d_Mo_store_67 : decode M_Mo_store.2.1 67 = .ok (.iload 4, 2) := by decide +kernel
theorem d_Mo_store_69 : decode M_Mo_store.2.1 69 = .ok (.iastore, 1) := by decide +kernel
theorem d_Mo_store_70 : decode M_Mo_store.2.1 70 = .ok (.iconst 0, 1) := by decide +kernel
theorem d_Mo_store_71 : decode M_Mo_store.2.1 71 = .ok (.ireturn, 1) := by decide +kernel
theorem d_Mo_fetch_0 : decode M_Mo_fetch.2.1 0 = .ok (.aload_n 0, 1) := by decide +kernel
theorem d_Mo_fetch_1 : decode M_Mo_fetch.2.1 1 = .ok (.iload_n 2, 1) := by decide +kernel
theorem d_Mo_fetch_2 : decode M_Mo_fetch.2.1 2 = .ok (.aload_n 0, 1) := by decide +kernel
theorem d_Mo_fetch_3 : decode M_Mo_fetch.2.1 3 = .ok (.getfield 105, 3) := by decide +kernel
theorem d_Mo_fetch_6 : decode M_Mo_fetch.2.1 6 = .ok (.invokevirtual 111, 3) := by decide +kernel
theorem d_Mo_fetch_9 : decode M_Mo_fetch.2.1 9 = .ok (.ifCond .ne 20, 3) := by decide +kernel
theorem d_Mo_fetch_12 : decode M_Mo_fetch.2.1 12 = .ok (.aload_n 0, 1) := by decide +kernel
theorem d_Mo_fetch_13 : decode M_Mo_fetch.2.1 13 = .ok (.iload_n 3, 1) := by decide +kernel
theorem d_Mo_fetch_14 : decode M_Mo_fetch.2.1 14 = .ok (.iconst 4, 1) := by decide +kernel
theorem d_Mo_fetch_15 : decode M_Mo_fetch.2.1 15 = .ok (.invokevirtual 111, 3) := by decide +kernel
theorem d_Mo_fetch_18 : decode M_Mo_fetch.2.1 18 = .ok (.ifCond .ne 11, 3) := by decide +kernel
theorem d_Mo_fetch_21 : decode M_Mo_fetch.2.1 21 = .ok (.aload_n 0, 1) := by decide +kernel
theorem d_Mo_fetch_22 : decode M_Mo_fetch.2.1 22 = .ok (.iload_n 1, 1) := by decide +kernel
theorem d_Mo_fetch_23 : decode M_Mo_fetch.2.1 23 = .ok (.invokevirtual 126, 3) := by decide +kernel
theorem d_Mo_fetch_26 : decode M_Mo_fetch.2.1 26 = .ok (.ifCond .eq 7, 3) := by decide +kernel
theorem d_Mo_fetch_29 : decode M_Mo_fetch.2.1 29 = .ok (.ldc2_w 137, 3) := by decide +kernel
theorem d_Mo_fetch_32 : decode M_Mo_fetch.2.1 32 = .ok (.lreturn, 1) := by decide +kernel
theorem d_Mo_fetch_33 : decode M_Mo_fetch.2.1 33 = .ok (.aload_n 0, 1) := by decide +kernel
theorem d_Mo_fetch_34 : decode M_Mo_fetch.2.1 34 = .ok (.getfield 33, 3) := by decide +kernel
theorem d_Mo_fetch_37 : decode M_Mo_fetch.2.1 37 = .ok (.iload_n 2, 1) := by decide +kernel
theorem d_Mo_fetch_38 : decode M_Mo_fetch.2.1 38 = .ok (.iaload, 1) := by decide +kernel
theorem d_Mo_fetch_39 : decode M_Mo_fetch.2.1 39 = .ok (.iload_n 1, 1) := by decide +kernel
theorem d_Mo_fetch_40 : decode M_Mo_fetch.2.1 40 = .ok (.if_icmp .eq 21, 3) := by decide +kernel
theorem d_Mo_fetch_43 : decode M_Mo_fetch.2.1 43 = .ok (.aload_n 0, 1) := by decide +kernel
theorem d_Mo_fetch_44 : decode M_Mo_fetch.2.1 44 = .ok (.getfield 42, 3) := by decide +kernel
theorem d_Mo_fetch_47 : decode M_Mo_fetch.2.1 47 = .ok (.iload_n 2, 1) := by decide +kernel
theorem d_Mo_fetch_48 : decode M_Mo_fetch.2.1 48 = .ok (.bipush 6, 2) := by decide +kernel
theorem d_Mo_fetch_50 : decode M_Mo_fetch.2.1 50 = .ok (.imul, 1) := by decide +kernel
theorem d_Mo_fetch_51 : decode M_Mo_fetch.2.1 51 = .ok (.iload_n 1, 1) := by decide +kernel
theorem d_Mo_fetch_52 : decode M_Mo_fetch.2.1 52 = .ok (.iadd, 1) := by decide +kernel
theorem d_Mo_fetch_53 : decode M_Mo_fetch.2.1 53 = .ok (.iaload, 1) := by decide +kernel
theorem d_Mo_fetch_54 : decode M_Mo_fetch.2.1 54 = .ok (.ifCond .ne 7, 3) := by decide +kernel
theorem d_Mo_fetch_57 : decode M_Mo_fetch.2.1 57 = .ok (.ldc2_w 137, 3) := by decide +kernel
theorem d_Mo_fetch_60 : decode M_Mo_fetch.2.1 60 = .ok (.lreturn, 1) := by decide +kernel
theorem d_Mo_fetch_61 : decode M_Mo_fetch.2.1 61 = .ok (.aload_n 0, 1) := by decide +kernel
theorem d_Mo_fetch_62 : decode M_Mo_fetch.2.1 62 = .ok (.getfield 45, 3) := by decide +kernel
theorem d_Mo_fetch_65 : decode M_Mo_fetch.2.1 65 = .ok (.iload_n 2, 1) := by decide +kernel
theorem d_Mo_fetch_66 : decode M_Mo_fetch.2.1 66 = .ok (.iconst 4, 1) := by decide +kernel
theorem d_Mo_fetch_67 : decode M_Mo_fetch.2.1 67 = .ok (.imul, 1) := by decide +kernel
theorem d_Mo_fetch_68 : decode M_Mo_fetch.2.1 68 = .ok (.iload_n 3, 1) := by decide +kernel
theorem d_Mo_fetch_69 : decode M_Mo_fetch.2.1 69 = .ok (.iadd, 1) := by decide +kernel
theorem d_Mo_fetch_70 : decode M_Mo_fetch.2.1 70 = .ok (.iaload, 1) := by decide +kernel
theorem d_Mo_fetch_71 : decode M_Mo_fetch.2.1 71 = .ok (.i2l, 1) := by decide +kernel
theorem d_Mo_fetch_72 : decode M_Mo_fetch.2.1 72 = .ok (.lreturn, 1) := by decide +kernel
theorem d_Mo_revoke_0 : decode M_Mo_revoke.2.1 0 = .ok (.aload_n 0, 1) := by decide +kernel
theorem d_Mo_revoke_1 : decode M_Mo_revoke.2.1 1 = .ok (.iload_n 2, 1) := by decide +kernel
theorem d_Mo_revoke_2 : decode M_Mo_revoke.2.1 2 = .ok (.iconst 1, 1) := by decide +kernel
theorem d_Mo_revoke_3 : decode M_Mo_revoke.2.1 3 = .ok (.isub, 1) := by decide +kernel
theorem d_Mo_revoke_4 : decode M_Mo_revoke.2.1 4 = .ok (.bipush 8, 2) := by decide +kernel
theorem d_Mo_revoke_6 : decode M_Mo_revoke.2.1 6 = .ok (.invokevirtual 111, 3) := by decide +kernel
theorem d_Mo_revoke_9 : decode M_Mo_revoke.2.1 9 = .ok (.ifCond .ne 33, 3) := by decide +kernel
theorem d_Mo_revoke_12 : decode M_Mo_revoke.2.1 12 = .ok (.iload_n 2, 1) := by decide +kernel
theorem d_Mo_revoke_13 : decode M_Mo_revoke.2.1 13 = .ok (.iconst 1, 1) := by decide +kernel
theorem d_Mo_revoke_14 : decode M_Mo_revoke.2.1 14 = .ok (.if_icmp .lt 28, 3) := by decide +kernel
theorem d_Mo_revoke_17 : decode M_Mo_revoke.2.1 17 = .ok (.aload_n 0, 1) := by decide +kernel
theorem d_Mo_revoke_18 : decode M_Mo_revoke.2.1 18 = .ok (.iload_n 3, 1) := by decide +kernel
theorem d_Mo_revoke_19 : decode M_Mo_revoke.2.1 19 = .ok (.iconst 1, 1) := by decide +kernel
theorem d_Mo_revoke_20 : decode M_Mo_revoke.2.1 20 = .ok (.isub, 1) := by decide +kernel
theorem d_Mo_revoke_21 : decode M_Mo_revoke.2.1 21 = .ok (.bipush 20, 2) := by decide +kernel
theorem d_Mo_revoke_23 : decode M_Mo_revoke.2.1 23 = .ok (.invokevirtual 111, 3) := by decide +kernel
theorem d_Mo_revoke_26 : decode M_Mo_revoke.2.1 26 = .ok (.ifCond .ne 16, 3) := by decide +kernel
theorem d_Mo_revoke_29 : decode M_Mo_revoke.2.1 29 = .ok (.iload_n 3, 1) := by decide +kernel
theorem d_Mo_revoke_30 : decode M_Mo_revoke.2.1 30 = .ok (.iconst 1, 1) := by decide +kernel
theorem d_Mo_revoke_31 : decode M_Mo_revoke.2.1 31 = .ok (.if_icmp .lt 11, 3) := by decide +kernel
theorem d_Mo_revoke_34 : decode M_Mo_revoke.2.1 34 = .ok (.aload_n 0, 1) := by decide +kernel
theorem d_Mo_revoke_35 : decode M_Mo_revoke.2.1 35 = .ok (.iload_n 1, 1) := by decide +kernel
theorem d_Mo_revoke_36 : decode M_Mo_revoke.2.1 36 = .ok (.invokevirtual 126, 3) := by decide +kernel
theorem d_Mo_revoke_39 : decode M_Mo_revoke.2.1 39 = .ok (.ifCond .eq 5, 3) := by decide +kernel
theorem d_Mo_revoke_42 : decode M_Mo_revoke.2.1 42 = .ok (.iconst (-1), 1) := by decide +kernel
theorem d_Mo_revoke_43 : decode M_Mo_revoke.2.1 43 = .ok (.ireturn, 1) := by decide +kernel
theorem d_Mo_revoke_44 : decode M_Mo_revoke.2.1 44 = .ok (.iconst 0, 1) := by decide +kernel
theorem d_Mo_revoke_45 : decode M_Mo_revoke.2.1 45 = .ok (.istore 4, 2) := by decide +kernel
theorem d_Mo_revoke_47 : decode M_Mo_revoke.2.1 47 = .ok (.iconst 0, 1) := by decide +kernel
theorem d_Mo_revoke_48 : decode M_Mo_revoke.2.1 48 = .ok (.istore 5, 2) := by decide +kernel
theorem d_Mo_revoke_50 : decode M_Mo_revoke.2.1 50 = .ok (.iload 5, 2) := by decide +kernel
theorem d_Mo_revoke_52 : decode M_Mo_revoke.2.1 52 = .ok (.iload_n 2, 1) := by decide +kernel
theorem d_Mo_revoke_53 : decode M_Mo_revoke.2.1 53 = .ok (.if_icmp .ge 111, 3) := by decide +kernel
theorem d_Mo_revoke_56 : decode M_Mo_revoke.2.1 56 = .ok (.iconst (-1), 1) := by decide +kernel
theorem d_Mo_revoke_57 : decode M_Mo_revoke.2.1 57 = .ok (.istore 6, 2) := by decide +kernel
theorem d_Mo_revoke_59 : decode M_Mo_revoke.2.1 59 = .ok (.iconst 0, 1) := by decide +kernel
theorem d_Mo_revoke_60 : decode M_Mo_revoke.2.1 60 = .ok (.istore 7, 2) := by decide +kernel
theorem d_Mo_revoke_62 : decode M_Mo_revoke.2.1 62 = .ok (.iconst 0, 1) := by decide +kernel
theorem d_Mo_revoke_63 : decode M_Mo_revoke.2.1 63 = .ok (.istore 8, 2) := by decide +kernel
theorem d_Mo_revoke_65 : decode M_Mo_revoke.2.1 65 = .ok (.iload 8, 2) := by decide +kernel
theorem d_Mo_revoke_67 : decode M_Mo_revoke.2.1 67 = .ok (.aload_n 0, 1) := by decide +kernel
theorem d_Mo_revoke_68 : decode M_Mo_revoke.2.1 68 = .ok (.getfield 105, 3) := by decide +kernel
theorem d_Mo_revoke_71 : decode M_Mo_revoke.2.1 71 = .ok (.if_icmp .ge 62, 3) := by decide +kernel
theorem d_Mo_revoke_74 : decode M_Mo_revoke.2.1 74 = .ok (.aload_n 0, 1) := by decide +kernel
theorem d_Mo_revoke_75 : decode M_Mo_revoke.2.1 75 = .ok (.getfield 33, 3) := by decide +kernel
theorem d_Mo_revoke_78 : decode M_Mo_revoke.2.1 78 = .ok (.iload 8, 2) := by decide +kernel
theorem d_Mo_revoke_80 : decode M_Mo_revoke.2.1 80 = .ok (.iaload, 1) := by decide +kernel
theorem d_Mo_revoke_81 : decode M_Mo_revoke.2.1 81 = .ok (.iload_n 1, 1) := by decide +kernel
theorem d_Mo_revoke_82 : decode M_Mo_revoke.2.1 82 = .ok (.if_icmp .ne 45, 3) := by decide +kernel
theorem d_Mo_revoke_85 : decode M_Mo_revoke.2.1 85 = .ok (.aload_n 0, 1) := by decide +kernel
theorem d_Mo_revoke_86 : decode M_Mo_revoke.2.1 86 = .ok (.getfield 39, 3) := by decide +kernel
theorem d_Mo_revoke_89 : decode M_Mo_revoke.2.1 89 = .ok (.iload 8, 2) := by decide +kernel
theorem d_Mo_revoke_91 : decode M_Mo_revoke.2.1 91 = .ok (.iaload, 1) := by decide +kernel
theorem d_Mo_revoke_92 : decode M_Mo_revoke.2.1 92 = .ok (.ifCond .le 6, 3) := by decide +kernel
theorem d_Mo_revoke_95 : decode M_Mo_revoke.2.1 95 = .ok (.goto 32, 3) := by decide +kernel
theorem d_Mo_revoke_98 : decode M_Mo_revoke.2.1 98 = .ok (.iinc 7 1, 3) := by decide +kernel
theorem d_Mo_revoke_101 : decode M_Mo_revoke.2.1 101 = .ok (.iload 6, 2) := by decide +kernel
theorem d_Mo_revoke_103 : decode M_Mo_revoke.2.1 103 = .ok (.ifCond .lt 20, 3) := by decide +kernel
theorem d_Mo_revoke_106 : decode M_Mo_revoke.2.1 106 = .ok (.aload_n 0, 1) := by decide +kernel
theorem d_Mo_revoke_107 : decode M_Mo_revoke.2.1 107 = .ok (.getfield 36, 3) := by decide +kernel
theorem d_Mo_revoke_110 : decode M_Mo_revoke.2.1 110 = .ok (.iload 8, 2) := by decide +kernel
theorem d_Mo_revoke_112 : decode M_Mo_revoke.2.1 112 = .ok (.iaload, 1) := by decide +kernel
theorem d_Mo_revoke_113 : decode M_Mo_revoke.2.1 113 = .ok (.aload_n 0, 1) := by decide +kernel
theorem d_Mo_revoke_114 : decode M_Mo_revoke.2.1 114 = .ok (.getfield 36, 3) := by decide +kernel
theorem d_Mo_revoke_117 : decode M_Mo_revoke.2.1 117 = .ok (.iload 6, 2) := by decide +kernel
theorem d_Mo_revoke_119 : decode M_Mo_revoke.2.1 119 = .ok (.iaload, 1) := by decide +kernel
theorem d_Mo_revoke_120 : decode M_Mo_revoke.2.1 120 = .ok (.if_icmp .le 7, 3) := by decide +kernel
theorem d_Mo_revoke_123 : decode M_Mo_revoke.2.1 123 = .ok (.iload 8, 2) := by decide +kernel
theorem d_Mo_revoke_125 : decode M_Mo_revoke.2.1 125 = .ok (.istore 6, 2) := by decide +kernel
theorem d_Mo_revoke_127 : decode M_Mo_revoke.2.1 127 = .ok (.iinc 8 1, 3) := by decide +kernel
theorem d_Mo_revoke_130 : decode M_Mo_revoke.2.1 130 = .ok (.goto (-65), 3) := by decide +kernel
theorem d_Mo_revoke_133 : decode M_Mo_revoke.2.1 133 = .ok (.iload 7, 2) := by decide +kernel
theorem d_Mo_revoke_135 : decode M_Mo_revoke.2.1 135 = .ok (.iconst 3, 1) := by decide +kernel
theorem d_Mo_revoke_136 : decode M_Mo_revoke.2.1 136 = .ok (.if_icmp .ge 6, 3) := by decide +kernel
theorem d_Mo_revoke_139 : decode M_Mo_revoke.2.1 139 = .ok (.iload 4, 2) := by decide +kernel
theorem d_Mo_revoke_141 : decode M_Mo_revoke.2.1 141 = .ok (.ireturn, 1) := by decide +kernel
theorem d_Mo_revoke_142 : decode M_Mo_revoke.2.1 142 = .ok (.aload_n 0, 1) := by decide +kernel
theorem d_Mo_revoke_143 : decode M_Mo_revoke.2.1 143 = .ok (.getfield 39, 3) := by decide +kernel
theorem d_Mo_revoke_146 : decode M_Mo_revoke.2.1 146 = .ok (.iload 6, 2) := by decide +kernel
theorem d_Mo_revoke_148 : decode M_Mo_revoke.2.1 148 = .ok (.aload_n 0, 1) := by decide +kernel
theorem d_Mo_revoke_149 : decode M_Mo_revoke.2.1 149 = .ok (.getfield 23, 3) := by decide +kernel
theorem d_Mo_revoke_152 : decode M_Mo_revoke.2.1 152 = .ok (.iload_n 3, 1) := by decide +kernel
theorem d_Mo_revoke_153 : decode M_Mo_revoke.2.1 153 = .ok (.iadd, 1) := by decide +kernel
theorem d_Mo_revoke_154 : decode M_Mo_revoke.2.1 154 = .ok (.iastore, 1) := by decide +kernel
theorem d_Mo_revoke_155 : decode M_Mo_revoke.2.1 155 = .ok (.iinc 4 1, 3) := by decide +kernel
theorem d_Mo_revoke_158 : decode M_Mo_revoke.2.1 158 = .ok (.iinc 5 1, 3) := by decide +kernel
theorem d_Mo_revoke_161 : decode M_Mo_revoke.2.1 161 = .ok (.goto (-111), 3) := by decide +kernel
theorem d_Mo_revoke_164 : decode M_Mo_revoke.2.1 164 = .ok (.iload 4, 2) := by decide +kernel
theorem d_Mo_revoke_166 : decode M_Mo_revoke.2.1 166 = .ok (.ireturn, 1) := by decide +kernel
theorem d_Mo_tick_0 : decode M_Mo_tick.2.1 0 = .ok (.iload_n 1, 1) := by decide +kernel
theorem d_Mo_tick_1 : decode M_Mo_tick.2.1 1 = .ok (.iconst 1, 1) := by decide +kernel
theorem d_Mo_tick_2 : decode M_Mo_tick.2.1 2 = .ok (.if_icmp .lt 9, 3) := by decide +kernel
theorem d_Mo_tick_5 : decode M_Mo_tick.2.1 5 = .ok (.iload_n 1, 1) := by decide +kernel
theorem d_Mo_tick_6 : decode M_Mo_tick.2.1 6 = .ok (.bipush 100, 2) := by decide +kernel
theorem d_Mo_tick_8 : decode M_Mo_tick.2.1 8 = .ok (.if_icmp .le 5, 3) := by decide +kernel
theorem d_Mo_tick_11 : decode M_Mo_tick.2.1 11 = .ok (.iconst (-1), 1) := by decide +kernel
theorem d_Mo_tick_12 : decode M_Mo_tick.2.1 12 = .ok (.ireturn, 1) := by decide +kernel
theorem d_Mo_tick_13 : decode M_Mo_tick.2.1 13 = .ok (.aload_n 0, 1) := by decide +kernel
theorem d_Mo_tick_14 : decode M_Mo_tick.2.1 14 = .ok (.dup, 1) := by decide +kernel
theorem d_Mo_tick_15 : decode M_Mo_tick.2.1 15 = .ok (.getfield 23, 3) := by decide +kernel
theorem d_Mo_tick_18 : decode M_Mo_tick.2.1 18 = .ok (.iload_n 1, 1) := by decide +kernel
theorem d_Mo_tick_19 : decode M_Mo_tick.2.1 19 = .ok (.iadd, 1) := by decide +kernel
theorem d_Mo_tick_20 : decode M_Mo_tick.2.1 20 = .ok (.putfield 23, 3) := by decide +kernel
theorem d_Mo_tick_23 : decode M_Mo_tick.2.1 23 = .ok (.iconst 0, 1) := by decide +kernel
theorem d_Mo_tick_24 : decode M_Mo_tick.2.1 24 = .ok (.istore_n 2, 1) := by decide +kernel
theorem d_Mo_tick_25 : decode M_Mo_tick.2.1 25 = .ok (.iconst 0, 1) := by decide +kernel
theorem d_Mo_tick_26 : decode M_Mo_tick.2.1 26 = .ok (.istore_n 3, 1) := by decide +kernel
theorem d_Mo_tick_27 : decode M_Mo_tick.2.1 27 = .ok (.iload_n 3, 1) := by decide +kernel
theorem d_Mo_tick_28 : decode M_Mo_tick.2.1 28 = .ok (.bipush 32, 2) := by decide +kernel
theorem d_Mo_tick_30 : decode M_Mo_tick.2.1 30 = .ok (.if_icmp .ge 190, 3) := by decide +kernel
theorem d_Mo_tick_33 : decode M_Mo_tick.2.1 33 = .ok (.iconst (-1), 1) := by decide +kernel
theorem d_Mo_tick_34 : decode M_Mo_tick.2.1 34 = .ok (.istore 4, 2) := by decide +kernel
theorem d_Mo_tick_36 : decode M_Mo_tick.2.1 36 = .ok (.iconst 0, 1) := by decide +kernel
theorem d_Mo_tick_37 : decode M_Mo_tick.2.1 37 = .ok (.istore 5, 2) := by decide +kernel
theorem d_Mo_tick_39 : decode M_Mo_tick.2.1 39 = .ok (.iload 5, 2) := by decide +kernel
theorem d_Mo_tick_41 : decode M_Mo_tick.2.1 41 = .ok (.aload_n 0, 1) := by decide +kernel
theorem d_Mo_tick_42 : decode M_Mo_tick.2.1 42 = .ok (.getfield 105, 3) := by decide +kernel
theorem d_Mo_tick_45 : decode M_Mo_tick.2.1 45 = .ok (.if_icmp .ge 62, 3) := by decide +kernel
theorem d_Mo_tick_48 : decode M_Mo_tick.2.1 48 = .ok (.aload_n 0, 1) := by decide +kernel
theorem d_Mo_tick_49 : decode M_Mo_tick.2.1 49 = .ok (.getfield 39, 3) := by decide +kernel
theorem d_Mo_tick_52 : decode M_Mo_tick.2.1 52 = .ok (.iload 5, 2) := by decide +kernel
theorem d_Mo_tick_54 : decode M_Mo_tick.2.1 54 = .ok (.iaload, 1) := by decide +kernel
theorem d_Mo_tick_55 : decode M_Mo_tick.2.1 55 = .ok (.ifCond .eq 46, 3) := by decide +kernel
theorem d_Mo_tick_58 : decode M_Mo_tick.2.1 58 = .ok (.aload_n 0, 1) := by decide +kernel
theorem d_Mo_tick_59 : decode M_Mo_tick.2.1 59 = .ok (.getfield 39, 3) := by decide +kernel
theorem d_Mo_tick_62 : decode M_Mo_tick.2.1 62 = .ok (.iload 5, 2) := by decide +kernel
theorem d_Mo_tick_64 : decode M_Mo_tick.2.1 64 = .ok (.iaload, 1) := by decide +kernel
theorem d_Mo_tick_65 : decode M_Mo_tick.2.1 65 = .ok (.aload_n 0, 1) := by decide +kernel
theorem d_Mo_tick_66 : decode M_Mo_tick.2.1 66 = .ok (.getfield 23, 3) := by decide +kernel
theorem d_Mo_tick_69 : decode M_Mo_tick.2.1 69 = .ok (.if_icmp .le 6, 3) := by decide +kernel
theorem d_Mo_tick_72 : decode M_Mo_tick.2.1 72 = .ok (.goto 29, 3) := by decide +kernel
theorem d_Mo_tick_75 : decode M_Mo_tick.2.1 75 = .ok (.iload 4, 2) := by decide +kernel
theorem d_Mo_tick_77 : decode M_Mo_tick.2.1 77 = .ok (.ifCond .lt 20, 3) := by decide +kernel
theorem d_Mo_tick_80 : decode M_Mo_tick.2.1 80 = .ok (.aload_n 0, 1) := by decide +kernel
theorem d_Mo_tick_81 : decode M_Mo_tick.2.1 81 = .ok (.getfield 39, 3) := by decide +kernel
theorem d_Mo_tick_84 : decode M_Mo_tick.2.1 84 = .ok (.iload 5, 2) := by decide +kernel
theorem d_Mo_tick_86 : decode M_Mo_tick.2.1 86 = .ok (.iaload, 1) := by decide +kernel
theorem d_Mo_tick_87 : decode M_Mo_tick.2.1 87 = .ok (.aload_n 0, 1) := by decide +kernel
theorem d_Mo_tick_88 : decode M_Mo_tick.2.1 88 = .ok (.getfield 39, 3) := by decide +kernel
theorem d_Mo_tick_91 : decode M_Mo_tick.2.1 91 = .ok (.iload 4, 2) := by decide +kernel
theorem d_Mo_tick_93 : decode M_Mo_tick.2.1 93 = .ok (.iaload, 1) := by decide +kernel
theorem d_Mo_tick_94 : decode M_Mo_tick.2.1 94 = .ok (.if_icmp .ge 7, 3) := by decide +kernel
theorem d_Mo_tick_97 : decode M_Mo_tick.2.1 97 = .ok (.iload 5, 2) := by decide +kernel
theorem d_Mo_tick_99 : decode M_Mo_tick.2.1 99 = .ok (.istore 4, 2) := by decide +kernel
theorem d_Mo_tick_101 : decode M_Mo_tick.2.1 101 = .ok (.iinc 5 1, 3) := by decide +kernel
theorem d_Mo_tick_104 : decode M_Mo_tick.2.1 104 = .ok (.goto (-65), 3) := by decide +kernel
theorem d_Mo_tick_107 : decode M_Mo_tick.2.1 107 = .ok (.iload 4, 2) := by decide +kernel
theorem d_Mo_tick_109 : decode M_Mo_tick.2.1 109 = .ok (.ifCond .ge 5, 3) := by decide +kernel
theorem d_Mo_tick_112 : decode M_Mo_tick.2.1 112 = .ok (.iload_n 2, 1) := by decide +kernel
theorem d_Mo_tick_113 : decode M_Mo_tick.2.1 113 = .ok (.ireturn, 1) := by decide +kernel
theorem d_Mo_tick_114 : decode M_Mo_tick.2.1 114 = .ok (.iinc 2 1, 3) := by decide +kernel
theorem d_Mo_tick_117 : decode M_Mo_tick.2.1 117 = .ok (.aload_n 0, 1) := by decide +kernel
theorem d_Mo_tick_118 : decode M_Mo_tick.2.1 118 = .ok (.getfield 33, 3) := by decide +kernel
theorem d_Mo_tick_121 : decode M_Mo_tick.2.1 121 = .ok (.iload 4, 2) := by decide +kernel
theorem d_Mo_tick_123 : decode M_Mo_tick.2.1 123 = .ok (.iaload, 1) := by decide +kernel
theorem d_Mo_tick_124 : decode M_Mo_tick.2.1 124 = .ok (.bipush 8, 2) := by decide +kernel
theorem d_Mo_tick_126 : decode M_Mo_tick.2.1 126 = .ok (.imul, 1) := by decide +kernel
theorem d_Mo_tick_127 : decode M_Mo_tick.2.1 127 = .ok (.istore 5, 2) := by decide +kernel
theorem d_Mo_tick_129 : decode M_Mo_tick.2.1 129 = .ok (.bipush 7, 2) := by decide +kernel
theorem d_Mo_tick_131 : decode M_Mo_tick.2.1 131 = .ok (.istore 6, 2) := by decide +kernel
theorem d_Mo_tick_133 : decode M_Mo_tick.2.1 133 = .ok (.iload 6, 2) := by decide +kernel
theorem d_Mo_tick_135 : decode M_Mo_tick.2.1 135 = .ok (.ifCond .le 31, 3) := by decide +kernel
theorem d_Mo_tick_138 : decode M_Mo_tick.2.1 138 = .ok (.aload_n 0, 1) := by decide +kernel
theorem d_Mo_tick_139 : decode M_Mo_tick.2.1 139 = .ok (.getfield 48, 3) := by decide +kernel
theorem d_Mo_tick_142 : decode M_Mo_tick.2.1 142 = .ok (.iload 5, 2) := by decide +kernel
theorem d_Mo_tick_144 : decode M_Mo_tick.2.1 144 = .ok (.iload 6, 2) := by decide +kernel
theorem d_Mo_tick_146 : decode M_Mo_tick.2.1 146 = .ok (.iadd, 1) := by decide +kernel
theorem d_Mo_tick_147 : decode M_Mo_tick.2.1 147 = .ok (.aload_n 0, 1) := by decide +kernel
theorem d_Mo_tick_148 : decode M_Mo_tick.2.1 148 = .ok (.getfield 48, 3) := by decide +kernel
theorem d_Mo_tick_151 : decode M_Mo_tick.2.1 151 = .ok (.iload 5, 2) := by decide +kernel
theorem d_Mo_tick_153 : decode M_Mo_tick.2.1 153 = .ok (.iload 6, 2) := by decide +kernel
theorem d_Mo_tick_155 : decode M_Mo_tick.2.1 155 = .ok (.iadd, 1) := by decide +kernel
theorem d_Mo_tick_156 : decode M_Mo_tick.2.1 156 = .ok (.iconst 1, 1) := by decide +kernel
theorem d_Mo_tick_157 : decode M_Mo_tick.2.1 157 = .ok (.isub, 1) := by decide +kernel
theorem d_Mo_tick_158 : decode M_Mo_tick.2.1 158 = .ok (.iaload, 1) := by decide +kernel
theorem d_Mo_tick_159 : decode M_Mo_tick.2.1 159 = .ok (.iastore, 1) := by decide +kernel
theorem d_Mo_tick_160 : decode M_Mo_tick.2.1 160 = .ok (.iinc 6 (-1), 3) := by decide +kernel
theorem d_Mo_tick_163 : decode M_Mo_tick.2.1 163 = .ok (.goto (-30), 3) := by decide +kernel
theorem d_Mo_tick_166 : decode M_Mo_tick.2.1 166 = .ok (.aload_n 0, 1) := by decide +kernel
theorem d_Mo_tick_167 : decode M_Mo_tick.2.1 167 = .ok (.getfield 48, 3) := by decide +kernel
theorem d_Mo_tick_170 : decode M_Mo_tick.2.1 170 = .ok (.iload 5, 2) := by decide +kernel
theorem d_Mo_tick_172 : decode M_Mo_tick.2.1 172 = .ok (.iload 4, 2) := by decide +kernel
theorem d_Mo_tick_174 : decode M_Mo_tick.2.1 174 = .ok (.iastore, 1) := by decide +kernel
theorem d_Mo_tick_175 : decode M_Mo_tick.2.1 175 = .ok (.aload_n 0, 1) := by decide +kernel
theorem d_Mo_tick_176 : decode M_Mo_tick.2.1 176 = .ok (.getfield 51, 3) := by decide +kernel
theorem d_Mo_tick_179 : decode M_Mo_tick.2.1 179 = .ok (.aload_n 0, 1) := by decide +kernel
theorem d_Mo_tick_180 : decode M_Mo_tick.2.1 180 = .ok (.getfield 33, 3) := by decide +kernel
theorem d_Mo_tick_183 : decode M_Mo_tick.2.1 183 = .ok (.iload 4, 2) := by decide +kernel
theorem d_Mo_tick_185 : decode M_Mo_tick.2.1 185 = .ok (.iaload, 1) := by decide +kernel
theorem d_Mo_tick_186 : decode M_Mo_tick.2.1 186 = .ok (.iaload, 1) := by decide +kernel
theorem d_Mo_tick_187 : decode M_Mo_tick.2.1 187 = .ok (.bipush 8, 2) := by decide +kernel
theorem d_Mo_tick_189 : decode M_Mo_tick.2.1 189 = .ok (.if_icmp .ge 19, 3) := by decide +kernel
theorem d_Mo_tick_192 : decode M_Mo_tick.2.1 192 = .ok (.aload_n 0, 1) := by decide +kernel
theorem d_Mo_tick_193 : decode M_Mo_tick.2.1 193 = .ok (.getfield 51, 3) := by decide +kernel
theorem d_Mo_tick_196 : decode M_Mo_tick.2.1 196 = .ok (.aload_n 0, 1) := by decide +kernel
theorem d_Mo_tick_197 : decode M_Mo_tick.2.1 197 = .ok (.getfield 33, 3) := by decide +kernel
theorem d_Mo_tick_200 : decode M_Mo_tick.2.1 200 = .ok (.iload 4, 2) := by decide +kernel
theorem d_Mo_tick_202 : decode M_Mo_tick.2.1 202 = .ok (.iaload, 1) := by decide +kernel
theorem d_Mo_tick_203 : decode M_Mo_tick.2.1 203 = .ok (.dup2, 1) := by decide +kernel
theorem d_Mo_tick_204 : decode M_Mo_tick.2.1 204 = .ok (.iaload, 1) := by decide +kernel
theorem d_Mo_tick_205 : decode M_Mo_tick.2.1 205 = .ok (.iconst 1, 1) := by decide +kernel
theorem d_Mo_tick_206 : decode M_Mo_tick.2.1 206 = .ok (.iadd, 1) := by decide +kernel
theorem d_Mo_tick_207 : decode M_Mo_tick.2.1 207 = .ok (.iastore, 1) := by decide +kernel
theorem d_Mo_tick_208 : decode M_Mo_tick.2.1 208 = .ok (.aload_n 0, 1) := by decide +kernel
theorem d_Mo_tick_209 : decode M_Mo_tick.2.1 209 = .ok (.iload 4, 2) := by decide +kernel
theorem d_Mo_tick_211 : decode M_Mo_tick.2.1 211 = .ok (.invokevirtual 130, 3) := by decide +kernel
theorem d_Mo_tick_214 : decode M_Mo_tick.2.1 214 = .ok (.iinc 3 1, 3) := by decide +kernel
theorem d_Mo_tick_217 : decode M_Mo_tick.2.1 217 = .ok (.goto (-190), 3) := by decide +kernel
theorem d_Mo_tick_220 : decode M_Mo_tick.2.1 220 = .ok (.iload_n 2, 1) := by decide +kernel
theorem d_Mo_tick_221 : decode M_Mo_tick.2.1 221 = .ok (.ireturn, 1) := by decide +kernel
theorem d_Mo_op_0 : decode M_Mo_op.2.1 0 = .ok (.aload_n 0, 1) := by decide +kernel
theorem d_Mo_op_1 : decode M_Mo_op.2.1 1 = .ok (.iload_n 2, 1) := by decide +kernel
theorem d_Mo_op_2 : decode M_Mo_op.2.1 2 = .ok (.bipush 12, 2) := by decide +kernel
theorem d_Mo_op_4 : decode M_Mo_op.2.1 4 = .ok (.invokevirtual 111, 3) := by decide +kernel
theorem d_Mo_op_7 : decode M_Mo_op.2.1 7 = .ok (.ifCond .eq 5, 3) := by decide +kernel
theorem d_Mo_op_10 : decode M_Mo_op.2.1 10 = .ok (.iconst (-1), 1) := by decide +kernel
theorem d_Mo_op_11 : decode M_Mo_op.2.1 11 = .ok (.ireturn, 1) := by decide +kernel
theorem d_Mo_op_12 : decode M_Mo_op.2.1 12 = .ok (.iload_n 2, 1) := by decide +kernel
theorem d_Mo_op_13 : decode M_Mo_op.2.1 13 = .ok (.iconst 2, 1) := by decide +kernel
theorem d_Mo_op_14 : decode M_Mo_op.2.1 14 = .ok (.if_icmp .ge 13, 3) := by decide +kernel
theorem d_Mo_op_17 : decode M_Mo_op.2.1 17 = .ok (.aload_n 0, 1) := by decide +kernel
theorem d_Mo_op_18 : decode M_Mo_op.2.1 18 = .ok (.iload_n 3, 1) := by decide +kernel
theorem d_Mo_op_19 : decode M_Mo_op.2.1 19 = .ok (.bipush 64, 2) := by decide +kernel
theorem d_Mo_op_21 : decode M_Mo_op.2.1 21 = .ok (.invokevirtual 111, 3) := by decide +kernel
theorem d_Mo_op_24 : decode M_Mo_op.2.1 24 = .ok (.ifCond .ne 19, 3) := by decide +kernel
theorem d_Mo_op_27 : decode M_Mo_op.2.1 27 = .ok (.iload_n 2, 1) := by decide +kernel
theorem d_Mo_op_28 : decode M_Mo_op.2.1 28 = .ok (.bipush 6, 2) := by decide +kernel
theorem d_Mo_op_30 : decode M_Mo_op.2.1 30 = .ok (.if_icmp .ne 15, 3) := by decide +kernel
theorem d_Mo_op_33 : decode M_Mo_op.2.1 33 = .ok (.aload_n 0, 1) := by decide +kernel
theorem d_Mo_op_34 : decode M_Mo_op.2.1 34 = .ok (.iload_n 3, 1) := by decide +kernel
theorem d_Mo_op_35 : decode M_Mo_op.2.1 35 = .ok (.bipush 32, 2) := by decide +kernel
theorem d_Mo_op_37 : decode M_Mo_op.2.1 37 = .ok (.invokevirtual 111, 3) := by decide +kernel
theorem d_Mo_op_40 : decode M_Mo_op.2.1 40 = .ok (.ifCond .eq 5, 3) := by decide +kernel
theorem d_Mo_op_43 : decode M_Mo_op.2.1 43 = .ok (.iconst (-1), 1) := by decide +kernel
theorem d_Mo_op_44 : decode M_Mo_op.2.1 44 = .ok (.ireturn, 1) := by decide +kernel
theorem d_Mo_op_45 : decode M_Mo_op.2.1 45 = .ok (.iload_n 2, 1) := by decide +kernel
theorem d_Mo_op_46 : decode M_Mo_op.2.1 46 = .ok (.bipush 6, 2) := by decide +kernel
theorem d_Mo_op_48 : decode M_Mo_op.2.1 48 = .ok (.if_icmp .le 33, 3) := by decide +kernel
theorem d_Mo_op_51 : decode M_Mo_op.2.1 51 = .ok (.iload_n 2, 1) := by decide +kernel
theorem d_Mo_op_52 : decode M_Mo_op.2.1 52 = .ok (.bipush 10, 2) := by decide +kernel
theorem d_Mo_op_54 : decode M_Mo_op.2.1 54 = .ok (.if_icmp .ge 27, 3) := by decide +kernel
theorem d_Mo_op_57 : decode M_Mo_op.2.1 57 = .ok (.aload_n 0, 1) := by decide +kernel
theorem d_Mo_op_58 : decode M_Mo_op.2.1 58 = .ok (.iload 4, 2) := by decide +kernel
theorem d_Mo_op_60 : decode M_Mo_op.2.1 60 = .ok (.bipush 16, 2) := by decide +kernel
theorem d_Mo_op_62 : decode M_Mo_op.2.1 62 = .ok (.invokevirtual 111, 3) := by decide +kernel
theorem d_Mo_op_65 : decode M_Mo_op.2.1 65 = .ok (.ifCond .ne 14, 3) := by decide +kernel
theorem d_Mo_op_68 : decode M_Mo_op.2.1 68 = .ok (.aload_n 0, 1) := by decide +kernel
theorem d_Mo_op_69 : decode M_Mo_op.2.1 69 = .ok (.iload 5, 2) := by decide +kernel
theorem d_Mo_op_71 : decode M_Mo_op.2.1 71 = .ok (.bipush 16, 2) := by decide +kernel
theorem d_Mo_op_73 : decode M_Mo_op.2.1 73 = .ok (.invokevirtual 111, 3) := by decide +kernel
theorem d_Mo_op_76 : decode M_Mo_op.2.1 76 = .ok (.ifCond .eq 5, 3) := by decide +kernel
theorem d_Mo_op_79 : decode M_Mo_op.2.1 79 = .ok (.iconst (-1), 1) := by decide +kernel
theorem d_Mo_op_80 : decode M_Mo_op.2.1 80 = .ok (.ireturn, 1) := by decide +kernel
theorem d_Mo_op_81 : decode M_Mo_op.2.1 81 = .ok (.aload_n 0, 1) := by decide +kernel
theorem d_Mo_op_82 : decode M_Mo_op.2.1 82 = .ok (.iload_n 1, 1) := by decide +kernel
theorem d_Mo_op_83 : decode M_Mo_op.2.1 83 = .ok (.invokevirtual 126, 3) := by decide +kernel
theorem d_Mo_op_86 : decode M_Mo_op.2.1 86 = .ok (.ifCond .eq 5, 3) := by decide +kernel
theorem d_Mo_op_89 : decode M_Mo_op.2.1 89 = .ok (.iconst (-1), 1) := by decide +kernel
theorem d_Mo_op_90 : decode M_Mo_op.2.1 90 = .ok (.ireturn, 1) := by decide +kernel
theorem d_Mo_op_91 : decode M_Mo_op.2.1 91 = .ok (.aload_n 0, 1) := by decide +kernel
theorem d_Mo_op_92 : decode M_Mo_op.2.1 92 = .ok (.getfield 54, 3) := by decide +kernel
theorem d_Mo_op_95 : decode M_Mo_op.2.1 95 = .ok (.iload_n 1, 1) := by decide +kernel
theorem d_Mo_op_96 : decode M_Mo_op.2.1 96 = .ok (.iaload, 1) := by decide +kernel
theorem d_Mo_op_97 : decode M_Mo_op.2.1 97 = .ok (.bipush 16, 2) := by decide +kernel
theorem d_Mo_op_99 : decode M_Mo_op.2.1 99 = .ok (.if_icmp .ne 6, 3) := by decide +kernel
theorem d_Mo_op_102 : decode M_Mo_op.2.1 102 = .ok (.bipush (-2), 2) := by decide +kernel
theorem d_Mo_op_104 : decode M_Mo_op.2.1 104 = .ok (.ireturn, 1) := by decide +kernel
theorem d_Mo_op_105 : decode M_Mo_op.2.1 105 = .ok (.iload_n 1, 1) := by decide +kernel
theorem d_Mo_op_106 : decode M_Mo_op.2.1 106 = .ok (.bipush 64, 2) := by decide +kernel
theorem d_Mo_op_108 : decode M_Mo_op.2.1 108 = .ok (.imul, 1) := by decide +kernel
theorem d_Mo_op_109 : decode M_Mo_op.2.1 109 = .ok (.aload_n 0, 1) := by decide +kernel
theorem d_Mo_op_110 : decode M_Mo_op.2.1 110 = .ok (.getfield 54, 3) := by decide +kernel
theorem d_Mo_op_113 : decode M_Mo_op.2.1 113 = .ok (.iload_n 1, 1) := by decide +kernel
theorem d_Mo_op_114 : decode M_Mo_op.2.1 114 = .ok (.iaload, 1) := by decide +kernel
theorem d_Mo_op_115 : decode M_Mo_op.2.1 115 = .ok (.iconst 4, 1) := by decide +kernel
theorem d_Mo_op_116 : decode M_Mo_op.2.1 116 = .ok (.imul, 1) := by decide +kernel
theorem d_Mo_op_117 : decode M_Mo_op.2.1 117 = .ok (.iadd, 1) := by decide +kernel
theorem d_Mo_op_118 : decode M_Mo_op.2.1 118 = .ok (.istore 6, 2) := by decide +kernel
theorem d_Mo_op_120 : decode M_Mo_op.2.1 120 = .ok (.aload_n 0, 1) := by decide +kernel
theorem d_Mo_op_121 : decode M_Mo_op.2.1 121 = .ok (.getfield 57, 3) := by decide +kernel
theorem d_Mo_op_124 : decode M_Mo_op.2.1 124 = .ok (.iload 6, 2) := by decide +kernel
theorem d_Mo_op_126 : decode M_Mo_op.2.1 126 = .ok (.iload_n 2, 1) := by decide +kernel
theorem d_Mo_op_127 : decode M_Mo_op.2.1 127 = .ok (.iastore, 1) := by decide +kernel
theorem d_Mo_op_128 : decode M_Mo_op.2.1 128 = .ok (.aload_n 0, 1) := by decide +kernel
theorem d_Mo_op_129 : decode M_Mo_op.2.1 129 = .ok (.getfield 57, 3) := by decide +kernel
theorem d_Mo_op_132 : decode M_Mo_op.2.1 132 = .ok (.iload 6, 2) := by decide +kernel
theorem d_Mo_op_134 : decode M_Mo_op.2.1 134 = .ok (.iconst 1, 1) := by decide +kernel
theorem d_Mo_op_135 : decode M_Mo_op.2.1 135 = .ok (.iadd, 1) := by decide +kernel
theorem d_Mo_op_136 : decode M_Mo_op.2.1 136 = .ok (.iload_n 3, 1) := by decide +kernel
theorem d_Mo_op_137 : decode M_Mo_op.2.1 137 = .ok (.iastore, 1) := by decide +kernel
theorem d_Mo_op_138 : decode M_Mo_op.2.1 138 = .ok (.aload_n 0, 1) := by decide +kernel
theorem d_Mo_op_139 : decode M_Mo_op.2.1 139 = .ok (.getfield 57, 3) := by decide +kernel
theorem d_Mo_op_142 : decode M_Mo_op.2.1 142 = .ok (.iload 6, 2) := by decide +kernel
theorem d_Mo_op_144 : decode M_Mo_op.2.1 144 = .ok (.iconst 2, 1) := by decide +kernel
theorem d_Mo_op_145 : decode M_Mo_op.2.1 145 = .ok (.iadd, 1) := by decide +kernel
theorem d_Mo_op_146 : decode M_Mo_op.2.1 146 = .ok (.iload 4, 2) := by decide +kernel
theorem d_Mo_op_148 : decode M_Mo_op.2.1 148 = .ok (.iastore, 1) := by decide +kernel
theorem d_Mo_op_149 : decode M_Mo_op.2.1 149 = .ok (.aload_n 0, 1) := by decide +kernel
theorem d_Mo_op_150 : decode M_Mo_op.2.1 150 = .ok (.getfield 57, 3) := by decide +kernel
theorem d_Mo_op_153 : decode M_Mo_op.2.1 153 = .ok (.iload 6, 2) := by decide +kernel
theorem d_Mo_op_155 : decode M_Mo_op.2.1 155 = .ok (.iconst 3, 1) := by decide +kernel
theorem d_Mo_op_156 : decode M_Mo_op.2.1 156 = .ok (.iadd, 1) := by decide +kernel
theorem d_Mo_op_157 : decode M_Mo_op.2.1 157 = .ok (.iload 5, 2) := by decide +kernel
theorem d_Mo_op_159 : decode M_Mo_op.2.1 159 = .ok (.iastore, 1) := by decide +kernel
theorem d_Mo_op_160 : decode M_Mo_op.2.1 160 = .ok (.aload_n 0, 1) := by decide +kernel
theorem d_Mo_op_161 : decode M_Mo_op.2.1 161 = .ok (.getfield 54, 3) := by decide +kernel
theorem d_Mo_op_164 : decode M_Mo_op.2.1 164 = .ok (.iload_n 1, 1) := by decide +kernel
theorem d_Mo_op_165 : decode M_Mo_op.2.1 165 = .ok (.dup2, 1) := by decide +kernel
theorem d_Mo_op_166 : decode M_Mo_op.2.1 166 = .ok (.iaload, 1) := by decide +kernel
theorem d_Mo_op_167 : decode M_Mo_op.2.1 167 = .ok (.iconst 1, 1) := by decide +kernel
theorem d_Mo_op_168 : decode M_Mo_op.2.1 168 = .ok (.iadd, 1) := by decide +kernel
theorem d_Mo_op_169 : decode M_Mo_op.2.1 169 = .ok (.iastore, 1) := by decide +kernel
theorem d_Mo_op_170 : decode M_Mo_op.2.1 170 = .ok (.aload_n 0, 1) := by decide +kernel
theorem d_Mo_op_171 : decode M_Mo_op.2.1 171 = .ok (.getfield 54, 3) := by decide +kernel
theorem d_Mo_op_174 : decode M_Mo_op.2.1 174 = .ok (.iload_n 1, 1) := by decide +kernel
theorem d_Mo_op_175 : decode M_Mo_op.2.1 175 = .ok (.iaload, 1) := by decide +kernel
theorem d_Mo_op_176 : decode M_Mo_op.2.1 176 = .ok (.iconst 1, 1) := by decide +kernel
theorem d_Mo_op_177 : decode M_Mo_op.2.1 177 = .ok (.isub, 1) := by decide +kernel
theorem d_Mo_op_178 : decode M_Mo_op.2.1 178 = .ok (.ireturn, 1) := by decide +kernel
theorem d_Mo_install_0 : decode M_Mo_install.2.1 0 = .ok (.aload_n 0, 1) := by decide +kernel
theorem d_Mo_install_1 : decode M_Mo_install.2.1 1 = .ok (.iload_n 1, 1) := by decide +kernel
theorem d_Mo_install_2 : decode M_Mo_install.2.1 2 = .ok (.invokevirtual 126, 3) := by decide +kernel
theorem d_Mo_install_5 : decode M_Mo_install.2.1 5 = .ok (.ifCond .eq 5, 3) := by decide +kernel
theorem d_Mo_install_8 : decode M_Mo_install.2.1 8 = .ok (.iconst (-1), 1) := by decide +kernel
theorem d_Mo_install_9 : decode M_Mo_install.2.1 9 = .ok (.ireturn, 1) := by decide +kernel
theorem d_Mo_install_10 : decode M_Mo_install.2.1 10 = .ok (.aload_n 0, 1) := by decide +kernel
theorem d_Mo_install_11 : decode M_Mo_install.2.1 11 = .ok (.iload_n 1, 1) := by decide +kernel
theorem d_Mo_install_12 : decode M_Mo_install.2.1 12 = .ok (.invokevirtual 139, 3) := by decide +kernel
theorem d_Mo_install_15 : decode M_Mo_install.2.1 15 = .ok (.istore_n 2, 1) := by decide +kernel
theorem d_Mo_install_16 : decode M_Mo_install.2.1 16 = .ok (.aload_n 0, 1) := by decide +kernel
theorem d_Mo_install_17 : decode M_Mo_install.2.1 17 = .ok (.getfield 54, 3) := by decide +kernel
theorem d_Mo_install_20 : decode M_Mo_install.2.1 20 = .ok (.iload_n 1, 1) := by decide +kernel
theorem d_Mo_install_21 : decode M_Mo_install.2.1 21 = .ok (.iaload, 1) := by decide +kernel
theorem d_Mo_install_22 : decode M_Mo_install.2.1 22 = .ok (.istore_n 3, 1) := by decide +kernel
theorem d_Mo_install_23 : decode M_Mo_install.2.1 23 = .ok (.aload_n 0, 1) := by decide +kernel
theorem d_Mo_install_24 : decode M_Mo_install.2.1 24 = .ok (.getfield 54, 3) := by decide +kernel
theorem d_Mo_install_27 : decode M_Mo_install.2.1 27 = .ok (.iload_n 1, 1) := by decide +kernel
theorem d_Mo_install_28 : decode M_Mo_install.2.1 28 = .ok (.iconst 0, 1) := by decide +kernel
theorem d_Mo_install_29 : decode M_Mo_install.2.1 29 = .ok (.iastore, 1) := by decide +kernel
theorem d_Mo_install_30 : decode M_Mo_install.2.1 30 = .ok (.iload_n 2, 1) := by decide +kernel
theorem d_Mo_install_31 : decode M_Mo_install.2.1 31 = .ok (.ifCond .ne 6, 3) := by decide +kernel
theorem d_Mo_install_34 : decode M_Mo_install.2.1 34 = .ok (.bipush (-5), 2) := by decide +kernel
theorem d_Mo_install_36 : decode M_Mo_install.2.1 36 = .ok (.ireturn, 1) := by decide +kernel
theorem d_Mo_install_37 : decode M_Mo_install.2.1 37 = .ok (.aload_n 0, 1) := by decide +kernel
theorem d_Mo_install_38 : decode M_Mo_install.2.1 38 = .ok (.iload_n 1, 1) := by decide +kernel
theorem d_Mo_install_39 : decode M_Mo_install.2.1 39 = .ok (.invokevirtual 134, 3) := by decide +kernel
theorem d_Mo_install_42 : decode M_Mo_install.2.1 42 = .ok (.iload_n 3, 1) := by decide +kernel
theorem d_Mo_install_43 : decode M_Mo_install.2.1 43 = .ok (.ifCond .ne 5, 3) := by decide +kernel
theorem d_Mo_install_46 : decode M_Mo_install.2.1 46 = .ok (.iconst 0, 1) := by decide +kernel
theorem d_Mo_install_47 : decode M_Mo_install.2.1 47 = .ok (.ireturn, 1) := by decide +kernel
theorem d_Mo_install_48 : decode M_Mo_install.2.1 48 = .ok (.iconst 0, 1) := by decide +kernel
theorem d_Mo_install_49 : decode M_Mo_install.2.1 49 = .ok (.istore 4, 2) := by decide +kernel
theorem d_Mo_install_51 : decode M_Mo_install.2.1 51 = .ok (.iload 4, 2) := by decide +kernel
theorem d_Mo_install_53 : decode M_Mo_install.2.1 53 = .ok (.bipush 64, 2) := by decide +kernel
theorem d_Mo_install_55 : decode M_Mo_install.2.1 55 = .ok (.if_icmp .ge 37, 3) := by decide +kernel
theorem d_Mo_install_58 : decode M_Mo_install.2.1 58 = .ok (.aload_n 0, 1) := by decide +kernel
theorem d_Mo_install_59 : decode M_Mo_install.2.1 59 = .ok (.getfield 57, 3) := by decide +kernel
theorem d_Mo_install_62 : decode M_Mo_install.2.1 62 = .ok (.sipush 384, 3) := by decide +kernel
theorem d_Mo_install_65 : decode M_Mo_install.2.1 65 = .ok (.iload_n 1, 1) := by decide +kernel
theorem d_Mo_install_66 : decode M_Mo_install.2.1 66 = .ok (.bipush 64, 2) := by decide +kernel
theorem d_Mo_install_68 : decode M_Mo_install.2.1 68 = .ok (.imul, 1) := by decide +kernel
theorem d_Mo_install_69 : decode M_Mo_install.2.1 69 = .ok (.iadd, 1) := by decide +kernel
theorem d_Mo_install_70 : decode M_Mo_install.2.1 70 = .ok (.iload 4, 2) := by decide +kernel
theorem d_Mo_install_72 : decode M_Mo_install.2.1 72 = .ok (.iadd, 1) := by decide +kernel
theorem d_Mo_install_73 : decode M_Mo_install.2.1 73 = .ok (.aload_n 0, 1) := by decide +kernel
theorem d_Mo_install_74 : decode M_Mo_install.2.1 74 = .ok (.getfield 57, 3) := by decide +kernel
theorem d_Mo_install_77 : decode M_Mo_install.2.1 77 = .ok (.iload_n 1, 1) := by decide +kernel
theorem d_Mo_install_78 : decode M_Mo_install.2.1 78 = .ok (.bipush 64, 2) := by decide +kernel
theorem d_Mo_install_80 : decode M_Mo_install.2.1 80 = .ok (.imul, 1) := by decide +kernel
theorem d_Mo_install_81 : decode M_Mo_install.2.1 81 = .ok (.iload 4, 2) := by decide +kernel
theorem d_Mo_install_83 : decode M_Mo_install.2.1 83 = .ok (.iadd, 1) := by decide +kernel
theorem d_Mo_install_84 : decode M_Mo_install.2.1 84 = .ok (.iaload, 1) := by decide +kernel
theorem d_Mo_install_85 : decode M_Mo_install.2.1 85 = .ok (.iastore, 1) := by decide +kernel
theorem d_Mo_install_86 : decode M_Mo_install.2.1 86 = .ok (.iinc 4 1, 3) := by decide +kernel
theorem d_Mo_install_89 : decode M_Mo_install.2.1 89 = .ok (.goto (-38), 3) := by decide +kernel
theorem d_Mo_install_92 : decode M_Mo_install.2.1 92 = .ok (.aload_n 0, 1) := by decide +kernel
theorem d_Mo_install_93 : decode M_Mo_install.2.1 93 = .ok (.getfield 54, 3) := by decide +kernel
theorem d_Mo_install_96 : decode M_Mo_install.2.1 96 = .ok (.bipush 6, 2) := by decide +kernel
theorem d_Mo_install_98 : decode M_Mo_install.2.1 98 = .ok (.iload_n 1, 1) := by decide +kernel
theorem d_Mo_install_99 : decode M_Mo_install.2.1 99 = .ok (.iadd, 1) := by decide +kernel
theorem d_Mo_install_100 : decode M_Mo_install.2.1 100 = .ok (.iload_n 3, 1) := by decide +kernel
theorem d_Mo_install_101 : decode M_Mo_install.2.1 101 = .ok (.iastore, 1) := by decide +kernel
theorem d_Mo_install_102 : decode M_Mo_install.2.1 102 = .ok (.aload_n 0, 1) := by decide +kernel
theorem d_Mo_install_103 : decode M_Mo_install.2.1 103 = .ok (.getfield 60, 3) := by decide +kernel
theorem d_Mo_install_106 : decode M_Mo_install.2.1 106 = .ok (.aload_n 0, 1) := by decide +kernel
theorem d_Mo_install_107 : decode M_Mo_install.2.1 107 = .ok (.getfield 63, 3) := by decide +kernel
theorem d_Mo_install_110 : decode M_Mo_install.2.1 110 = .ok (.iload_n 1, 1) := by decide +kernel
theorem d_Mo_install_111 : decode M_Mo_install.2.1 111 = .ok (.iastore, 1) := by decide +kernel
theorem d_Mo_install_112 : decode M_Mo_install.2.1 112 = .ok (.aload_n 0, 1) := by decide +kernel
theorem d_Mo_install_113 : decode M_Mo_install.2.1 113 = .ok (.dup, 1) := by decide +kernel
theorem d_Mo_install_114 : decode M_Mo_install.2.1 114 = .ok (.getfield 63, 3) := by decide +kernel
theorem d_Mo_install_117 : decode M_Mo_install.2.1 117 = .ok (.iconst 1, 1) := by decide +kernel
theorem d_Mo_install_118 : decode M_Mo_install.2.1 118 = .ok (.iadd, 1) := by decide +kernel
theorem d_Mo_install_119 : decode M_Mo_install.2.1 119 = .ok (.putfield 63, 3) := by decide +kernel
theorem d_Mo_install_122 : decode M_Mo_install.2.1 122 = .ok (.iconst 0, 1) := by decide +kernel
theorem d_Mo_install_123 : decode M_Mo_install.2.1 123 = .ok (.ireturn, 1) := by decide +kernel
theorem d_Mo_sound_0 : decode M_Mo_sound.2.1 0 = .ok (.iconst 0, 1) := by decide +kernel
theorem d_Mo_sound_1 : decode M_Mo_sound.2.1 1 = .ok (.istore_n 2, 1) := by decide +kernel
theorem d_Mo_sound_2 : decode M_Mo_sound.2.1 2 = .ok (.iload_n 2, 1) := by decide +kernel
theorem d_Mo_sound_3 : decode M_Mo_sound.2.1 3 = .ok (.aload_n 0, 1) := by decide +kernel
theorem d_Mo_sound_4 : decode M_Mo_sound.2.1 4 = .ok (.getfield 54, 3) := by decide +kernel
theorem d_Mo_sound_7 : decode M_Mo_sound.2.1 7 = .ok (.iload_n 1, 1) := by decide +kernel
theorem d_Mo_sound_8 : decode M_Mo_sound.2.1 8 = .ok (.iaload, 1) := by decide +kernel
theorem d_Mo_sound_9 : decode M_Mo_sound.2.1 9 = .ok (.if_icmp .ge 105, 3) := by decide +kernel
theorem d_Mo_sound_12 : decode M_Mo_sound.2.1 12 = .ok (.iload_n 1, 1) := by decide +kernel
theorem d_Mo_sound_13 : decode M_Mo_sound.2.1 13 = .ok (.bipush 64, 2) := by decide +kernel
theorem d_Mo_sound_15 : decode M_Mo_sound.2.1 15 = .ok (.imul, 1) := by decide +kernel
theorem d_Mo_sound_16 : decode M_Mo_sound.2.1 16 = .ok (.iload_n 2, 1) := by decide +kernel
theorem d_Mo_sound_17 : decode M_Mo_sound.2.1 17 = .ok (.iconst 4, 1) := by decide +kernel
theorem d_Mo_sound_18 : decode M_Mo_sound.2.1 18 = .ok (.imul, 1) := by decide +kernel
theorem d_Mo_sound_19 : decode M_Mo_sound.2.1 19 = .ok (.iadd, 1) := by decide +kernel
theorem d_Mo_sound_20 : decode M_Mo_sound.2.1 20 = .ok (.istore_n 3, 1) := by decide +kernel
theorem d_Mo_sound_21 : decode M_Mo_sound.2.1 21 = .ok (.aload_n 0, 1) := by decide +kernel
theorem d_Mo_sound_22 : decode M_Mo_sound.2.1 22 = .ok (.getfield 57, 3) := by decide +kernel
theorem d_Mo_sound_25 : decode M_Mo_sound.2.1 25 = .ok (.iload_n 3, 1) := by decide +kernel
theorem d_Mo_sound_26 : decode M_Mo_sound.2.1 26 = .ok (.iaload, 1) := by decide +kernel
theorem d_Mo_sound_27 : decode M_Mo_sound.2.1 27 = .ok (.istore 4, 2) := by decide +kernel
theorem d_Mo_sound_29 : decode M_Mo_sound.2.1 29 = .ok (.iload 4, 2) := by decide +kernel
theorem d_Mo_sound_31 : decode M_Mo_sound.2.1 31 = .ok (.bipush 7, 2) := by decide +kernel
theorem d_Mo_sound_33 : decode M_Mo_sound.2.1 33 = .ok (.if_icmp .ge 17, 3) := by decide +kernel
theorem d_Mo_sound_36 : decode M_Mo_sound.2.1 36 = .ok (.iload_n 2, 1) := by decide +kernel
theorem d_Mo_sound_37 : decode M_Mo_sound.2.1 37 = .ok (.iconst 1, 1) := by decide +kernel
theorem d_Mo_sound_38 : decode M_Mo_sound.2.1 38 = .ok (.iadd, 1) := by decide +kernel
theorem d_Mo_sound_39 : decode M_Mo_sound.2.1 39 = .ok (.aload_n 0, 1) := by decide +kernel
theorem d_Mo_sound_40 : decode M_Mo_sound.2.1 40 = .ok (.getfield 54, 3) := by decide +kernel
theorem d_Mo_sound_43 : decode M_Mo_sound.2.1 43 = .ok (.iload_n 1, 1) := by decide +kernel
theorem d_Mo_sound_44 : decode M_Mo_sound.2.1 44 = .ok (.iaload, 1) := by decide +kernel
theorem d_Mo_sound_45 : decode M_Mo_sound.2.1 45 = .ok (.if_icmp .lt 5, 3) := by decide +kernel
theorem d_Mo_sound_48 : decode M_Mo_sound.2.1 48 = .ok (.iconst 0, 1) := by decide +kernel
theorem d_Mo_sound_49 : decode M_Mo_sound.2.1 49 = .ok (.ireturn, 1) := by decide +kernel
theorem d_Mo_sound_50 : decode M_Mo_sound.2.1 50 = .ok (.iload 4, 2) := by decide +kernel
theorem d_Mo_sound_52 : decode M_Mo_sound.2.1 52 = .ok (.bipush 6, 2) := by decide +kernel
theorem d_Mo_sound_54 : decode M_Mo_sound.2.1 54 = .ok (.if_icmp .le 54, 3) := by decide +kernel
theorem d_Mo_sound_57 : decode M_Mo_sound.2.1 57 = .ok (.iload 4, 2) := by decide +kernel
theorem d_Mo_sound_59 : decode M_Mo_sound.2.1 59 = .ok (.bipush 10, 2) := by decide +kernel
theorem d_Mo_sound_61 : decode M_Mo_sound.2.1 61 = .ok (.if_icmp .ge 47, 3) := by decide +kernel
theorem d_Mo_sound_64 : decode M_Mo_sound.2.1 64 = .ok (.iload_n 2, 1) := by decide +kernel
theorem d_Mo_sound_65 : decode M_Mo_sound.2.1 65 = .ok (.iconst 1, 1) := by decide +kernel
theorem d_Mo_sound_66 : decode M_Mo_sound.2.1 66 = .ok (.iadd, 1) := by decide +kernel
theorem d_Mo_sound_67 : decode M_Mo_sound.2.1 67 = .ok (.aload_n 0, 1) := by decide +kernel
theorem d_Mo_sound_68 : decode M_Mo_sound.2.1 68 = .ok (.getfield 57, 3) := by decide +kernel
theorem d_Mo_sound_71 : decode M_Mo_sound.2.1 71 = .ok (.iload_n 3, 1) := by decide +kernel
theorem d_Mo_sound_72 : decode M_Mo_sound.2.1 72 = .ok (.iconst 2, 1) := by decide +kernel
theorem d_Mo_sound_73 : decode M_Mo_sound.2.1 73 = .ok (.iadd, 1) := by decide +kernel
theorem d_Mo_sound_74 : decode M_Mo_sound.2.1 74 = .ok (.iaload, 1) := by decide +kernel
theorem d_Mo_sound_75 : decode M_Mo_sound.2.1 75 = .ok (.iadd, 1) := by decide +kernel
theorem d_Mo_sound_76 : decode M_Mo_sound.2.1 76 = .ok (.aload_n 0, 1) := by decide +kernel
theorem d_Mo_sound_77 : decode M_Mo_sound.2.1 77 = .ok (.getfield 54, 3) := by decide +kernel
theorem d_Mo_sound_80 : decode M_Mo_sound.2.1 80 = .ok (.iload_n 1, 1) := by decide +kernel
theorem d_Mo_sound_81 : decode M_Mo_sound.2.1 81 = .ok (.iaload, 1) := by decide +kernel
theorem d_Mo_sound_82 : decode M_Mo_sound.2.1 82 = .ok (.if_icmp .ge 24, 3) := by decide +kernel
theorem d_Mo_sound_85 : decode M_Mo_sound.2.1 85 = .ok (.iload_n 2, 1) := by decide +kernel
theorem d_Mo_sound_86 : decode M_Mo_sound.2.1 86 = .ok (.iconst 1, 1) := by decide +kernel
theorem d_Mo_sound_87 : decode M_Mo_sound.2.1 87 = .ok (.iadd, 1) := by decide +kernel
theorem d_Mo_sound_88 : decode M_Mo_sound.2.1 88 = .ok (.aload_n 0, 1) := by decide +kernel
theorem d_Mo_sound_89 : decode M_Mo_sound.2.1 89 = .ok (.getfield 57, 3) := by decide +kernel
theorem d_Mo_sound_92 : decode M_Mo_sound.2.1 92 = .ok (.iload_n 3, 1) := by decide +kernel
theorem d_Mo_sound_93 : decode M_Mo_sound.2.1 93 = .ok (.iconst 3, 1) := by decide +kernel
theorem d_Mo_sound_94 : decode M_Mo_sound.2.1 94 = .ok (.iadd, 1) := by decide +kernel
theorem d_Mo_sound_95 : decode M_Mo_sound.2.1 95 = .ok (.iaload, 1) := by decide +kernel
theorem d_Mo_sound_96 : decode M_Mo_sound.2.1 96 = .ok (.iadd, 1) := by decide +kernel
theorem d_Mo_sound_97 : decode M_Mo_sound.2.1 97 = .ok (.aload_n 0, 1) := by decide +kernel
theorem d_Mo_sound_98 : decode M_Mo_sound.2.1 98 = .ok (.getfield 54, 3) := by decide +kernel
theorem d_Mo_sound_101 : decode M_Mo_sound.2.1 101 = .ok (.iload_n 1, 1) := by decide +kernel
theorem d_Mo_sound_102 : decode M_Mo_sound.2.1 102 = .ok (.iaload, 1) := by decide +kernel
theorem d_Mo_sound_103 : decode M_Mo_sound.2.1 103 = .ok (.if_icmp .lt 5, 3) := by decide +kernel
theorem d_Mo_sound_106 : decode M_Mo_sound.2.1 106 = .ok (.iconst 0, 1) := by decide +kernel
theorem d_Mo_sound_107 : decode M_Mo_sound.2.1 107 = .ok (.ireturn, 1) := by decide +kernel
theorem d_Mo_sound_108 : decode M_Mo_sound.2.1 108 = .ok (.iinc 2 1, 3) := by decide +kernel
theorem d_Mo_sound_111 : decode M_Mo_sound.2.1 111 = .ok (.goto (-109), 3) := by decide +kernel
theorem d_Mo_sound_114 : decode M_Mo_sound.2.1 114 = .ok (.iconst 1, 1) := by decide +kernel
theorem d_Mo_sound_115 : decode M_Mo_sound.2.1 115 = .ok (.ireturn, 1) := by decide +kernel
theorem d_Mo_push_0 : decode M_Mo_push.2.1 0 = .ok (.aload_n 0, 1) := by decide +kernel
theorem d_Mo_push_1 : decode M_Mo_push.2.1 1 = .ok (.iload_n 1, 1) := by decide +kernel
theorem d_Mo_push_2 : decode M_Mo_push.2.1 2 = .ok (.sipush 256, 3) := by decide +kernel
theorem d_Mo_push_5 : decode M_Mo_push.2.1 5 = .ok (.invokevirtual 111, 3) := by decide +kernel
theorem d_Mo_push_8 : decode M_Mo_push.2.1 8 = .ok (.ifCond .eq 5, 3) := by decide +kernel
theorem d_Mo_push_11 : decode M_Mo_push.2.1 11 = .ok (.iconst (-1), 1) := by decide +kernel
theorem d_Mo_push_12 : decode M_Mo_push.2.1 12 = .ok (.ireturn, 1) := by decide +kernel
theorem d_Mo_push_13 : decode M_Mo_push.2.1 13 = .ok (.aload_n 0, 1) := by decide +kernel
theorem d_Mo_push_14 : decode M_Mo_push.2.1 14 = .ok (.getfield 66, 3) := by decide +kernel
theorem d_Mo_push_17 : decode M_Mo_push.2.1 17 = .ok (.bipush 16, 2) := by decide +kernel
theorem d_Mo_push_19 : decode M_Mo_push.2.1 19 = .ok (.if_icmp .ne 6, 3) := by decide +kernel
theorem d_Mo_push_22 : decode M_Mo_push.2.1 22 = .ok (.bipush (-2), 2) := by decide +kernel
theorem d_Mo_push_24 : decode M_Mo_push.2.1 24 = .ok (.ireturn, 1) := by decide +kernel
theorem d_Mo_push_25 : decode M_Mo_push.2.1 25 = .ok (.aload_n 0, 1) := by decide +kernel
theorem d_Mo_push_26 : decode M_Mo_push.2.1 26 = .ok (.getfield 69, 3) := by decide +kernel
theorem d_Mo_push_29 : decode M_Mo_push.2.1 29 = .ok (.aload_n 0, 1) := by decide +kernel
theorem d_Mo_push_30 : decode M_Mo_push.2.1 30 = .ok (.getfield 66, 3) := by decide +kernel
theorem d_Mo_push_33 : decode M_Mo_push.2.1 33 = .ok (.iload_n 1, 1) := by decide +kernel
theorem d_Mo_push_34 : decode M_Mo_push.2.1 34 = .ok (.iastore, 1) := by decide +kernel
theorem d_Mo_push_35 : decode M_Mo_push.2.1 35 = .ok (.aload_n 0, 1) := by decide +kernel
theorem d_Mo_push_36 : decode M_Mo_push.2.1 36 = .ok (.dup, 1) := by decide +kernel
theorem d_Mo_push_37 : decode M_Mo_push.2.1 37 = .ok (.getfield 66, 3) := by decide +kernel
theorem d_Mo_push_40 : decode M_Mo_push.2.1 40 = .ok (.iconst 1, 1) := by decide +kernel
theorem d_Mo_push_41 : decode M_Mo_push.2.1 41 = .ok (.iadd, 1) := by decide +kernel
theorem d_Mo_push_42 : decode M_Mo_push.2.1 42 = .ok (.putfield 66, 3) := by decide +kernel
theorem d_Mo_push_45 : decode M_Mo_push.2.1 45 = .ok (.aload_n 0, 1) := by decide +kernel
theorem d_Mo_push_46 : decode M_Mo_push.2.1 46 = .ok (.getfield 66, 3) := by decide +kernel
theorem d_Mo_push_49 : decode M_Mo_push.2.1 49 = .ok (.ireturn, 1) := by decide +kernel
theorem d_Mo_arrive_0 : decode M_Mo_arrive.2.1 0 = .ok (.iconst (-1), 1) := by decide +kernel
theorem d_Mo_arrive_1 : decode M_Mo_arrive.2.1 1 = .ok (.istore_n 1, 1) := by decide +kernel
theorem d_Mo_arrive_2 : decode M_Mo_arrive.2.1 2 = .ok (.iconst 0, 1) := by decide +kernel
theorem d_Mo_arrive_3 : decode M_Mo_arrive.2.1 3 = .ok (.istore_n 2, 1) := by decide +kernel
theorem d_Mo_arrive_4 : decode M_Mo_arrive.2.1 4 = .ok (.iload_n 2, 1) := by decide +kernel
theorem d_Mo_arrive_5 : decode M_Mo_arrive.2.1 5 = .ok (.aload_n 0, 1) := by decide +kernel
theorem d_Mo_arrive_6 : decode M_Mo_arrive.2.1 6 = .ok (.getfield 63, 3) := by decide +kernel
theorem d_Mo_arrive_9 : decode M_Mo_arrive.2.1 9 = .ok (.if_icmp .ge 33, 3) := by decide +kernel
theorem d_Mo_arrive_12 : decode M_Mo_arrive.2.1 12 = .ok (.iload_n 1, 1) := by decide +kernel
theorem d_Mo_arrive_13 : decode M_Mo_arrive.2.1 13 = .ok (.ifCond .ge 29, 3) := by decide +kernel
theorem d_Mo_arrive_16 : decode M_Mo_arrive.2.1 16 = .ok (.aload_n 0, 1) := by decide +kernel
theorem d_Mo_arrive_17 : decode M_Mo_arrive.2.1 17 = .ok (.aload_n 0, 1) := by decide +kernel
theorem d_Mo_arrive_18 : decode M_Mo_arrive.2.1 18 = .ok (.getfield 60, 3) := by decide +kernel
theorem d_Mo_arrive_21 : decode M_Mo_arrive.2.1 21 = .ok (.iload_n 2, 1) := by decide +kernel
theorem d_Mo_arrive_22 : decode M_Mo_arrive.2.1 22 = .ok (.iaload, 1) := by decide +kernel
theorem d_Mo_arrive_23 : decode M_Mo_arrive.2.1 23 = .ok (.invokevirtual 145, 3) := by decide +kernel
theorem d_Mo_arrive_26 : decode M_Mo_arrive.2.1 26 = .ok (.ifCond .eq 10, 3) := by decide +kernel
theorem d_Mo_arrive_29 : decode M_Mo_arrive.2.1 29 = .ok (.aload_n 0, 1) := by decide +kernel
theorem d_Mo_arrive_30 : decode M_Mo_arrive.2.1 30 = .ok (.getfield 60, 3) := by decide +kernel
theorem d_Mo_arrive_33 : decode M_Mo_arrive.2.1 33 = .ok (.iload_n 2, 1) := by decide +kernel
theorem d_Mo_arrive_34 : decode M_Mo_arrive.2.1 34 = .ok (.iaload, 1) := by decide +kernel
theorem d_Mo_arrive_35 : decode M_Mo_arrive.2.1 35 = .ok (.istore_n 1, 1) := by decide +kernel
theorem d_Mo_arrive_36 : decode M_Mo_arrive.2.1 36 = .ok (.iinc 2 1, 3) := by decide +kernel
theorem d_Mo_arrive_39 : decode M_Mo_arrive.2.1 39 = .ok (.goto (-35), 3) := by decide +kernel
theorem d_Mo_arrive_42 : decode M_Mo_arrive.2.1 42 = .ok (.aload_n 0, 1) := by decide +kernel
theorem d_Mo_arrive_43 : decode M_Mo_arrive.2.1 43 = .ok (.getfield 66, 3) := by decide +kernel
theorem d_Mo_arrive_46 : decode M_Mo_arrive.2.1 46 = .ok (.istore_n 2, 1) := by decide +kernel
theorem d_Mo_arrive_47 : decode M_Mo_arrive.2.1 47 = .ok (.aload_n 0, 1) := by decide +kernel
theorem d_Mo_arrive_48 : decode M_Mo_arrive.2.1 48 = .ok (.iconst 0, 1) := by decide +kernel
theorem d_Mo_arrive_49 : decode M_Mo_arrive.2.1 49 = .ok (.putfield 66, 3) := by decide +kernel
theorem d_Mo_arrive_52 : decode M_Mo_arrive.2.1 52 = .ok (.iload_n 1, 1) := by decide +kernel
theorem d_Mo_arrive_53 : decode M_Mo_arrive.2.1 53 = .ok (.ifCond .ge 5, 3) := by decide +kernel
theorem d_Mo_arrive_56 : decode M_Mo_arrive.2.1 56 = .ok (.iconst (-1), 1) := by decide +kernel
theorem d_Mo_arrive_57 : decode M_Mo_arrive.2.1 57 = .ok (.ireturn, 1) := by decide +kernel
theorem d_Mo_arrive_58 : decode M_Mo_arrive.2.1 58 = .ok (.aload_n 0, 1) := by decide +kernel
theorem d_Mo_arrive_59 : decode M_Mo_arrive.2.1 59 = .ok (.getfield 72, 3) := by decide +kernel
theorem d_Mo_arrive_62 : decode M_Mo_arrive.2.1 62 = .ok (.iload_n 1, 1) := by decide +kernel
theorem d_Mo_arrive_63 : decode M_Mo_arrive.2.1 63 = .ok (.iaload, 1) := by decide +kernel
theorem d_Mo_arrive_64 : decode M_Mo_arrive.2.1 64 = .ok (.iconst 4, 1) := by decide +kernel
theorem d_Mo_arrive_65 : decode M_Mo_arrive.2.1 65 = .ok (.if_icmp .ne 16, 3) := by decide +kernel
theorem d_Mo_arrive_68 : decode M_Mo_arrive.2.1 68 = .ok (.aload_n 0, 1) := by decide +kernel
theorem d_Mo_arrive_69 : decode M_Mo_arrive.2.1 69 = .ok (.dup, 1) := by decide +kernel
theorem d_Mo_arrive_70 : decode M_Mo_arrive.2.1 70 = .ok (.getfield 30, 3) := by decide +kernel
theorem d_Mo_arrive_73 : decode M_Mo_arrive.2.1 73 = .ok (.iconst 1, 1) := by decide +kernel
theorem d_Mo_arrive_74 : decode M_Mo_arrive.2.1 74 = .ok (.iadd, 1) := by decide +kernel
theorem d_Mo_arrive_75 : decode M_Mo_arrive.2.1 75 = .ok (.putfield 30, 3) := by decide +kernel
theorem d_Mo_arrive_78 : decode M_Mo_arrive.2.1 78 = .ok (.bipush (-6), 2) := by decide +kernel
theorem d_Mo_arrive_80 : decode M_Mo_arrive.2.1 80 = .ok (.ireturn, 1) := by decide +kernel
theorem d_Mo_arrive_81 : decode M_Mo_arrive.2.1 81 = .ok (.iload_n 1, 1) := by decide +kernel
theorem d_Mo_arrive_82 : decode M_Mo_arrive.2.1 82 = .ok (.iconst 4, 1) := by decide +kernel
theorem d_Mo_arrive_83 : decode M_Mo_arrive.2.1 83 = .ok (.imul, 1) := by decide +kernel
theorem d_Mo_arrive_84 : decode M_Mo_arrive.2.1 84 = .ok (.aload_n 0, 1) := by decide +kernel
theorem d_Mo_arrive_85 : decode M_Mo_arrive.2.1 85 = .ok (.getfield 72, 3) := by decide +kernel
theorem d_Mo_arrive_88 : decode M_Mo_arrive.2.1 88 = .ok (.iload_n 1, 1) := by decide +kernel
theorem d_Mo_arrive_89 : decode M_Mo_arrive.2.1 89 = .ok (.iaload, 1) := by decide +kernel
theorem d_Mo_arrive_90 : decode M_Mo_arrive.2.1 90 = .ok (.iadd, 1) := by decide +kernel
theorem d_Mo_arrive_91 : decode M_Mo_arrive.2.1 91 = .ok (.istore_n 3, 1) := by decide +kernel
theorem d_Mo_arrive_92 : decode M_Mo_arrive.2.1 92 = .ok (.aload_n 0, 1) := by decide +kernel
theorem d_Mo_arrive_93 : decode M_Mo_arrive.2.1 93 = .ok (.getfield 75, 3) := by decide +kernel
theorem d_Mo_arrive_96 : decode M_Mo_arrive.2.1 96 = .ok (.iload_n 3, 1) := by decide +kernel
theorem d_Mo_arrive_97 : decode M_Mo_arrive.2.1 97 = .ok (.iload_n 2, 1) := by decide +kernel
theorem d_Mo_arrive_98 : decode M_Mo_arrive.2.1 98 = .ok (.iastore, 1) := by decide +kernel
theorem d_Mo_arrive_99 : decode M_Mo_arrive.2.1 99 = .ok (.iconst 0, 1) := by decide +kernel
theorem d_Mo_arrive_100 : decode M_Mo_arrive.2.1 100 = .ok (.istore 4, 2) := by decide +kernel
theorem d_Mo_arrive_102 : decode M_Mo_arrive.2.1 102 = .ok (.iload 4, 2) := by decide +kernel
theorem d_Mo_arrive_104 : decode M_Mo_arrive.2.1 104 = .ok (.iload_n 2, 1) := by decide +kernel
theorem d_Mo_arrive_105 : decode M_Mo_arrive.2.1 105 = .ok (.if_icmp .ge 28, 3) := by decide +kernel
theorem d_Mo_arrive_108 : decode M_Mo_arrive.2.1 108 = .ok (.aload_n 0, 1) := by decide +kernel
theorem d_Mo_arrive_109 : decode M_Mo_arrive.2.1 109 = .ok (.getfield 78, 3) := by decide +kernel
theorem d_Mo_arrive_112 : decode M_Mo_arrive.2.1 112 = .ok (.iload_n 3, 1) := by decide +kernel
theorem d_Mo_arrive_113 : decode M_Mo_arrive.2.1 113 = .ok (.bipush 16, 2) := by decide +kernel
theorem d_Mo_arrive_115 : decode M_Mo_arrive.2.1 115 = .ok (.imul, 1) := by decide +kernel
theorem d_Mo_arrive_116 : decode M_Mo_arrive.2.1 116 = .ok (.iload 4, 2) := by decide +kernel
theorem d_Mo_arrive_118 : decode M_Mo_arrive.2.1 118 = .ok (.iadd, 1) := by decide +kernel
theorem d_Mo_arrive_119 : decode M_Mo_arrive.2.1 119 = .ok (.aload_n 0, 1) := by decide +kernel
theorem d_Mo_arrive_120 : decode M_Mo_arrive.2.1 120 = .ok (.getfield 69, 3) := by decide +kernel
theorem d_Mo_arrive_123 : decode M_Mo_arrive.2.1 123 = .ok (.iload 4, 2) := by decide +kernel
theorem d_Mo_arrive_125 : decode M_Mo_arrive.2.1 125 = .ok (.iaload, 1) := by decide +kernel
theorem d_Mo_arrive_126 : decode M_Mo_arrive.2.1 126 = .ok (.iastore, 1) := by decide +kernel
theorem d_Mo_arrive_127 : decode M_Mo_arrive.2.1 127 = .ok (.iinc 4 1, 3) := by decide +kernel
theorem d_Mo_arrive_130 : decode M_Mo_arrive.2.1 130 = .ok (.goto (-28), 3) := by decide +kernel
theorem d_Mo_arrive_133 : decode M_Mo_arrive.2.1 133 = .ok (.aload_n 0, 1) := by decide +kernel
theorem d_Mo_arrive_134 : decode M_Mo_arrive.2.1 134 = .ok (.getfield 72, 3) := by decide +kernel
theorem d_Mo_arrive_137 : decode M_Mo_arrive.2.1 137 = .ok (.iload_n 1, 1) := by decide +kernel
theorem d_Mo_arrive_138 : decode M_Mo_arrive.2.1 138 = .ok (.dup2, 1) := by decide +kernel
theorem d_Mo_arrive_139 : decode M_Mo_arrive.2.1 139 = .ok (.iaload, 1) := by decide +kernel
theorem d_Mo_arrive_140 : decode M_Mo_arrive.2.1 140 = .ok (.iconst 1, 1) := by decide +kernel
theorem d_Mo_arrive_141 : decode M_Mo_arrive.2.1 141 = .ok (.iadd, 1) := by decide +kernel
theorem d_Mo_arrive_142 : decode M_Mo_arrive.2.1 142 = .ok (.iastore, 1) := by decide +kernel
theorem d_Mo_arrive_143 : decode M_Mo_arrive.2.1 143 = .ok (.iload_n 1, 1) := by decide +kernel
theorem d_Mo_arrive_144 : decode M_Mo_arrive.2.1 144 = .ok (.ireturn, 1) := by decide +kernel
theorem d_Mo_accepts_0 : decode M_Mo_accepts.2.1 0 = .ok (.aload_n 0, 1) := by decide +kernel
theorem d_Mo_accepts_1 : decode M_Mo_accepts.2.1 1 = .ok (.iconst 0, 1) := by decide +kernel
theorem d_Mo_accepts_2 : decode M_Mo_accepts.2.1 2 = .ok (.putfield 81, 3) := by decide +kernel
theorem d_Mo_accepts_5 : decode M_Mo_accepts.2.1 5 = .ok (.aload_n 0, 1) := by decide +kernel
theorem d_Mo_accepts_6 : decode M_Mo_accepts.2.1 6 = .ok (.iconst 0, 1) := by decide +kernel
theorem d_Mo_accepts_7 : decode M_Mo_accepts.2.1 7 = .ok (.putfield 84, 3) := by decide +kernel
theorem d_Mo_accepts_10 : decode M_Mo_accepts.2.1 10 = .ok (.iconst 0, 1) := by decide +kernel
theorem d_Mo_accepts_11 : decode M_Mo_accepts.2.1 11 = .ok (.istore_n 2, 1) := by decide +kernel
theorem d_Mo_accepts_12 : decode M_Mo_accepts.2.1 12 = .ok (.iload_n 2, 1) := by decide +kernel
theorem d_Mo_accepts_13 : decode M_Mo_accepts.2.1 13 = .ok (.bipush 16, 2) := by decide +kernel
theorem d_Mo_accepts_15 : decode M_Mo_accepts.2.1 15 = .ok (.if_icmp .ge 186, 3) := by decide +kernel
theorem d_Mo_accepts_18 : decode M_Mo_accepts.2.1 18 = .ok (.sipush 384, 3) := by decide +kernel
theorem d_Mo_accepts_21 : decode M_Mo_accepts.2.1 21 = .ok (.iload_n 1, 1) := by decide +kernel
theorem d_Mo_accepts_22 : decode M_Mo_accepts.2.1 22 = .ok (.bipush 64, 2) := by decide +kernel
theorem d_Mo_accepts_24 : decode M_Mo_accepts.2.1 24 = .ok (.imul, 1) := by decide +kernel
theorem d_Mo_accepts_25 : decode M_Mo_accepts.2.1 25 = .ok (.iadd, 1) := by decide +kernel
theorem d_Mo_accepts_26 : decode M_Mo_accepts.2.1 26 = .ok (.iload_n 2, 1) := by decide +kernel
theorem d_Mo_accepts_27 : decode M_Mo_accepts.2.1 27 = .ok (.iconst 4, 1) := by decide +kernel
theorem d_Mo_accepts_28 : decode M_Mo_accepts.2.1 28 = .ok (.imul, 1) := by decide +kernel
theorem d_Mo_accepts_29 : decode M_Mo_accepts.2.1 29 = .ok (.iadd, 1) := by decide +kernel
theorem d_Mo_accepts_30 : decode M_Mo_accepts.2.1 30 = .ok (.istore_n 3, 1) := by decide +kernel
theorem d_Mo_accepts_31 : decode M_Mo_accepts.2.1 31 = .ok (.aload_n 0, 1) := by decide +kernel
theorem d_Mo_accepts_32 : decode M_Mo_accepts.2.1 32 = .ok (.getfield 57, 3) := by decide +kernel
theorem d_Mo_accepts_35 : decode M_Mo_accepts.2.1 35 = .ok (.iload_n 3, 1) := by decide +kernel
theorem d_Mo_accepts_36 : decode M_Mo_accepts.2.1 36 = .ok (.iaload, 1) := by decide +kernel
theorem d_Mo_accepts_37 : decode M_Mo_accepts.2.1 37 = .ok (.istore 4, 2) := by decide +kernel
theorem d_Mo_accepts_39 : decode M_Mo_accepts.2.1 39 = .ok (.aload_n 0, 1) := by decide +kernel
theorem d_Mo_accepts_40 : decode M_Mo_accepts.2.1 40 = .ok (.getfield 57, 3) := by decide +kernel
theorem d_Mo_accepts_43 : decode M_Mo_accepts.2.1 43 = .ok (.iload_n 3, 1) := by decide +kernel
theorem d_Mo_accepts_44 : decode M_Mo_accepts.2.1 44 = .ok (.iconst 1, 1) := by decide +kernel
theorem d_Mo_accepts_45 : decode M_Mo_accepts.2.1 45 = .ok (.iadd, 1) := by decide +kernel
theorem d_Mo_accepts_46 : decode M_Mo_accepts.2.1 46 = .ok (.iaload, 1) := by decide +kernel
theorem d_Mo_accepts_47 : decode M_Mo_accepts.2.1 47 = .ok (.istore 5, 2) := by decide +kernel
theorem d_Mo_accepts_49 : decode M_Mo_accepts.2.1 49 = .ok (.iload 4, 2) := by decide +kernel
theorem d_Mo_accepts_51 : decode M_Mo_accepts.2.1 51 = .ok (.bipush 10, 2) := by decide +kernel
theorem d_Mo_accepts_53 : decode M_Mo_accepts.2.1 53 = .ok (.if_icmp .ne 14, 3) := by decide +kernel
theorem d_Mo_accepts_56 : decode M_Mo_accepts.2.1 56 = .ok (.iload 5, 2) := by decide +kernel
theorem d_Mo_accepts_58 : decode M_Mo_accepts.2.1 58 = .ok (.ifCond .eq 7, 3) := by decide +kernel
theorem d_Mo_accepts_61 : decode M_Mo_accepts.2.1 61 = .ok (.iconst 1, 1) := by decide +kernel
theorem d_Mo_accepts_62 : decode M_Mo_accepts.2.1 62 = .ok (.goto 4, 3) := by decide +kernel
theorem d_Mo_accepts_65 : decode M_Mo_accepts.2.1 65 = .ok (.iconst 0, 1) := by decide +kernel
theorem d_Mo_accepts_66 : decode M_Mo_accepts.2.1 66 = .ok (.ireturn, 1) := by decide +kernel
theorem d_Mo_accepts_67 : decode M_Mo_accepts.2.1 67 = .ok (.iload 4, 2) := by decide +kernel
theorem d_Mo_accepts_69 : decode M_Mo_accepts.2.1 69 = .ok (.bipush 11, 2) := by decide +kernel
theorem d_Mo_accepts_71 : decode M_Mo_accepts.2.1 71 = .ok (.if_icmp .ne 16, 3) := by decide +kernel
theorem d_Mo_accepts_74 : decode M_Mo_accepts.2.1 74 = .ok (.aload_n 0, 1) := by decide +kernel
theorem d_Mo_accepts_75 : decode M_Mo_accepts.2.1 75 = .ok (.getfield 81, 3) := by decide +kernel
theorem d_Mo_accepts_78 : decode M_Mo_accepts.2.1 78 = .ok (.ifCond .eq 7, 3) := by decide +kernel
theorem d_Mo_accepts_81 : decode M_Mo_accepts.2.1 81 = .ok (.iconst 1, 1) := by decide +kernel
theorem d_Mo_accepts_82 : decode M_Mo_accepts.2.1 82 = .ok (.goto 4, 3) := by decide +kernel
theorem d_Mo_accepts_85 : decode M_Mo_accepts.2.1 85 = .ok (.iconst 0, 1) := by decide +kernel
theorem d_Mo_accepts_86 : decode M_Mo_accepts.2.1 86 = .ok (.ireturn, 1) := by decide +kernel
theorem d_Mo_accepts_87 : decode M_Mo_accepts.2.1 87 = .ok (.iload 4, 2) := by decide +kernel
theorem d_Mo_accepts_89 : decode M_Mo_accepts.2.1 89 = .ok (.bipush 7, 2) := by decide +kernel
theorem d_Mo_accepts_91 : decode M_Mo_accepts.2.1 91 = .ok (.if_icmp .ne 20, 3) := by decide +kernel
theorem d_Mo_accepts_94 : decode M_Mo_accepts.2.1 94 = .ok (.aload_n 0, 1) := by decide +kernel
theorem d_Mo_accepts_95 : decode M_Mo_accepts.2.1 95 = .ok (.getfield 81, 3) := by decide +kernel
theorem d_Mo_accepts_98 : decode M_Mo_accepts.2.1 98 = .ok (.iload 5, 2) := by decide +kernel
theorem d_Mo_accepts_100 : decode M_Mo_accepts.2.1 100 = .ok (.if_icmp .ne 7, 3) := by decide +kernel
theorem d_Mo_accepts_103 : decode M_Mo_accepts.2.1 103 = .ok (.iconst 1, 1) := by decide +kernel
theorem d_Mo_accepts_104 : decode M_Mo_accepts.2.1 104 = .ok (.goto 46, 3) := by decide +kernel
theorem d_Mo_accepts_107 : decode M_Mo_accepts.2.1 107 = .ok (.iconst 0, 1) := by decide +kernel
theorem d_Mo_accepts_108 : decode M_Mo_accepts.2.1 108 = .ok (.goto 42, 3) := by decide +kernel
theorem d_Mo_accepts_111 : decode M_Mo_accepts.2.1 111 = .ok (.iload 4, 2) := by decide +kernel
theorem d_Mo_accepts_113 : decode M_Mo_accepts.2.1 113 = .ok (.bipush 8, 2) := by decide +kernel
theorem d_Mo_accepts_115 : decode M_Mo_accepts.2.1 115 = .ok (.if_icmp .ne 20, 3) := by decide +kernel
theorem d_Mo_accepts_118 : decode M_Mo_accepts.2.1 118 = .ok (.aload_n 0, 1) := by decide +kernel
theorem d_Mo_accepts_119 : decode M_Mo_accepts.2.1 119 = .ok (.getfield 81, 3) := by decide +kernel
theorem d_Mo_accepts_122 : decode M_Mo_accepts.2.1 122 = .ok (.iload 5, 2) := by decide +kernel
theorem d_Mo_accepts_124 : decode M_Mo_accepts.2.1 124 = .ok (.if_icmp .le 7, 3) := by decide +kernel
theorem d_Mo_accepts_127 : decode M_Mo_accepts.2.1 127 = .ok (.iconst 1, 1) := by decide +kernel
theorem d_Mo_accepts_128 : decode M_Mo_accepts.2.1 128 = .ok (.goto 22, 3) := by decide +kernel
theorem d_Mo_accepts_131 : decode M_Mo_accepts.2.1 131 = .ok (.iconst 0, 1) := by decide +kernel
theorem d_Mo_accepts_132 : decode M_Mo_accepts.2.1 132 = .ok (.goto 18, 3) := by decide +kernel
theorem d_Mo_accepts_135 : decode M_Mo_accepts.2.1 135 = .ok (.aload_n 0, 1) := by decide +kernel
theorem d_Mo_accepts_136 : decode M_Mo_accepts.2.1 136 = .ok (.getfield 81, 3) := by decide +kernel
theorem d_Mo_accepts_139 : decode M_Mo_accepts.2.1 139 = .ok (.iload 5, 2) := by decide +kernel
theorem d_Mo_accepts_141 : decode M_Mo_accepts.2.1 141 = .ok (.iand, 1) := by decide +kernel
theorem d_Mo_accepts_142 : decode M_Mo_accepts.2.1 142 = .ok (.ifCond .eq 7, 3) := by decide +kernel
theorem d_Mo_accepts_145 : decode M_Mo_accepts.2.1 145 = .ok (.iconst 1, 1) := by decide +kernel
theorem d_Mo_accepts_146 : decode M_Mo_accepts.2.1 146 = .ok (.goto 4, 3) := by decide +kernel
theorem d_Mo_accepts_149 : decode M_Mo_accepts.2.1 149 = .ok (.iconst 0, 1) := by decide +kernel
theorem d_Mo_accepts_150 : decode M_Mo_accepts.2.1 150 = .ok (.istore 6, 2) := by decide +kernel
theorem d_Mo_accepts_152 : decode M_Mo_accepts.2.1 152 = .ok (.iload 4, 2) := by decide +kernel
theorem d_Mo_accepts_154 : decode M_Mo_accepts.2.1 154 = .ok (.bipush 6, 2) := by decide +kernel
theorem d_Mo_accepts_156 : decode M_Mo_accepts.2.1 156 = .ok (.if_icmp .le 26, 3) := by decide +kernel
theorem d_Mo_accepts_159 : decode M_Mo_accepts.2.1 159 = .ok (.iload_n 2, 1) := by decide +kernel
theorem d_Mo_accepts_160 : decode M_Mo_accepts.2.1 160 = .ok (.aload_n 0, 1) := by decide +kernel
theorem d_Mo_accepts_161 : decode M_Mo_accepts.2.1 161 = .ok (.getfield 57, 3) := by decide +kernel
theorem d_Mo_accepts_164 : decode M_Mo_accepts.2.1 164 = .ok (.iload_n 3, 1) := by decide +kernel
theorem d_Mo_accepts_165 : decode M_Mo_accepts.2.1 165 = .ok (.iload 6, 2) := by decide +kernel
theorem d_Mo_accepts_167 : decode M_Mo_accepts.2.1 167 = .ok (.ifCond .eq 7, 3) := by decide +kernel
theorem d_Mo_accepts_170 : decode M_Mo_accepts.2.1 170 = .ok (.iconst 2, 1) := by decide +kernel
theorem d_Mo_accepts_171 : decode M_Mo_accepts.2.1 171 = .ok (.goto 4, 3) := by decide +kernel
theorem d_Mo_accepts_174 : decode M_Mo_accepts.2.1 174 = .ok (.iconst 3, 1) := by decide +kernel
theorem d_Mo_accepts_175 : decode M_Mo_accepts.2.1 175 = .ok (.iadd, 1) := by decide +kernel
theorem d_Mo_accepts_176 : decode M_Mo_accepts.2.1 176 = .ok (.iaload, 1) := by decide +kernel
theorem d_Mo_accepts_177 : decode M_Mo_accepts.2.1 177 = .ok (.iadd, 1) := by decide +kernel
theorem d_Mo_accepts_178 : decode M_Mo_accepts.2.1 178 = .ok (.istore_n 2, 1) := by decide +kernel
theorem d_Mo_accepts_179 : decode M_Mo_accepts.2.1 179 = .ok (.goto 16, 3) := by decide +kernel
theorem d_Mo_accepts_182 : decode M_Mo_accepts.2.1 182 = .ok (.aload_n 0, 1) := by decide +kernel
theorem d_Mo_accepts_183 : decode M_Mo_accepts.2.1 183 = .ok (.iload 4, 2) := by decide +kernel
theorem d_Mo_accepts_185 : decode M_Mo_accepts.2.1 185 = .ok (.iload 5, 2) := by decide +kernel
theorem d_Mo_accepts_187 : decode M_Mo_accepts.2.1 187 = .ok (.invokevirtual 142, 3) := by decide +kernel
theorem d_Mo_accepts_190 : decode M_Mo_accepts.2.1 190 = .ok (.ifCond .ne 5, 3) := by decide +kernel
theorem d_Mo_accepts_193 : decode M_Mo_accepts.2.1 193 = .ok (.iconst 0, 1) := by decide +kernel
theorem d_Mo_accepts_194 : decode M_Mo_accepts.2.1 194 = .ok (.ireturn, 1) := by decide +kernel
theorem d_Mo_accepts_195 : decode M_Mo_accepts.2.1 195 = .ok (.iinc 2 1, 3) := by decide +kernel
theorem d_Mo_accepts_198 : decode M_Mo_accepts.2.1 198 = .ok (.goto (-186), 3) := by decide +kernel
theorem d_Mo_accepts_201 : decode M_Mo_accepts.2.1 201 = .ok (.iconst 0, 1) := by decide +kernel
theorem d_Mo_accepts_202 : decode M_Mo_accepts.2.1 202 = .ok (.ireturn, 1) := by decide +kernel
theorem d_Mo_plain_0 : decode M_Mo_plain.2.1 0 = .ok (.iload_n 1, 1) := by decide +kernel
theorem d_Mo_plain_1 : decode M_Mo_plain.2.1 1 = .ok (.ifCond .ne 8, 3) := by decide +kernel
theorem d_Mo_plain_4 : decode M_Mo_plain.2.1 4 = .ok (.iload_n 2, 1) := by decide +kernel
theorem d_Mo_plain_5 : decode M_Mo_plain.2.1 5 = .ok (.i2l, 1) := by decide +kernel
theorem d_Mo_plain_6 : decode M_Mo_plain.2.1 6 = .ok (.goto 11, 3) := by decide +kernel
theorem d_Mo_plain_9 : decode M_Mo_plain.2.1 9 = .ok (.aload_n 0, 1) := by decide +kernel
theorem d_Mo_plain_10 : decode M_Mo_plain.2.1 10 = .ok (.getfield 84, 3) := by decide +kernel
theorem d_Mo_plain_13 : decode M_Mo_plain.2.1 13 = .ok (.i2l, 1) := by decide +kernel
theorem d_Mo_plain_14 : decode M_Mo_plain.2.1 14 = .ok (.iload_n 2, 1) := by decide +kernel
theorem d_Mo_plain_15 : decode M_Mo_plain.2.1 15 = .ok (.i2l, 1) := by decide +kernel
theorem d_Mo_plain_16 : decode M_Mo_plain.2.1 16 = .ok (.ladd, 1) := by decide +kernel
theorem d_Mo_plain_17 : decode M_Mo_plain.2.1 17 = .ok (.lstore_n 3, 1) := by decide +kernel
theorem d_Mo_plain_18 : decode M_Mo_plain.2.1 18 = .ok (.iload_n 1, 1) := by decide +kernel
theorem d_Mo_plain_19 : decode M_Mo_plain.2.1 19 = .ok (.iconst 2, 1) := by decide +kernel
theorem d_Mo_plain_20 : decode M_Mo_plain.2.1 20 = .ok (.if_icmp .ge 21, 3) := by decide +kernel
theorem d_Mo_plain_23 : decode M_Mo_plain.2.1 23 = .ok (.lload_n 3, 1) := by decide +kernel
theorem d_Mo_plain_24 : decode M_Mo_plain.2.1 24 = .ok (.lconst 0, 1) := by decide +kernel
theorem d_Mo_plain_25 : decode M_Mo_plain.2.1 25 = .ok (.lcmp, 1) := by decide +kernel
theorem d_Mo_plain_26 : decode M_Mo_plain.2.1 26 = .ok (.ifCond .lt 13, 3) := by decide +kernel
theorem d_Mo_plain_29 : decode M_Mo_plain.2.1 29 = .ok (.lload_n 3, 1) := by decide +kernel
theorem d_Mo_plain_30 : decode M_Mo_plain.2.1 30 = .ok (.aload_n 0, 1) := by decide +kernel
theorem d_Mo_plain_31 : decode M_Mo_plain.2.1 31 = .ok (.getfield 66, 3) := by decide +kernel
theorem d_Mo_plain_34 : decode M_Mo_plain.2.1 34 = .ok (.i2l, 1) := by decide +kernel
theorem d_Mo_plain_35 : decode M_Mo_plain.2.1 35 = .ok (.lcmp, 1) := by decide +kernel
theorem d_Mo_plain_36 : decode M_Mo_plain.2.1 36 = .ok (.ifCond .lt 5, 3) := by decide +kernel
theorem d_Mo_plain_39 : decode M_Mo_plain.2.1 39 = .ok (.iconst 0, 1) := by decide +kernel
theorem d_Mo_plain_40 : decode M_Mo_plain.2.1 40 = .ok (.ireturn, 1) := by decide +kernel
theorem d_Mo_plain_41 : decode M_Mo_plain.2.1 41 = .ok (.iload_n 1, 1) := by decide +kernel
theorem d_Mo_plain_42 : decode M_Mo_plain.2.1 42 = .ok (.iconst 2, 1) := by decide +kernel
theorem d_Mo_plain_43 : decode M_Mo_plain.2.1 43 = .ok (.if_icmp .ge 14, 3) := by decide +kernel
theorem d_Mo_plain_46 : decode M_Mo_plain.2.1 46 = .ok (.aload_n 0, 1) := by decide +kernel
theorem d_Mo_plain_47 : decode M_Mo_plain.2.1 47 = .ok (.aload_n 0, 1) := by decide +kernel
theorem d_Mo_plain_48 : decode M_Mo_plain.2.1 48 = .ok (.getfield 69, 3) := by decide +kernel
theorem d_Mo_plain_51 : decode M_Mo_plain.2.1 51 = .ok (.lload_n 3, 1) := by decide +kernel
theorem d_Mo_plain_52 : decode M_Mo_plain.2.1 52 = .ok (.l2i, 1) := by decide +kernel
theorem d_Mo_plain_53 : decode M_Mo_plain.2.1 53 = .ok (.iaload, 1) := by decide +kernel
theorem d_Mo_plain_54 : decode M_Mo_plain.2.1 54 = .ok (.putfield 81, 3) := by decide +kernel
theorem d_Mo_plain_57 : decode M_Mo_plain.2.1 57 = .ok (.iload_n 1, 1) := by decide +kernel
theorem d_Mo_plain_58 : decode M_Mo_plain.2.1 58 = .ok (.iconst 2, 1) := by decide +kernel
theorem d_Mo_plain_59 : decode M_Mo_plain.2.1 59 = .ok (.if_icmp .ne 11, 3) := by decide +kernel
theorem d_Mo_plain_62 : decode M_Mo_plain.2.1 62 = .ok (.aload_n 0, 1) := by decide +kernel
theorem d_Mo_plain_63 : decode M_Mo_plain.2.1 63 = .ok (.aload_n 0, 1) := by decide +kernel
theorem d_Mo_plain_64 : decode M_Mo_plain.2.1 64 = .ok (.getfield 66, 3) := by decide +kernel
theorem d_Mo_plain_67 : decode M_Mo_plain.2.1 67 = .ok (.putfield 81, 3) := by decide +kernel
theorem d_Mo_plain_70 : decode M_Mo_plain.2.1 70 = .ok (.iload_n 1, 1) := by decide +kernel
theorem d_Mo_plain_71 : decode M_Mo_plain.2.1 71 = .ok (.iconst 3, 1) := by decide +kernel
theorem d_Mo_plain_72 : decode M_Mo_plain.2.1 72 = .ok (.if_icmp .ne 11, 3) := by decide +kernel
theorem d_Mo_plain_75 : decode M_Mo_plain.2.1 75 = .ok (.aload_n 0, 1) := by decide +kernel
theorem d_Mo_plain_76 : decode M_Mo_plain.2.1 76 = .ok (.aload_n 0, 1) := by decide +kernel
theorem d_Mo_plain_77 : decode M_Mo_plain.2.1 77 = .ok (.getfield 81, 3) := by decide +kernel
theorem d_Mo_plain_80 : decode M_Mo_plain.2.1 80 = .ok (.putfield 84, 3) := by decide +kernel
theorem d_Mo_plain_83 : decode M_Mo_plain.2.1 83 = .ok (.iload_n 1, 1) := by decide +kernel
theorem d_Mo_plain_84 : decode M_Mo_plain.2.1 84 = .ok (.iconst 4, 1) := by decide +kernel
theorem d_Mo_plain_85 : decode M_Mo_plain.2.1 85 = .ok (.if_icmp .ne 13, 3) := by decide +kernel
theorem d_Mo_plain_88 : decode M_Mo_plain.2.1 88 = .ok (.aload_n 0, 1) := by decide +kernel
theorem d_Mo_plain_89 : decode M_Mo_plain.2.1 89 = .ok (.dup, 1) := by decide +kernel
theorem d_Mo_plain_90 : decode M_Mo_plain.2.1 90 = .ok (.getfield 81, 3) := by decide +kernel
theorem d_Mo_plain_93 : decode M_Mo_plain.2.1 93 = .ok (.iload_n 2, 1) := by decide +kernel
theorem d_Mo_plain_94 : decode M_Mo_plain.2.1 94 = .ok (.iadd, 1) := by decide +kernel
theorem d_Mo_plain_95 : decode M_Mo_plain.2.1 95 = .ok (.putfield 81, 3) := by decide +kernel
theorem d_Mo_plain_98 : decode M_Mo_plain.2.1 98 = .ok (.iload_n 1, 1) := by decide +kernel
theorem d_Mo_plain_99 : decode M_Mo_plain.2.1 99 = .ok (.iconst 5, 1) := by decide +kernel
theorem d_Mo_plain_100 : decode M_Mo_plain.2.1 100 = .ok (.if_icmp .ne 13, 3) := by decide +kernel
theorem d_Mo_plain_103 : decode M_Mo_plain.2.1 103 = .ok (.aload_n 0, 1) := by decide +kernel
theorem d_Mo_plain_104 : decode M_Mo_plain.2.1 104 = .ok (.dup, 1) := by decide +kernel
theorem d_Mo_plain_105 : decode M_Mo_plain.2.1 105 = .ok (.getfield 81, 3) := by decide +kernel
theorem d_Mo_plain_108 : decode M_Mo_plain.2.1 108 = .ok (.iload_n 2, 1) := by decide +kernel
theorem d_Mo_plain_109 : decode M_Mo_plain.2.1 109 = .ok (.iand, 1) := by decide +kernel
theorem d_Mo_plain_110 : decode M_Mo_plain.2.1 110 = .ok (.putfield 81, 3) := by decide +kernel
theorem d_Mo_plain_113 : decode M_Mo_plain.2.1 113 = .ok (.iload_n 1, 1) := by decide +kernel
theorem d_Mo_plain_114 : decode M_Mo_plain.2.1 114 = .ok (.bipush 6, 2) := by decide +kernel
theorem d_Mo_plain_116 : decode M_Mo_plain.2.1 116 = .ok (.if_icmp .ne 13, 3) := by decide +kernel
theorem d_Mo_plain_119 : decode M_Mo_plain.2.1 119 = .ok (.aload_n 0, 1) := by decide +kernel
theorem d_Mo_plain_120 : decode M_Mo_plain.2.1 120 = .ok (.dup, 1) := by decide +kernel
theorem d_Mo_plain_121 : decode M_Mo_plain.2.1 121 = .ok (.getfield 81, 3) := by decide +kernel
theorem d_Mo_plain_124 : decode M_Mo_plain.2.1 124 = .ok (.iload_n 2, 1) := by decide +kernel
theorem d_Mo_plain_125 : decode M_Mo_plain.2.1 125 = .ok (.iushr, 1) := by decide +kernel
theorem d_Mo_plain_126 : decode M_Mo_plain.2.1 126 = .ok (.putfield 81, 3) := by decide +kernel
theorem d_Mo_plain_129 : decode M_Mo_plain.2.1 129 = .ok (.iconst 1, 1) := by decide +kernel
theorem d_Mo_plain_130 : decode M_Mo_plain.2.1 130 = .ok (.ireturn, 1) := by decide +kernel
theorem d_Mo_got_0 : decode M_Mo_got.2.1 0 = .ok (.iload_n 2, 1) := by decide +kernel
theorem d_Mo_got_1 : decode M_Mo_got.2.1 1 = .ok (.iconst (-1), 1) := by decide +kernel
theorem d_Mo_got_2 : decode M_Mo_got.2.1 2 = .ok (.if_icmp .lt 32, 3) := by decide +kernel
theorem d_Mo_got_5 : decode M_Mo_got.2.1 5 = .ok (.aload_n 0, 1) := by decide +kernel
theorem d_Mo_got_6 : decode M_Mo_got.2.1 6 = .ok (.iload_n 1, 1) := by decide +kernel
theorem d_Mo_got_7 : decode M_Mo_got.2.1 7 = .ok (.invokevirtual 126, 3) := by decide +kernel
theorem d_Mo_got_10 : decode M_Mo_got.2.1 10 = .ok (.ifCond .ne 24, 3) := by decide +kernel
theorem d_Mo_got_13 : decode M_Mo_got.2.1 13 = .ok (.aload_n 0, 1) := by decide +kernel
theorem d_Mo_got_14 : decode M_Mo_got.2.1 14 = .ok (.getfield 72, 3) := by decide +kernel
theorem d_Mo_got_17 : decode M_Mo_got.2.1 17 = .ok (.iload_n 1, 1) := by decide +kernel
theorem d_Mo_got_18 : decode M_Mo_got.2.1 18 = .ok (.iaload, 1) := by decide +kernel
theorem d_Mo_got_19 : decode M_Mo_got.2.1 19 = .ok (.ifCond .eq 15, 3) := by decide +kernel
theorem d_Mo_got_22 : decode M_Mo_got.2.1 22 = .ok (.iload_n 2, 1) := by decide +kernel
theorem d_Mo_got_23 : decode M_Mo_got.2.1 23 = .ok (.aload_n 0, 1) := by decide +kernel
theorem d_Mo_got_24 : decode M_Mo_got.2.1 24 = .ok (.getfield 75, 3) := by decide +kernel
theorem d_Mo_got_27 : decode M_Mo_got.2.1 27 = .ok (.iload_n 1, 1) := by decide +kernel
theorem d_Mo_got_28 : decode M_Mo_got.2.1 28 = .ok (.iconst 4, 1) := by decide +kernel
theorem d_Mo_got_29 : decode M_Mo_got.2.1 29 = .ok (.imul, 1) := by decide +kernel
theorem d_Mo_got_30 : decode M_Mo_got.2.1 30 = .ok (.iaload, 1) := by decide +kernel
theorem d_Mo_got_31 : decode M_Mo_got.2.1 31 = .ok (.if_icmp .lt 5, 3) := by decide +kernel
theorem d_Mo_got_34 : decode M_Mo_got.2.1 34 = .ok (.iconst (-1), 1) := by decide +kernel
theorem d_Mo_got_35 : decode M_Mo_got.2.1 35 = .ok (.ireturn, 1) := by decide +kernel
theorem d_Mo_got_36 : decode M_Mo_got.2.1 36 = .ok (.iload_n 2, 1) := by decide +kernel
theorem d_Mo_got_37 : decode M_Mo_got.2.1 37 = .ok (.ifCond .ge 14, 3) := by decide +kernel
theorem d_Mo_got_40 : decode M_Mo_got.2.1 40 = .ok (.aload_n 0, 1) := by decide +kernel
theorem d_Mo_got_41 : decode M_Mo_got.2.1 41 = .ok (.getfield 75, 3) := by decide +kernel
theorem d_Mo_got_44 : decode M_Mo_got.2.1 44 = .ok (.iload_n 1, 1) := by decide +kernel
theorem d_Mo_got_45 : decode M_Mo_got.2.1 45 = .ok (.iconst 4, 1) := by decide +kernel
theorem d_Mo_got_46 : decode M_Mo_got.2.1 46 = .ok (.imul, 1) := by decide +kernel
theorem d_Mo_got_47 : decode M_Mo_got.2.1 47 = .ok (.iaload, 1) := by decide +kernel
theorem d_Mo_got_48 : decode M_Mo_got.2.1 48 = .ok (.goto 14, 3) := by decide +kernel
theorem d_Mo_got_51 : decode M_Mo_got.2.1 51 = .ok (.aload_n 0, 1) := by decide +kernel
theorem d_Mo_got_52 : decode M_Mo_got.2.1 52 = .ok (.getfield 78, 3) := by decide +kernel
theorem d_Mo_got_55 : decode M_Mo_got.2.1 55 = .ok (.iload_n 1, 1) := by decide +kernel
theorem d_Mo_got_56 : decode M_Mo_got.2.1 56 = .ok (.bipush 64, 2) := by decide +kernel
theorem d_Mo_got_58 : decode M_Mo_got.2.1 58 = .ok (.imul, 1) := by decide +kernel
theorem d_Mo_got_59 : decode M_Mo_got.2.1 59 = .ok (.iload_n 2, 1) := by decide +kernel
theorem d_Mo_got_60 : decode M_Mo_got.2.1 60 = .ok (.iadd, 1) := by decide +kernel
theorem d_Mo_got_61 : decode M_Mo_got.2.1 61 = .ok (.iaload, 1) := by decide +kernel
theorem d_Mo_got_62 : decode M_Mo_got.2.1 62 = .ok (.ireturn, 1) := by decide +kernel
theorem d_Mo_next_0 : decode M_Mo_next.2.1 0 = .ok (.aload_n 0, 1) := by decide +kernel
theorem d_Mo_next_1 : decode M_Mo_next.2.1 1 = .ok (.iload_n 1, 1) := by decide +kernel
theorem d_Mo_next_2 : decode M_Mo_next.2.1 2 = .ok (.invokevirtual 126, 3) := by decide +kernel
theorem d_Mo_next_5 : decode M_Mo_next.2.1 5 = .ok (.ifCond .ne 12, 3) := by decide +kernel
theorem d_Mo_next_8 : decode M_Mo_next.2.1 8 = .ok (.aload_n 0, 1) := by decide +kernel
theorem d_Mo_next_9 : decode M_Mo_next.2.1 9 = .ok (.getfield 72, 3) := by decide +kernel
theorem d_Mo_next_12 : decode M_Mo_next.2.1 12 = .ok (.iload_n 1, 1) := by decide +kernel
theorem d_Mo_next_13 : decode M_Mo_next.2.1 13 = .ok (.iaload, 1) := by decide +kernel
theorem d_Mo_next_14 : decode M_Mo_next.2.1 14 = .ok (.ifCond .ne 5, 3) := by decide +kernel
theorem d_Mo_next_17 : decode M_Mo_next.2.1 17 = .ok (.iconst (-1), 1) := by decide +kernel
theorem d_Mo_next_18 : decode M_Mo_next.2.1 18 = .ok (.ireturn, 1) := by decide +kernel
theorem d_Mo_next_19 : decode M_Mo_next.2.1 19 = .ok (.iload_n 1, 1) := by decide +kernel
theorem d_Mo_next_20 : decode M_Mo_next.2.1 20 = .ok (.iconst 4, 1) := by decide +kernel
theorem d_Mo_next_21 : decode M_Mo_next.2.1 21 = .ok (.imul, 1) := by decide +kernel
theorem d_Mo_next_22 : decode M_Mo_next.2.1 22 = .ok (.istore_n 2, 1) := by decide +kernel
theorem d_Mo_next_23 : decode M_Mo_next.2.1 23 = .ok (.iload_n 2, 1) := by decide +kernel
theorem d_Mo_next_24 : decode M_Mo_next.2.1 24 = .ok (.iload_n 1, 1) := by decide +kernel
theorem d_Mo_next_25 : decode M_Mo_next.2.1 25 = .ok (.iconst 4, 1) := by decide +kernel
theorem d_Mo_next_26 : decode M_Mo_next.2.1 26 = .ok (.imul, 1) := by decide +kernel
theorem d_Mo_next_27 : decode M_Mo_next.2.1 27 = .ok (.iconst 3, 1) := by decide +kernel
theorem d_Mo_next_28 : decode M_Mo_next.2.1 28 = .ok (.iadd, 1) := by decide +kernel
theorem d_Mo_next_29 : decode M_Mo_next.2.1 29 = .ok (.if_icmp .ge 23, 3) := by decide +kernel
theorem d_Mo_next_32 : decode M_Mo_next.2.1 32 = .ok (.aload_n 0, 1) := by decide +kernel
theorem d_Mo_next_33 : decode M_Mo_next.2.1 33 = .ok (.getfield 75, 3) := by decide +kernel
theorem d_Mo_next_36 : decode M_Mo_next.2.1 36 = .ok (.iload_n 2, 1) := by decide +kernel
theorem d_Mo_next_37 : decode M_Mo_next.2.1 37 = .ok (.aload_n 0, 1) := by decide +kernel
theorem d_Mo_next_38 : decode M_Mo_next.2.1 38 = .ok (.getfield 75, 3) := by decide +kernel
theorem d_Mo_next_41 : decode M_Mo_next.2.1 41 = .ok (.iload_n 2, 1) := by decide +kernel
theorem d_Mo_next_42 : decode M_Mo_next.2.1 42 = .ok (.iconst 1, 1) := by decide +kernel
theorem d_Mo_next_43 : decode M_Mo_next.2.1 43 = .ok (.iadd, 1) := by decide +kernel
theorem d_Mo_next_44 : decode M_Mo_next.2.1 44 = .ok (.iaload, 1) := by decide +kernel
theorem d_Mo_next_45 : decode M_Mo_next.2.1 45 = .ok (.iastore, 1) := by decide +kernel
theorem d_Mo_next_46 : decode M_Mo_next.2.1 46 = .ok (.iinc 2 1, 3) := by decide +kernel
theorem d_Mo_next_49 : decode M_Mo_next.2.1 49 = .ok (.goto (-26), 3) := by decide +kernel
theorem d_Mo_next_52 : decode M_Mo_next.2.1 52 = .ok (.iload_n 1, 1) := by decide +kernel
theorem d_Mo_next_53 : decode M_Mo_next.2.1 53 = .ok (.bipush 64, 2) := by decide +kernel
theorem d_Mo_next_55 : decode M_Mo_next.2.1 55 = .ok (.imul, 1) := by decide +kernel
theorem d_Mo_next_56 : decode M_Mo_next.2.1 56 = .ok (.istore_n 2, 1) := by decide +kernel
theorem d_Mo_next_57 : decode M_Mo_next.2.1 57 = .ok (.iload_n 2, 1) := by decide +kernel
theorem d_Mo_next_58 : decode M_Mo_next.2.1 58 = .ok (.iload_n 1, 1) := by decide +kernel
theorem d_Mo_next_59 : decode M_Mo_next.2.1 59 = .ok (.bipush 64, 2) := by decide +kernel
theorem d_Mo_next_61 : decode M_Mo_next.2.1 61 = .ok (.imul, 1) := by decide +kernel
theorem d_Mo_next_62 : decode M_Mo_next.2.1 62 = .ok (.bipush 48, 2) := by decide +kernel
theorem d_Mo_next_64 : decode M_Mo_next.2.1 64 = .ok (.iadd, 1) := by decide +kernel
theorem d_Mo_next_65 : decode M_Mo_next.2.1 65 = .ok (.if_icmp .ge 24, 3) := by decide +kernel
theorem d_Mo_next_68 : decode M_Mo_next.2.1 68 = .ok (.aload_n 0, 1) := by decide +kernel
theorem d_Mo_next_69 : decode M_Mo_next.2.1 69 = .ok (.getfield 78, 3) := by decide +kernel
theorem d_Mo_next_72 : decode M_Mo_next.2.1 72 = .ok (.iload_n 2, 1) := by decide +kernel
theorem d_Mo_next_73 : decode M_Mo_next.2.1 73 = .ok (.aload_n 0, 1) := by decide +kernel
theorem d_Mo_next_74 : decode M_Mo_next.2.1 74 = .ok (.getfield 78, 3) := by decide +kernel
theorem d_Mo_next_77 : decode M_Mo_next.2.1 77 = .ok (.iload_n 2, 1) := by decide +kernel
theorem d_Mo_next_78 : decode M_Mo_next.2.1 78 = .ok (.bipush 16, 2) := by decide +kernel
theorem d_Mo_next_80 : decode M_Mo_next.2.1 80 = .ok (.iadd, 1) := by decide +kernel
theorem d_Mo_next_81 : decode M_Mo_next.2.1 81 = .ok (.iaload, 1) := by decide +kernel
theorem d_Mo_next_82 : decode M_Mo_next.2.1 82 = .ok (.iastore, 1) := by decide +kernel
theorem d_Mo_next_83 : decode M_Mo_next.2.1 83 = .ok (.iinc 2 1, 3) := by decide +kernel
theorem d_Mo_next_86 : decode M_Mo_next.2.1 86 = .ok (.goto (-29), 3) := by decide +kernel
theorem d_Mo_next_89 : decode M_Mo_next.2.1 89 = .ok (.aload_n 0, 1) := by decide +kernel
theorem d_Mo_next_90 : decode M_Mo_next.2.1 90 = .ok (.getfield 72, 3) := by decide +kernel
theorem d_Mo_next_93 : decode M_Mo_next.2.1 93 = .ok (.iload_n 1, 1) := by decide +kernel
theorem d_Mo_next_94 : decode M_Mo_next.2.1 94 = .ok (.dup2, 1) := by decide +kernel
theorem d_Mo_next_95 : decode M_Mo_next.2.1 95 = .ok (.iaload, 1) := by decide +kernel
theorem d_Mo_next_96 : decode M_Mo_next.2.1 96 = .ok (.iconst 1, 1) := by decide +kernel
theorem d_Mo_next_97 : decode M_Mo_next.2.1 97 = .ok (.isub, 1) := by decide +kernel
theorem d_Mo_next_98 : decode M_Mo_next.2.1 98 = .ok (.iastore, 1) := by decide +kernel
theorem d_Mo_next_99 : decode M_Mo_next.2.1 99 = .ok (.aload_n 0, 1) := by decide +kernel
theorem d_Mo_next_100 : decode M_Mo_next.2.1 100 = .ok (.getfield 72, 3) := by decide +kernel
theorem d_Mo_next_103 : decode M_Mo_next.2.1 103 = .ok (.iload_n 1, 1) := by decide +kernel
theorem d_Mo_next_104 : decode M_Mo_next.2.1 104 = .ok (.iaload, 1) := by decide +kernel
theorem d_Mo_next_105 : decode M_Mo_next.2.1 105 = .ok (.ireturn, 1) := by decide +kernel
theorem d_Mo_write_0 : decode M_Mo_write.2.1 0 = .ok (.aload_n 0, 1) := by decide +kernel
theorem d_Mo_write_1 : decode M_Mo_write.2.1 1 = .ok (.iload_n 2, 1) := by decide +kernel
theorem d_Mo_write_2 : decode M_Mo_write.2.1 2 = .ok (.aload_n 0, 1) := by decide +kernel
theorem d_Mo_write_3 : decode M_Mo_write.2.1 3 = .ok (.getfield 108, 3) := by decide +kernel
theorem d_Mo_write_6 : decode M_Mo_write.2.1 6 = .ok (.invokevirtual 111, 3) := by decide +kernel
theorem d_Mo_write_9 : decode M_Mo_write.2.1 9 = .ok (.ifCond .ne 40, 3) := by decide +kernel
theorem d_Mo_write_12 : decode M_Mo_write.2.1 12 = .ok (.aload_n 0, 1) := by decide +kernel
theorem d_Mo_write_13 : decode M_Mo_write.2.1 13 = .ok (.iload_n 3, 1) := by decide +kernel
theorem d_Mo_write_14 : decode M_Mo_write.2.1 14 = .ok (.bipush 8, 2) := by decide +kernel
theorem d_Mo_write_16 : decode M_Mo_write.2.1 16 = .ok (.invokevirtual 111, 3) := by decide +kernel
theorem d_Mo_write_19 : decode M_Mo_write.2.1 19 = .ok (.ifCond .ne 30, 3) := by decide +kernel
theorem d_Mo_write_22 : decode M_Mo_write.2.1 22 = .ok (.aload_n 0, 1) := by decide +kernel
theorem d_Mo_write_23 : decode M_Mo_write.2.1 23 = .ok (.iload_n 1, 1) := by decide +kernel
theorem d_Mo_write_24 : decode M_Mo_write.2.1 24 = .ok (.invokevirtual 126, 3) := by decide +kernel
theorem d_Mo_write_27 : decode M_Mo_write.2.1 27 = .ok (.ifCond .ne 22, 3) := by decide +kernel
theorem d_Mo_write_30 : decode M_Mo_write.2.1 30 = .ok (.aload_n 0, 1) := by decide +kernel
theorem d_Mo_write_31 : decode M_Mo_write.2.1 31 = .ok (.getfield 13, 3) := by decide +kernel
theorem d_Mo_write_34 : decode M_Mo_write.2.1 34 = .ok (.iload_n 1, 1) := by decide +kernel
theorem d_Mo_write_35 : decode M_Mo_write.2.1 35 = .ok (.baload, 1) := by decide +kernel
theorem d_Mo_write_36 : decode M_Mo_write.2.1 36 = .ok (.ifCond .ne 13, 3) := by decide +kernel
theorem d_Mo_write_39 : decode M_Mo_write.2.1 39 = .ok (.aload_n 0, 1) := by decide +kernel
theorem d_Mo_write_40 : decode M_Mo_write.2.1 40 = .ok (.getfield 87, 3) := by decide +kernel
theorem d_Mo_write_43 : decode M_Mo_write.2.1 43 = .ok (.iload_n 2, 1) := by decide +kernel
theorem d_Mo_write_44 : decode M_Mo_write.2.1 44 = .ok (.iaload, 1) := by decide +kernel
theorem d_Mo_write_45 : decode M_Mo_write.2.1 45 = .ok (.iload_n 1, 1) := by decide +kernel
theorem d_Mo_write_46 : decode M_Mo_write.2.1 46 = .ok (.if_icmp .eq 5, 3) := by decide +kernel
theorem d_Mo_write_49 : decode M_Mo_write.2.1 49 = .ok (.iconst (-1), 1) := by decide +kernel
theorem d_Mo_write_50 : decode M_Mo_write.2.1 50 = .ok (.ireturn, 1) := by decide +kernel
theorem d_Mo_write_51 : decode M_Mo_write.2.1 51 = .ok (.iload_n 2, 1) := by decide +kernel
theorem d_Mo_write_52 : decode M_Mo_write.2.1 52 = .ok (.bipush 8, 2) := by decide +kernel
theorem d_Mo_write_54 : decode M_Mo_write.2.1 54 = .ok (.imul, 1) := by decide +kernel
theorem d_Mo_write_55 : decode M_Mo_write.2.1 55 = .ok (.iload_n 3, 1) := by decide +kernel
theorem d_Mo_write_56 : decode M_Mo_write.2.1 56 = .ok (.iadd, 1) := by decide +kernel
theorem d_Mo_write_57 : decode M_Mo_write.2.1 57 = .ok (.istore 5, 2) := by decide +kernel
theorem d_Mo_write_59 : decode M_Mo_write.2.1 59 = .ok (.aload_n 0, 1) := by decide +kernel
theorem d_Mo_write_60 : decode M_Mo_write.2.1 60 = .ok (.iload_n 1, 1) := by decide +kernel
theorem d_Mo_write_61 : decode M_Mo_write.2.1 61 = .ok (.iload_n 3, 1) := by decide +kernel
theorem d_Mo_write_62 : decode M_Mo_write.2.1 62 = .ok (.invokevirtual 115, 3) := by decide +kernel
theorem d_Mo_write_65 : decode M_Mo_write.2.1 65 = .ok (.ifCond .eq 99, 3) := by decide +kernel
theorem d_Mo_write_68 : decode M_Mo_write.2.1 68 = .ok (.iload 4, 2) := by decide +kernel
theorem d_Mo_write_70 : decode M_Mo_write.2.1 70 = .ok (.iconst (-1), 1) := by decide +kernel
theorem d_Mo_write_71 : decode M_Mo_write.2.1 71 = .ok (.if_icmp .lt 12, 3) := by decide +kernel
theorem d_Mo_write_74 : decode M_Mo_write.2.1 74 = .ok (.iload 4, 2) := by decide +kernel
theorem d_Mo_write_76 : decode M_Mo_write.2.1 76 = .ok (.aload_n 0, 1) := by decide +kernel
theorem d_Mo_write_77 : decode M_Mo_write.2.1 77 = .ok (.getfield 108, 3) := by decide +kernel
theorem d_Mo_write_80 : decode M_Mo_write.2.1 80 = .ok (.if_icmp .lt 5, 3) := by decide +kernel
theorem d_Mo_write_83 : decode M_Mo_write.2.1 83 = .ok (.iconst (-1), 1) := by decide +kernel
theorem d_Mo_write_84 : decode M_Mo_write.2.1 84 = .ok (.ireturn, 1) := by decide +kernel
theorem d_Mo_write_85 : decode M_Mo_write.2.1 85 = .ok (.aload_n 0, 1) := by decide +kernel
theorem d_Mo_write_86 : decode M_Mo_write.2.1 86 = .ok (.getfield 90, 3) := by decide +kernel
theorem d_Mo_write_89 : decode M_Mo_write.2.1 89 = .ok (.iload 5, 2) := by decide +kernel
theorem d_Mo_write_91 : decode M_Mo_write.2.1 91 = .ok (.iaload, 1) := by decide +kernel
theorem d_Mo_write_92 : decode M_Mo_write.2.1 92 = .ok (.istore 6, 2) := by decide +kernel
theorem d_Mo_write_94 : decode M_Mo_write.2.1 94 = .ok (.iload 6, 2) := by decide +kernel
theorem d_Mo_write_96 : decode M_Mo_write.2.1 96 = .ok (.iload 4, 2) := by decide +kernel
theorem d_Mo_write_98 : decode M_Mo_write.2.1 98 = .ok (.if_icmp .ne 5, 3) := by decide +kernel
theorem d_Mo_write_101 : decode M_Mo_write.2.1 101 = .ok (.iconst 0, 1) := by decide +kernel
theorem d_Mo_write_102 : decode M_Mo_write.2.1 102 = .ok (.ireturn, 1) := by decide +kernel
theorem d_Mo_write_103 : decode M_Mo_write.2.1 103 = .ok (.iload 6, 2) := by decide +kernel
theorem d_Mo_write_105 : decode M_Mo_write.2.1 105 = .ok (.ifCond .lt 16, 3) := by decide +kernel
theorem d_Mo_write_108 : decode M_Mo_write.2.1 108 = .ok (.aload_n 0, 1) := by decide +kernel
theorem d_Mo_write_109 : decode M_Mo_write.2.1 109 = .ok (.iload_n 1, 1) := by decide +kernel
theorem d_Mo_write_110 : decode M_Mo_write.2.1 110 = .ok (.iload 6, 2) := by decide +kernel
theorem d_Mo_write_112 : decode M_Mo_write.2.1 112 = .ok (.invokevirtual 148, 3) := by decide +kernel
theorem d_Mo_write_115 : decode M_Mo_write.2.1 115 = .ok (.ifCond .eq 6, 3) := by decide +kernel
theorem d_Mo_write_118 : decode M_Mo_write.2.1 118 = .ok (.bipush (-3), 2) := by decide +kernel
theorem d_Mo_write_120 : decode M_Mo_write.2.1 120 = .ok (.ireturn, 1) := by decide +kernel
theorem d_Mo_write_121 : decode M_Mo_write.2.1 121 = .ok (.iload 4, 2) := by decide +kernel
theorem d_Mo_write_123 : decode M_Mo_write.2.1 123 = .ok (.ifCond .lt 16, 3) := by decide +kernel
theorem d_Mo_write_126 : decode M_Mo_write.2.1 126 = .ok (.aload_n 0, 1) := by decide +kernel
theorem d_Mo_write_127 : decode M_Mo_write.2.1 127 = .ok (.getfield 87, 3) := by decide +kernel
theorem d_Mo_write_130 : decode M_Mo_write.2.1 130 = .ok (.iload 4, 2) := by decide +kernel
theorem d_Mo_write_132 : decode M_Mo_write.2.1 132 = .ok (.iaload, 1) := by decide +kernel
theorem d_Mo_write_133 : decode M_Mo_write.2.1 133 = .ok (.ifCond .lt 6, 3) := by decide +kernel
theorem d_Mo_write_136 : decode M_Mo_write.2.1 136 = .ok (.bipush (-4), 2) := by decide +kernel
theorem d_Mo_write_138 : decode M_Mo_write.2.1 138 = .ok (.ireturn, 1) := by decide +kernel
theorem d_Mo_write_139 : decode M_Mo_write.2.1 139 = .ok (.iload 6, 2) := by decide +kernel
theorem d_Mo_write_141 : decode M_Mo_write.2.1 141 = .ok (.ifCond .lt 11, 3) := by decide +kernel
theorem d_Mo_write_144 : decode M_Mo_write.2.1 144 = .ok (.aload_n 0, 1) := by decide +kernel
theorem d_Mo_write_145 : decode M_Mo_write.2.1 145 = .ok (.getfield 87, 3) := by decide +kernel
theorem d_Mo_write_148 : decode M_Mo_write.2.1 148 = .ok (.iload 6, 2) := by decide +kernel
theorem d_Mo_write_150 : decode M_Mo_write.2.1 150 = .ok (.iconst (-1), 1) := by decide +kernel
theorem d_Mo_write_151 : decode M_Mo_write.2.1 151 = .ok (.iastore, 1) := by decide +kernel
theorem d_Mo_write_152 : decode M_Mo_write.2.1 152 = .ok (.iload 4, 2) := by decide +kernel
theorem d_Mo_write_154 : decode M_Mo_write.2.1 154 = .ok (.ifCond .lt 10, 3) := by decide +kernel
theorem d_Mo_write_157 : decode M_Mo_write.2.1 157 = .ok (.aload_n 0, 1) := by decide +kernel
theorem d_Mo_write_158 : decode M_Mo_write.2.1 158 = .ok (.iload_n 1, 1) := by decide +kernel
theorem d_Mo_write_159 : decode M_Mo_write.2.1 159 = .ok (.iload 4, 2) := by decide +kernel
theorem d_Mo_write_161 : decode M_Mo_write.2.1 161 = .ok (.invokevirtual 122, 3) := by decide +kernel
theorem d_Mo_write_164 : decode M_Mo_write.2.1 164 = .ok (.aload_n 0, 1) := by decide +kernel
theorem d_Mo_write_165 : decode M_Mo_write.2.1 165 = .ok (.getfield 90, 3) := by decide +kernel
theorem d_Mo_write_168 : decode M_Mo_write.2.1 168 = .ok (.iload 5, 2) := by decide +kernel
theorem d_Mo_write_170 : decode M_Mo_write.2.1 170 = .ok (.iload 4, 2) := by decide +kernel
theorem d_Mo_write_172 : decode M_Mo_write.2.1 172 = .ok (.iastore, 1) := by decide +kernel
theorem d_Mo_write_173 : decode M_Mo_write.2.1 173 = .ok (.iconst 0, 1) := by decide +kernel
theorem d_Mo_write_174 : decode M_Mo_write.2.1 174 = .ok (.ireturn, 1) := by decide +kernel
theorem d_Mo_hasLinks_0 : decode M_Mo_hasLinks.2.1 0 = .ok (.iconst 0, 1) := by decide +kernel
theorem d_Mo_hasLinks_1 : decode M_Mo_hasLinks.2.1 1 = .ok (.istore_n 3, 1) := by decide +kernel
theorem d_Mo_hasLinks_2 : decode M_Mo_hasLinks.2.1 2 = .ok (.iload_n 3, 1) := by decide +kernel
theorem d_Mo_hasLinks_3 : decode M_Mo_hasLinks.2.1 3 = .ok (.bipush 8, 2) := by decide +kernel
theorem d_Mo_hasLinks_5 : decode M_Mo_hasLinks.2.1 5 = .ok (.if_icmp .ge 35, 3) := by decide +kernel
theorem d_Mo_hasLinks_8 : decode M_Mo_hasLinks.2.1 8 = .ok (.aload_n 0, 1) := by decide +kernel
theorem d_Mo_hasLinks_9 : decode M_Mo_hasLinks.2.1 9 = .ok (.iload_n 1, 1) := by decide +kernel
theorem d_Mo_hasLinks_10 : decode M_Mo_hasLinks.2.1 10 = .ok (.iload_n 3, 1) := by decide +kernel
theorem d_Mo_hasLinks_11 : decode M_Mo_hasLinks.2.1 11 = .ok (.invokevirtual 115, 3) := by decide +kernel
theorem d_Mo_hasLinks_14 : decode M_Mo_hasLinks.2.1 14 = .ok (.ifCond .eq 20, 3) := by decide +kernel
theorem d_Mo_hasLinks_17 : decode M_Mo_hasLinks.2.1 17 = .ok (.aload_n 0, 1) := by decide +kernel
theorem d_Mo_hasLinks_18 : decode M_Mo_hasLinks.2.1 18 = .ok (.getfield 90, 3) := by decide +kernel
theorem d_Mo_hasLinks_21 : decode M_Mo_hasLinks.2.1 21 = .ok (.iload_n 2, 1) := by decide +kernel
theorem d_Mo_hasLinks_22 : decode M_Mo_hasLinks.2.1 22 = .ok (.bipush 8, 2) := by decide +kernel
theorem d_Mo_hasLinks_24 : decode M_Mo_hasLinks.2.1 24 = .ok (.imul, 1) := by decide +kernel
theorem d_Mo_hasLinks_25 : decode M_Mo_hasLinks.2.1 25 = .ok (.iload_n 3, 1) := by decide +kernel
theorem d_Mo_hasLinks_26 : decode M_Mo_hasLinks.2.1 26 = .ok (.iadd, 1) := by decide +kernel
theorem d_Mo_hasLinks_27 : decode M_Mo_hasLinks.2.1 27 = .ok (.iaload, 1) := by decide +kernel
theorem d_Mo_hasLinks_28 : decode M_Mo_hasLinks.2.1 28 = .ok (.iconst (-1), 1) := by decide +kernel
theorem d_Mo_hasLinks_29 : decode M_Mo_hasLinks.2.1 29 = .ok (.if_icmp .eq 5, 3) := by decide +kernel
theorem d_Mo_hasLinks_32 : decode M_Mo_hasLinks.2.1 32 = .ok (.iconst 1, 1) := by decide +kernel
theorem d_Mo_hasLinks_33 : decode M_Mo_hasLinks.2.1 33 = .ok (.ireturn, 1) := by decide +kernel
theorem d_Mo_hasLinks_34 : decode M_Mo_hasLinks.2.1 34 = .ok (.iinc 3 1, 3) := by decide +kernel
theorem d_Mo_hasLinks_37 : decode M_Mo_hasLinks.2.1 37 = .ok (.goto (-35), 3) := by decide +kernel
theorem d_Mo_hasLinks_40 : decode M_Mo_hasLinks.2.1 40 = .ok (.iconst 0, 1) := by decide +kernel
theorem d_Mo_hasLinks_41 : decode M_Mo_hasLinks.2.1 41 = .ok (.ireturn, 1) := by decide +kernel
theorem d_Mo_put_0 : decode M_Mo_put.2.1 0 = .ok (.aload_n 0, 1) := by decide +kernel
theorem d_Mo_put_1 : decode M_Mo_put.2.1 1 = .ok (.iload_n 1, 1) := by decide +kernel
theorem d_Mo_put_2 : decode M_Mo_put.2.1 2 = .ok (.invokevirtual 126, 3) := by decide +kernel
theorem d_Mo_put_5 : decode M_Mo_put.2.1 5 = .ok (.ifCond .ne 12, 3) := by decide +kernel
theorem d_Mo_put_8 : decode M_Mo_put.2.1 8 = .ok (.aload_n 0, 1) := by decide +kernel
theorem d_Mo_put_9 : decode M_Mo_put.2.1 9 = .ok (.getfield 13, 3) := by decide +kernel
theorem d_Mo_put_12 : decode M_Mo_put.2.1 12 = .ok (.iload_n 1, 1) := by decide +kernel
theorem d_Mo_put_13 : decode M_Mo_put.2.1 13 = .ok (.baload, 1) := by decide +kernel
theorem d_Mo_put_14 : decode M_Mo_put.2.1 14 = .ok (.ifCond .ne 5, 3) := by decide +kernel
theorem d_Mo_put_17 : decode M_Mo_put.2.1 17 = .ok (.iconst (-1), 1) := by decide +kernel
theorem d_Mo_put_18 : decode M_Mo_put.2.1 18 = .ok (.ireturn, 1) := by decide +kernel
theorem d_Mo_put_19 : decode M_Mo_put.2.1 19 = .ok (.aload_n 0, 1) := by decide +kernel
theorem d_Mo_put_20 : decode M_Mo_put.2.1 20 = .ok (.iload_n 1, 1) := by decide +kernel
theorem d_Mo_put_21 : decode M_Mo_put.2.1 21 = .ok (.iload_n 2, 1) := by decide +kernel
theorem d_Mo_put_22 : decode M_Mo_put.2.1 22 = .ok (.invokevirtual 151, 3) := by decide +kernel
theorem d_Mo_put_25 : decode M_Mo_put.2.1 25 = .ok (.istore 5, 2) := by decide +kernel
theorem d_Mo_put_27 : decode M_Mo_put.2.1 27 = .ok (.aload_n 0, 1) := by decide +kernel
theorem d_Mo_put_28 : decode M_Mo_put.2.1 28 = .ok (.getfield 96, 3) := by decide +kernel
theorem d_Mo_put_31 : decode M_Mo_put.2.1 31 = .ok (.iload_n 1, 1) := by decide +kernel
theorem d_Mo_put_32 : decode M_Mo_put.2.1 32 = .ok (.iaload, 1) := by decide +kernel
theorem d_Mo_put_33 : decode M_Mo_put.2.1 33 = .ok (.istore 6, 2) := by decide +kernel
theorem d_Mo_put_35 : decode M_Mo_put.2.1 35 = .ok (.iload 4, 2) := by decide +kernel
theorem d_Mo_put_37 : decode M_Mo_put.2.1 37 = .ok (.ifCond .eq 18, 3) := by decide +kernel
theorem d_Mo_put_40 : decode M_Mo_put.2.1 40 = .ok (.iload 5, 2) := by decide +kernel
theorem d_Mo_put_42 : decode M_Mo_put.2.1 42 = .ok (.ifCond .lt 13, 3) := by decide +kernel
theorem d_Mo_put_45 : decode M_Mo_put.2.1 45 = .ok (.aload_n 0, 1) := by decide +kernel
theorem d_Mo_put_46 : decode M_Mo_put.2.1 46 = .ok (.getfield 102, 3) := by decide +kernel
theorem d_Mo_put_49 : decode M_Mo_put.2.1 49 = .ok (.iload 5, 2) := by decide +kernel
theorem d_Mo_put_51 : decode M_Mo_put.2.1 51 = .ok (.iload_n 3, 1) := by decide +kernel
theorem d_Mo_put_52 : decode M_Mo_put.2.1 52 = .ok (.iastore, 1) := by decide +kernel
theorem d_Mo_put_53 : decode M_Mo_put.2.1 53 = .ok (.iconst 0, 1) := by decide +kernel
theorem d_Mo_put_54 : decode M_Mo_put.2.1 54 = .ok (.ireturn, 1) := by decide +kernel
theorem d_Mo_put_55 : decode M_Mo_put.2.1 55 = .ok (.iload 4, 2) := by decide +kernel
end
section
/-! decode rows -/
theorem d_Mo_put_57 : decode M_Mo_put.2.1 57 = .ok (.ifCond .eq 103, 3) := by decide +kernel
theorem d_Mo_put_60 : decode M_Mo_put.2.1 60 = .ok (.iload 6, 2) := by decide +kernel
theorem d_Mo_put_62 : decode M_Mo_put.2.1 62 = .ok (.iconst 4, 1) := by decide +kernel
theorem d_Mo_put_63 : decode M_Mo_put.2.1 63 = .ok (.irem, 1) := by decide +kernel
theorem d_Mo_put_64 : decode M_Mo_put.2.1 64 = .ok (.ifCond .ne 10, 3) := by decide +kernel
theorem d_Mo_put_67 : decode M_Mo_put.2.1 67 = .ok (.aload_n 0, 1) := by decide +kernel
theorem d_Mo_put_68 : decode M_Mo_put.2.1 68 = .ok (.invokevirtual 118, 3) := by decide +kernel
theorem d_Mo_put_71 : decode M_Mo_put.2.1 71 = .ok (.goto 4, 3) := by decide +kernel
theorem d_Mo_put_74 : decode M_Mo_put.2.1 74 = .ok (.iconst 0, 1) := by decide +kernel
theorem d_Mo_put_75 : decode M_Mo_put.2.1 75 = .ok (.istore 7, 2) := by decide +kernel
theorem d_Mo_put_77 : decode M_Mo_put.2.1 77 = .ok (.iload 6, 2) := by decide +kernel
theorem d_Mo_put_79 : decode M_Mo_put.2.1 79 = .ok (.bipush 28, 2) := by decide +kernel
theorem d_Mo_put_81 : decode M_Mo_put.2.1 81 = .ok (.if_icmp .eq 8, 3) := by decide +kernel
theorem d_Mo_put_84 : decode M_Mo_put.2.1 84 = .ok (.iload 7, 2) := by decide +kernel
theorem d_Mo_put_86 : decode M_Mo_put.2.1 86 = .ok (.ifCond .ge 6, 3) := by decide +kernel
theorem d_Mo_put_89 : decode M_Mo_put.2.1 89 = .ok (.bipush (-2), 2) := by decide +kernel
theorem d_Mo_put_91 : decode M_Mo_put.2.1 91 = .ok (.ireturn, 1) := by decide +kernel
theorem d_Mo_put_92 : decode M_Mo_put.2.1 92 = .ok (.iload 6, 2) := by decide +kernel
theorem d_Mo_put_94 : decode M_Mo_put.2.1 94 = .ok (.iconst 4, 1) := by decide +kernel
theorem d_Mo_put_95 : decode M_Mo_put.2.1 95 = .ok (.irem, 1) := by decide +kernel
theorem d_Mo_put_96 : decode M_Mo_put.2.1 96 = .ok (.ifCond .ne 26, 3) := by decide +kernel
theorem d_Mo_put_99 : decode M_Mo_put.2.1 99 = .ok (.aload_n 0, 1) := by decide +kernel
theorem d_Mo_put_100 : decode M_Mo_put.2.1 100 = .ok (.iload_n 1, 1) := by decide +kernel
theorem d_Mo_put_101 : decode M_Mo_put.2.1 101 = .ok (.iload 7, 2) := by decide +kernel
theorem d_Mo_put_103 : decode M_Mo_put.2.1 103 = .ok (.invokevirtual 122, 3) := by decide +kernel
theorem d_Mo_put_106 : decode M_Mo_put.2.1 106 = .ok (.aload_n 0, 1) := by decide +kernel
theorem d_Mo_put_107 : decode M_Mo_put.2.1 107 = .ok (.getfield 93, 3) := by decide +kernel
theorem d_Mo_put_110 : decode M_Mo_put.2.1 110 = .ok (.iload_n 1, 1) := by decide +kernel
theorem d_Mo_put_111 : decode M_Mo_put.2.1 111 = .ok (.bipush 7, 2) := by decide +kernel
theorem d_Mo_put_113 : decode M_Mo_put.2.1 113 = .ok (.imul, 1) := by decide +kernel
theorem d_Mo_put_114 : decode M_Mo_put.2.1 114 = .ok (.iload 6, 2) := by decide +kernel
theorem d_Mo_put_116 : decode M_Mo_put.2.1 116 = .ok (.iconst 4, 1) := by decide +kernel
theorem d_Mo_put_117 : decode M_Mo_put.2.1 117 = .ok (.idiv, 1) := by decide +kernel
theorem d_Mo_put_118 : decode M_Mo_put.2.1 118 = .ok (.iadd, 1) := by decide +kernel
theorem d_Mo_put_119 : decode M_Mo_put.2.1 119 = .ok (.iload 7, 2) := by decide +kernel
theorem d_Mo_put_121 : decode M_Mo_put.2.1 121 = .ok (.iastore, 1) := by decide +kernel
theorem d_Mo_put_122 : decode M_Mo_put.2.1 122 = .ok (.aload_n 0, 1) := by decide +kernel
theorem d_Mo_put_123 : decode M_Mo_put.2.1 123 = .ok (.getfield 99, 3) := by decide +kernel
theorem d_Mo_put_126 : decode M_Mo_put.2.1 126 = .ok (.iload_n 1, 1) := by decide +kernel
theorem d_Mo_put_127 : decode M_Mo_put.2.1 127 = .ok (.bipush 28, 2) := by decide +kernel
theorem d_Mo_put_129 : decode M_Mo_put.2.1 129 = .ok (.imul, 1) := by decide +kernel
theorem d_Mo_put_130 : decode M_Mo_put.2.1 130 = .ok (.iload 6, 2) := by decide +kernel
theorem d_Mo_put_132 : decode M_Mo_put.2.1 132 = .ok (.iadd, 1) := by decide +kernel
theorem d_Mo_put_133 : decode M_Mo_put.2.1 133 = .ok (.iload_n 2, 1) := by decide +kernel
theorem d_Mo_put_134 : decode M_Mo_put.2.1 134 = .ok (.iastore, 1) := by decide +kernel
theorem d_Mo_put_135 : decode M_Mo_put.2.1 135 = .ok (.aload_n 0, 1) := by decide +kernel
theorem d_Mo_put_136 : decode M_Mo_put.2.1 136 = .ok (.getfield 102, 3) := by decide +kernel
theorem d_Mo_put_139 : decode M_Mo_put.2.1 139 = .ok (.iload_n 1, 1) := by decide +kernel
theorem d_Mo_put_140 : decode M_Mo_put.2.1 140 = .ok (.bipush 28, 2) := by decide +kernel
theorem d_Mo_put_142 : decode M_Mo_put.2.1 142 = .ok (.imul, 1) := by decide +kernel
theorem d_Mo_put_143 : decode M_Mo_put.2.1 143 = .ok (.iload 6, 2) := by decide +kernel
theorem d_Mo_put_145 : decode M_Mo_put.2.1 145 = .ok (.iadd, 1) := by decide +kernel
theorem d_Mo_put_146 : decode M_Mo_put.2.1 146 = .ok (.iload_n 3, 1) := by decide +kernel
theorem d_Mo_put_147 : decode M_Mo_put.2.1 147 = .ok (.iastore, 1) := by decide +kernel
theorem d_Mo_put_148 : decode M_Mo_put.2.1 148 = .ok (.aload_n 0, 1) := by decide +kernel
theorem d_Mo_put_149 : decode M_Mo_put.2.1 149 = .ok (.getfield 96, 3) := by decide +kernel
theorem d_Mo_put_152 : decode M_Mo_put.2.1 152 = .ok (.iload_n 1, 1) := by decide +kernel
theorem d_Mo_put_153 : decode M_Mo_put.2.1 153 = .ok (.dup2, 1) := by decide +kernel
theorem d_Mo_put_154 : decode M_Mo_put.2.1 154 = .ok (.iaload, 1) := by decide +kernel
theorem d_Mo_put_155 : decode M_Mo_put.2.1 155 = .ok (.iconst 1, 1) := by decide +kernel
theorem d_Mo_put_156 : decode M_Mo_put.2.1 156 = .ok (.iadd, 1) := by decide +kernel
theorem d_Mo_put_157 : decode M_Mo_put.2.1 157 = .ok (.iastore, 1) := by decide +kernel
theorem d_Mo_put_158 : decode M_Mo_put.2.1 158 = .ok (.iconst 0, 1) := by decide +kernel
theorem d_Mo_put_159 : decode M_Mo_put.2.1 159 = .ok (.ireturn, 1) := by decide +kernel
theorem d_Mo_put_160 : decode M_Mo_put.2.1 160 = .ok (.iload 5, 2) := by decide +kernel
theorem d_Mo_put_162 : decode M_Mo_put.2.1 162 = .ok (.ifCond .ge 5, 3) := by decide +kernel
theorem d_Mo_put_165 : decode M_Mo_put.2.1 165 = .ok (.iconst (-1), 1) := by decide +kernel
theorem d_Mo_put_166 : decode M_Mo_put.2.1 166 = .ok (.ireturn, 1) := by decide +kernel
theorem d_Mo_put_167 : decode M_Mo_put.2.1 167 = .ok (.aload_n 0, 1) := by decide +kernel
theorem d_Mo_put_168 : decode M_Mo_put.2.1 168 = .ok (.getfield 99, 3) := by decide +kernel
theorem d_Mo_put_171 : decode M_Mo_put.2.1 171 = .ok (.iload 5, 2) := by decide +kernel
theorem d_Mo_put_173 : decode M_Mo_put.2.1 173 = .ok (.aload_n 0, 1) := by decide +kernel
theorem d_Mo_put_174 : decode M_Mo_put.2.1 174 = .ok (.getfield 99, 3) := by decide +kernel
theorem d_Mo_put_177 : decode M_Mo_put.2.1 177 = .ok (.iload_n 1, 1) := by decide +kernel
theorem d_Mo_put_178 : decode M_Mo_put.2.1 178 = .ok (.bipush 28, 2) := by decide +kernel
theorem d_Mo_put_180 : decode M_Mo_put.2.1 180 = .ok (.imul, 1) := by decide +kernel
theorem d_Mo_put_181 : decode M_Mo_put.2.1 181 = .ok (.iload 6, 2) := by decide +kernel
theorem d_Mo_put_183 : decode M_Mo_put.2.1 183 = .ok (.iadd, 1) := by decide +kernel
theorem d_Mo_put_184 : decode M_Mo_put.2.1 184 = .ok (.iconst 1, 1) := by decide +kernel
theorem d_Mo_put_185 : decode M_Mo_put.2.1 185 = .ok (.isub, 1) := by decide +kernel
theorem d_Mo_put_186 : decode M_Mo_put.2.1 186 = .ok (.iaload, 1) := by decide +kernel
theorem d_Mo_put_187 : decode M_Mo_put.2.1 187 = .ok (.iastore, 1) := by decide +kernel
theorem d_Mo_put_188 : decode M_Mo_put.2.1 188 = .ok (.aload_n 0, 1) := by decide +kernel
theorem d_Mo_put_189 : decode M_Mo_put.2.1 189 = .ok (.getfield 102, 3) := by decide +kernel
theorem d_Mo_put_192 : decode M_Mo_put.2.1 192 = .ok (.iload 5, 2) := by decide +kernel
theorem d_Mo_put_194 : decode M_Mo_put.2.1 194 = .ok (.aload_n 0, 1) := by decide +kernel
theorem d_Mo_put_195 : decode M_Mo_put.2.1 195 = .ok (.getfield 102, 3) := by decide +kernel
theorem d_Mo_put_198 : decode M_Mo_put.2.1 198 = .ok (.iload_n 1, 1) := by decide +kernel
theorem d_Mo_put_199 : decode M_Mo_put.2.1 199 = .ok (.bipush 28, 2) := by decide +kernel
theorem d_Mo_put_201 : decode M_Mo_put.2.1 201 = .ok (.imul, 1) := by decide +kernel
theorem d_Mo_put_202 : decode M_Mo_put.2.1 202 = .ok (.iload 6, 2) := by decide +kernel
theorem d_Mo_put_204 : decode M_Mo_put.2.1 204 = .ok (.iadd, 1) := by decide +kernel
theorem d_Mo_put_205 : decode M_Mo_put.2.1 205 = .ok (.iconst 1, 1) := by decide +kernel
theorem d_Mo_put_206 : decode M_Mo_put.2.1 206 = .ok (.isub, 1) := by decide +kernel
theorem d_Mo_put_207 : decode M_Mo_put.2.1 207 = .ok (.iaload, 1) := by decide +kernel
theorem d_Mo_put_208 : decode M_Mo_put.2.1 208 = .ok (.iastore, 1) := by decide +kernel
theorem d_Mo_put_209 : decode M_Mo_put.2.1 209 = .ok (.aload_n 0, 1) := by decide +kernel
theorem d_Mo_put_210 : decode M_Mo_put.2.1 210 = .ok (.getfield 96, 3) := by decide +kernel
theorem d_Mo_put_213 : decode M_Mo_put.2.1 213 = .ok (.iload_n 1, 1) := by decide +kernel
theorem d_Mo_put_214 : decode M_Mo_put.2.1 214 = .ok (.dup2, 1) := by decide +kernel
theorem d_Mo_put_215 : decode M_Mo_put.2.1 215 = .ok (.iaload, 1) := by decide +kernel
theorem d_Mo_put_216 : decode M_Mo_put.2.1 216 = .ok (.iconst 1, 1) := by decide +kernel
theorem d_Mo_put_217 : decode M_Mo_put.2.1 217 = .ok (.isub, 1) := by decide +kernel
theorem d_Mo_put_218 : decode M_Mo_put.2.1 218 = .ok (.iastore, 1) := by decide +kernel
theorem d_Mo_put_219 : decode M_Mo_put.2.1 219 = .ok (.iload 6, 2) := by decide +kernel
theorem d_Mo_put_221 : decode M_Mo_put.2.1 221 = .ok (.iconst 4, 1) := by decide +kernel
theorem d_Mo_put_222 : decode M_Mo_put.2.1 222 = .ok (.irem, 1) := by decide +kernel
theorem d_Mo_put_223 : decode M_Mo_put.2.1 223 = .ok (.iconst 1, 1) := by decide +kernel
theorem d_Mo_put_224 : decode M_Mo_put.2.1 224 = .ok (.if_icmp .ne 23, 3) := by decide +kernel
theorem d_Mo_put_227 : decode M_Mo_put.2.1 227 = .ok (.aload_n 0, 1) := by decide +kernel
theorem d_Mo_put_228 : decode M_Mo_put.2.1 228 = .ok (.getfield 87, 3) := by decide +kernel
theorem d_Mo_put_231 : decode M_Mo_put.2.1 231 = .ok (.aload_n 0, 1) := by decide +kernel
theorem d_Mo_put_232 : decode M_Mo_put.2.1 232 = .ok (.getfield 93, 3) := by decide +kernel
theorem d_Mo_put_235 : decode M_Mo_put.2.1 235 = .ok (.iload_n 1, 1) := by decide +kernel
theorem d_Mo_put_236 : decode M_Mo_put.2.1 236 = .ok (.bipush 7, 2) := by decide +kernel
theorem d_Mo_put_238 : decode M_Mo_put.2.1 238 = .ok (.imul, 1) := by decide +kernel
theorem d_Mo_put_239 : decode M_Mo_put.2.1 239 = .ok (.iload 6, 2) := by decide +kernel
theorem d_Mo_put_241 : decode M_Mo_put.2.1 241 = .ok (.iconst 4, 1) := by decide +kernel
theorem d_Mo_put_242 : decode M_Mo_put.2.1 242 = .ok (.idiv, 1) := by decide +kernel
theorem d_Mo_put_243 : decode M_Mo_put.2.1 243 = .ok (.iadd, 1) := by decide +kernel
theorem d_Mo_put_244 : decode M_Mo_put.2.1 244 = .ok (.iaload, 1) := by decide +kernel
theorem d_Mo_put_245 : decode M_Mo_put.2.1 245 = .ok (.iconst (-1), 1) := by decide +kernel
theorem d_Mo_put_246 : decode M_Mo_put.2.1 246 = .ok (.iastore, 1) := by decide +kernel
theorem d_Mo_put_247 : decode M_Mo_put.2.1 247 = .ok (.iconst 0, 1) := by decide +kernel
theorem d_Mo_put_248 : decode M_Mo_put.2.1 248 = .ok (.ireturn, 1) := by decide +kernel
theorem d_Mo_entryOf_0 : decode M_Mo_entryOf.2.1 0 = .ok (.iload_n 1, 1) := by decide +kernel
theorem d_Mo_entryOf_1 : decode M_Mo_entryOf.2.1 1 = .ok (.bipush 28, 2) := by decide +kernel
theorem d_Mo_entryOf_3 : decode M_Mo_entryOf.2.1 3 = .ok (.imul, 1) := by decide +kernel
theorem d_Mo_entryOf_4 : decode M_Mo_entryOf.2.1 4 = .ok (.istore_n 3, 1) := by decide +kernel
theorem d_Mo_entryOf_5 : decode M_Mo_entryOf.2.1 5 = .ok (.iload_n 3, 1) := by decide +kernel
theorem d_Mo_entryOf_6 : decode M_Mo_entryOf.2.1 6 = .ok (.iload_n 1, 1) := by decide +kernel
theorem d_Mo_entryOf_7 : decode M_Mo_entryOf.2.1 7 = .ok (.bipush 28, 2) := by decide +kernel
theorem d_Mo_entryOf_9 : decode M_Mo_entryOf.2.1 9 = .ok (.imul, 1) := by decide +kernel
theorem d_Mo_entryOf_10 : decode M_Mo_entryOf.2.1 10 = .ok (.aload_n 0, 1) := by decide +kernel
theorem d_Mo_entryOf_11 : decode M_Mo_entryOf.2.1 11 = .ok (.getfield 96, 3) := by decide +kernel
theorem d_Mo_entryOf_14 : decode M_Mo_entryOf.2.1 14 = .ok (.iload_n 1, 1) := by decide +kernel
theorem d_Mo_entryOf_15 : decode M_Mo_entryOf.2.1 15 = .ok (.iaload, 1) := by decide +kernel
theorem d_Mo_entryOf_16 : decode M_Mo_entryOf.2.1 16 = .ok (.iadd, 1) := by decide +kernel
theorem d_Mo_entryOf_17 : decode M_Mo_entryOf.2.1 17 = .ok (.if_icmp .ge 21, 3) := by decide +kernel
theorem d_Mo_entryOf_20 : decode M_Mo_entryOf.2.1 20 = .ok (.aload_n 0, 1) := by decide +kernel
theorem d_Mo_entryOf_21 : decode M_Mo_entryOf.2.1 21 = .ok (.getfield 99, 3) := by decide +kernel
theorem d_Mo_entryOf_24 : decode M_Mo_entryOf.2.1 24 = .ok (.iload_n 3, 1) := by decide +kernel
theorem d_Mo_entryOf_25 : decode M_Mo_entryOf.2.1 25 = .ok (.iaload, 1) := by decide +kernel
theorem d_Mo_entryOf_26 : decode M_Mo_entryOf.2.1 26 = .ok (.iload_n 2, 1) := by decide +kernel
theorem d_Mo_entryOf_27 : decode M_Mo_entryOf.2.1 27 = .ok (.if_icmp .ne 5, 3) := by decide +kernel
theorem d_Mo_entryOf_30 : decode M_Mo_entryOf.2.1 30 = .ok (.iload_n 3, 1) := by decide +kernel
theorem d_Mo_entryOf_31 : decode M_Mo_entryOf.2.1 31 = .ok (.ireturn, 1) := by decide +kernel
theorem d_Mo_entryOf_32 : decode M_Mo_entryOf.2.1 32 = .ok (.iinc 3 1, 3) := by decide +kernel
theorem d_Mo_entryOf_35 : decode M_Mo_entryOf.2.1 35 = .ok (.goto (-30), 3) := by decide +kernel
theorem d_Mo_entryOf_38 : decode M_Mo_entryOf.2.1 38 = .ok (.iconst (-1), 1) := by decide +kernel
theorem d_Mo_entryOf_39 : decode M_Mo_entryOf.2.1 39 = .ok (.ireturn, 1) := by decide +kernel
theorem d_Mo_get_0 : decode M_Mo_get.2.1 0 = .ok (.aload_n 0, 1) := by decide +kernel
theorem d_Mo_get_1 : decode M_Mo_get.2.1 1 = .ok (.iload_n 1, 1) := by decide +kernel
theorem d_Mo_get_2 : decode M_Mo_get.2.1 2 = .ok (.invokevirtual 126, 3) := by decide +kernel
theorem d_Mo_get_5 : decode M_Mo_get.2.1 5 = .ok (.ifCond .eq 7, 3) := by decide +kernel
theorem d_Mo_get_8 : decode M_Mo_get.2.1 8 = .ok (.ldc2_w 137, 3) := by decide +kernel
theorem d_Mo_get_11 : decode M_Mo_get.2.1 11 = .ok (.lreturn, 1) := by decide +kernel
theorem d_Mo_get_12 : decode M_Mo_get.2.1 12 = .ok (.aload_n 0, 1) := by decide +kernel
theorem d_Mo_get_13 : decode M_Mo_get.2.1 13 = .ok (.getfield 13, 3) := by decide +kernel
theorem d_Mo_get_16 : decode M_Mo_get.2.1 16 = .ok (.iload_n 1, 1) := by decide +kernel
theorem d_Mo_get_17 : decode M_Mo_get.2.1 17 = .ok (.baload, 1) := by decide +kernel
theorem d_Mo_get_18 : decode M_Mo_get.2.1 18 = .ok (.ifCond .eq 28, 3) := by decide +kernel
theorem d_Mo_get_21 : decode M_Mo_get.2.1 21 = .ok (.aload_n 0, 1) := by decide +kernel
theorem d_Mo_get_22 : decode M_Mo_get.2.1 22 = .ok (.iload_n 1, 1) := by decide +kernel
theorem d_Mo_get_23 : decode M_Mo_get.2.1 23 = .ok (.iload_n 2, 1) := by decide +kernel
theorem d_Mo_get_24 : decode M_Mo_get.2.1 24 = .ok (.invokevirtual 151, 3) := by decide +kernel
theorem d_Mo_get_27 : decode M_Mo_get.2.1 27 = .ok (.istore_n 3, 1) := by decide +kernel
theorem d_Mo_get_28 : decode M_Mo_get.2.1 28 = .ok (.iload_n 3, 1) := by decide +kernel
theorem d_Mo_get_29 : decode M_Mo_get.2.1 29 = .ok (.ifCond .ge 9, 3) := by decide +kernel
theorem d_Mo_get_32 : decode M_Mo_get.2.1 32 = .ok (.ldc2_w 137, 3) := by decide +kernel
theorem d_Mo_get_35 : decode M_Mo_get.2.1 35 = .ok (.goto 10, 3) := by decide +kernel
theorem d_Mo_get_38 : decode M_Mo_get.2.1 38 = .ok (.aload_n 0, 1) := by decide +kernel
theorem d_Mo_get_39 : decode M_Mo_get.2.1 39 = .ok (.getfield 102, 3) := by decide +kernel
theorem d_Mo_get_42 : decode M_Mo_get.2.1 42 = .ok (.iload_n 3, 1) := by decide +kernel
theorem d_Mo_get_43 : decode M_Mo_get.2.1 43 = .ok (.iaload, 1) := by decide +kernel
theorem d_Mo_get_44 : decode M_Mo_get.2.1 44 = .ok (.i2l, 1) := by decide +kernel
theorem d_Mo_get_45 : decode M_Mo_get.2.1 45 = .ok (.lreturn, 1) := by decide +kernel
theorem d_Mo_get_46 : decode M_Mo_get.2.1 46 = .ok (.iload_n 2, 1) := by decide +kernel
theorem d_Mo_get_47 : decode M_Mo_get.2.1 47 = .ok (.ifCond .lt 27, 3) := by decide +kernel
theorem d_Mo_get_50 : decode M_Mo_get.2.1 50 = .ok (.iload_n 2, 1) := by decide +kernel
theorem d_Mo_get_51 : decode M_Mo_get.2.1 51 = .ok (.bipush 8, 2) := by decide +kernel
theorem d_Mo_get_53 : decode M_Mo_get.2.1 53 = .ok (.aload_n 0, 1) := by decide +kernel
theorem d_Mo_get_54 : decode M_Mo_get.2.1 54 = .ok (.getfield 108, 3) := by decide +kernel
theorem d_Mo_get_57 : decode M_Mo_get.2.1 57 = .ok (.imul, 1) := by decide +kernel
theorem d_Mo_get_58 : decode M_Mo_get.2.1 58 = .ok (.if_icmp .ge 16, 3) := by decide +kernel
theorem d_Mo_get_61 : decode M_Mo_get.2.1 61 = .ok (.aload_n 0, 1) := by decide +kernel
theorem d_Mo_get_62 : decode M_Mo_get.2.1 62 = .ok (.getfield 87, 3) := by decide +kernel
theorem d_Mo_get_65 : decode M_Mo_get.2.1 65 = .ok (.iload_n 2, 1) := by decide +kernel
theorem d_Mo_get_66 : decode M_Mo_get.2.1 66 = .ok (.bipush 8, 2) := by decide +kernel
theorem d_Mo_get_68 : decode M_Mo_get.2.1 68 = .ok (.idiv, 1) := by decide +kernel
theorem d_Mo_get_69 : decode M_Mo_get.2.1 69 = .ok (.iaload, 1) := by decide +kernel
theorem d_Mo_get_70 : decode M_Mo_get.2.1 70 = .ok (.iload_n 1, 1) := by decide +kernel
theorem d_Mo_get_71 : decode M_Mo_get.2.1 71 = .ok (.if_icmp .eq 9, 3) := by decide +kernel
theorem d_Mo_get_74 : decode M_Mo_get.2.1 74 = .ok (.ldc2_w 137, 3) := by decide +kernel
theorem d_Mo_get_77 : decode M_Mo_get.2.1 77 = .ok (.goto 10, 3) := by decide +kernel
theorem d_Mo_get_80 : decode M_Mo_get.2.1 80 = .ok (.aload_n 0, 1) := by decide +kernel
theorem d_Mo_get_81 : decode M_Mo_get.2.1 81 = .ok (.getfield 90, 3) := by decide +kernel
theorem d_Mo_get_84 : decode M_Mo_get.2.1 84 = .ok (.iload_n 2, 1) := by decide +kernel
theorem d_Mo_get_85 : decode M_Mo_get.2.1 85 = .ok (.iaload, 1) := by decide +kernel
theorem d_Mo_get_86 : decode M_Mo_get.2.1 86 = .ok (.i2l, 1) := by decide +kernel
theorem d_Mo_get_87 : decode M_Mo_get.2.1 87 = .ok (.lreturn, 1) := by decide +kernel
theorem d_Mo_holder_0 : decode M_Mo_holder.2.1 0 = .ok (.iload_n 1, 1) := by decide +kernel
theorem d_Mo_holder_1 : decode M_Mo_holder.2.1 1 = .ok (.ifCond .ne 26, 3) := by decide +kernel
theorem d_Mo_holder_4 : decode M_Mo_holder.2.1 4 = .ok (.aload_n 0, 1) := by decide +kernel
theorem d_Mo_holder_5 : decode M_Mo_holder.2.1 5 = .ok (.iload_n 2, 1) := by decide +kernel
theorem d_Mo_holder_6 : decode M_Mo_holder.2.1 6 = .ok (.aload_n 0, 1) := by decide +kernel
theorem d_Mo_holder_7 : decode M_Mo_holder.2.1 7 = .ok (.getfield 105, 3) := by decide +kernel
theorem d_Mo_holder_10 : decode M_Mo_holder.2.1 10 = .ok (.invokevirtual 111, 3) := by decide +kernel
theorem d_Mo_holder_13 : decode M_Mo_holder.2.1 13 = .ok (.ifCond .eq 7, 3) := by decide +kernel
theorem d_Mo_holder_16 : decode M_Mo_holder.2.1 16 = .ok (.iconst (-1), 1) := by decide +kernel
theorem d_Mo_holder_17 : decode M_Mo_holder.2.1 17 = .ok (.goto 9, 3) := by decide +kernel
theorem d_Mo_holder_20 : decode M_Mo_holder.2.1 20 = .ok (.aload_n 0, 1) := by decide +kernel
theorem d_Mo_holder_21 : decode M_Mo_holder.2.1 21 = .ok (.getfield 33, 3) := by decide +kernel
theorem d_Mo_holder_24 : decode M_Mo_holder.2.1 24 = .ok (.iload_n 2, 1) := by decide +kernel
theorem d_Mo_holder_25 : decode M_Mo_holder.2.1 25 = .ok (.iaload, 1) := by decide +kernel
theorem d_Mo_holder_26 : decode M_Mo_holder.2.1 26 = .ok (.ireturn, 1) := by decide +kernel
theorem d_Mo_holder_27 : decode M_Mo_holder.2.1 27 = .ok (.iload_n 1, 1) := by decide +kernel
theorem d_Mo_holder_28 : decode M_Mo_holder.2.1 28 = .ok (.iconst 1, 1) := by decide +kernel
theorem d_Mo_holder_29 : decode M_Mo_holder.2.1 29 = .ok (.if_icmp .ne 26, 3) := by decide +kernel
theorem d_Mo_holder_32 : decode M_Mo_holder.2.1 32 = .ok (.aload_n 0, 1) := by decide +kernel
theorem d_Mo_holder_33 : decode M_Mo_holder.2.1 33 = .ok (.iload_n 2, 1) := by decide +kernel
theorem d_Mo_holder_34 : decode M_Mo_holder.2.1 34 = .ok (.aload_n 0, 1) := by decide +kernel
theorem d_Mo_holder_35 : decode M_Mo_holder.2.1 35 = .ok (.getfield 108, 3) := by decide +kernel
theorem d_Mo_holder_38 : decode M_Mo_holder.2.1 38 = .ok (.invokevirtual 111, 3) := by decide +kernel
theorem d_Mo_holder_41 : decode M_Mo_holder.2.1 41 = .ok (.ifCond .eq 7, 3) := by decide +kernel
theorem d_Mo_holder_44 : decode M_Mo_holder.2.1 44 = .ok (.iconst (-1), 1) := by decide +kernel
theorem d_Mo_holder_45 : decode M_Mo_holder.2.1 45 = .ok (.goto 9, 3) := by decide +kernel
theorem d_Mo_holder_48 : decode M_Mo_holder.2.1 48 = .ok (.aload_n 0, 1) := by decide +kernel
theorem d_Mo_holder_49 : decode M_Mo_holder.2.1 49 = .ok (.getfield 87, 3) := by decide +kernel
theorem d_Mo_holder_52 : decode M_Mo_holder.2.1 52 = .ok (.iload_n 2, 1) := by decide +kernel
theorem d_Mo_holder_53 : decode M_Mo_holder.2.1 53 = .ok (.iaload, 1) := by decide +kernel
theorem d_Mo_holder_54 : decode M_Mo_holder.2.1 54 = .ok (.ireturn, 1) := by decide +kernel
theorem d_Mo_holder_55 : decode M_Mo_holder.2.1 55 = .ok (.aload_n 0, 1) := by decide +kernel
theorem d_Mo_holder_56 : decode M_Mo_holder.2.1 56 = .ok (.iload_n 1, 1) := by decide +kernel
theorem d_Mo_holder_57 : decode M_Mo_holder.2.1 57 = .ok (.bipush 8, 2) := by decide +kernel
theorem d_Mo_holder_59 : decode M_Mo_holder.2.1 59 = .ok (.invokevirtual 111, 3) := by decide +kernel
theorem d_Mo_holder_62 : decode M_Mo_holder.2.1 62 = .ok (.ifCond .ne 25, 3) := by decide +kernel
theorem d_Mo_holder_65 : decode M_Mo_holder.2.1 65 = .ok (.aload_n 0, 1) := by decide +kernel
theorem d_Mo_holder_66 : decode M_Mo_holder.2.1 66 = .ok (.iload_n 2, 1) := by decide +kernel
theorem d_Mo_holder_67 : decode M_Mo_holder.2.1 67 = .ok (.bipush 8, 2) := by decide +kernel
theorem d_Mo_holder_69 : decode M_Mo_holder.2.1 69 = .ok (.invokevirtual 111, 3) := by decide +kernel
theorem d_Mo_holder_72 : decode M_Mo_holder.2.1 72 = .ok (.ifCond .ne 15, 3) := by decide +kernel
theorem d_Mo_holder_75 : decode M_Mo_holder.2.1 75 = .ok (.iload_n 2, 1) := by decide +kernel
theorem d_Mo_holder_76 : decode M_Mo_holder.2.1 76 = .ok (.aload_n 0, 1) := by decide +kernel
theorem d_Mo_holder_77 : decode M_Mo_holder.2.1 77 = .ok (.getfield 51, 3) := by decide +kernel
theorem d_Mo_holder_80 : decode M_Mo_holder.2.1 80 = .ok (.iload_n 1, 1) := by decide +kernel
theorem d_Mo_holder_81 : decode M_Mo_holder.2.1 81 = .ok (.iconst 2, 1) := by decide +kernel
theorem d_Mo_holder_82 : decode M_Mo_holder.2.1 82 = .ok (.isub, 1) := by decide +kernel
theorem d_Mo_holder_83 : decode M_Mo_holder.2.1 83 = .ok (.iaload, 1) := by decide +kernel
theorem d_Mo_holder_84 : decode M_Mo_holder.2.1 84 = .ok (.if_icmp .lt 5, 3) := by decide +kernel
theorem d_Mo_holder_87 : decode M_Mo_holder.2.1 87 = .ok (.iconst (-1), 1) := by decide +kernel
theorem d_Mo_holder_88 : decode M_Mo_holder.2.1 88 = .ok (.ireturn, 1) := by decide +kernel
theorem d_Mo_holder_89 : decode M_Mo_holder.2.1 89 = .ok (.aload_n 0, 1) := by decide +kernel
theorem d_Mo_holder_90 : decode M_Mo_holder.2.1 90 = .ok (.getfield 48, 3) := by decide +kernel
theorem d_Mo_holder_93 : decode M_Mo_holder.2.1 93 = .ok (.iload_n 1, 1) := by decide +kernel
theorem d_Mo_holder_94 : decode M_Mo_holder.2.1 94 = .ok (.iconst 2, 1) := by decide +kernel
theorem d_Mo_holder_95 : decode M_Mo_holder.2.1 95 = .ok (.isub, 1) := by decide +kernel
theorem d_Mo_holder_96 : decode M_Mo_holder.2.1 96 = .ok (.bipush 8, 2) := by decide +kernel
theorem d_Mo_holder_98 : decode M_Mo_holder.2.1 98 = .ok (.imul, 1) := by decide +kernel
theorem d_Mo_holder_99 : decode M_Mo_holder.2.1 99 = .ok (.iload_n 2, 1) := by decide +kernel
theorem d_Mo_holder_100 : decode M_Mo_holder.2.1 100 = .ok (.iadd, 1) := by decide +kernel
theorem d_Mo_holder_101 : decode M_Mo_holder.2.1 101 = .ok (.iaload, 1) := by decide +kernel
theorem d_Mo_holder_102 : decode M_Mo_holder.2.1 102 = .ok (.ireturn, 1) := by decide +kernel
theorem d_Mo_count_0 : decode M_Mo_count.2.1 0 = .ok (.aload_n 0, 1) := by decide +kernel
theorem d_Mo_count_1 : decode M_Mo_count.2.1 1 = .ok (.iload_n 1, 1) := by decide +kernel
theorem d_Mo_count_2 : decode M_Mo_count.2.1 2 = .ok (.bipush 9, 2) := by decide +kernel
theorem d_Mo_count_4 : decode M_Mo_count.2.1 4 = .ok (.invokevirtual 111, 3) := by decide +kernel
theorem d_Mo_count_7 : decode M_Mo_count.2.1 7 = .ok (.ifCond .ne 18, 3) := by decide +kernel
theorem d_Mo_count_10 : decode M_Mo_count.2.1 10 = .ok (.iload_n 1, 1) := by decide +kernel
theorem d_Mo_count_11 : decode M_Mo_count.2.1 11 = .ok (.iconst 2, 1) := by decide +kernel
theorem d_Mo_count_12 : decode M_Mo_count.2.1 12 = .ok (.if_icmp .le 15, 3) := by decide +kernel
theorem d_Mo_count_15 : decode M_Mo_count.2.1 15 = .ok (.aload_n 0, 1) := by decide +kernel
theorem d_Mo_count_16 : decode M_Mo_count.2.1 16 = .ok (.iload_n 2, 1) := by decide +kernel
theorem d_Mo_count_17 : decode M_Mo_count.2.1 17 = .ok (.bipush 6, 2) := by decide +kernel
theorem d_Mo_count_19 : decode M_Mo_count.2.1 19 = .ok (.invokevirtual 111, 3) := by decide +kernel
theorem d_Mo_count_22 : decode M_Mo_count.2.1 22 = .ok (.ifCond .eq 5, 3) := by decide +kernel
theorem d_Mo_count_25 : decode M_Mo_count.2.1 25 = .ok (.iconst (-1), 1) := by decide +kernel
theorem d_Mo_count_26 : decode M_Mo_count.2.1 26 = .ok (.ireturn, 1) := by decide +kernel
theorem d_Mo_count_27 : decode M_Mo_count.2.1 27 = .ok (.iload_n 1, 1) := by decide +kernel
theorem d_Mo_count_28 : decode M_Mo_count.2.1 28 = .ok (.ifCond .ne 10, 3) := by decide +kernel
theorem d_Mo_count_31 : decode M_Mo_count.2.1 31 = .ok (.aload_n 0, 1) := by decide +kernel
theorem d_Mo_count_32 : decode M_Mo_count.2.1 32 = .ok (.iconst (-1), 1) := by decide +kernel
theorem d_Mo_count_33 : decode M_Mo_count.2.1 33 = .ok (.iconst 0, 1) := by decide +kernel
theorem d_Mo_count_34 : decode M_Mo_count.2.1 34 = .ok (.invokevirtual 155, 3) := by decide +kernel
theorem d_Mo_count_37 : decode M_Mo_count.2.1 37 = .ok (.ireturn, 1) := by decide +kernel
theorem d_Mo_count_38 : decode M_Mo_count.2.1 38 = .ok (.iload_n 1, 1) := by decide +kernel
theorem d_Mo_count_39 : decode M_Mo_count.2.1 39 = .ok (.iconst 1, 1) := by decide +kernel
theorem d_Mo_count_40 : decode M_Mo_count.2.1 40 = .ok (.if_icmp .ne 9, 3) := by decide +kernel
theorem d_Mo_count_43 : decode M_Mo_count.2.1 43 = .ok (.aload_n 0, 1) := by decide +kernel
theorem d_Mo_count_44 : decode M_Mo_count.2.1 44 = .ok (.iconst (-1), 1) := by decide +kernel
theorem d_Mo_count_45 : decode M_Mo_count.2.1 45 = .ok (.invokevirtual 159, 3) := by decide +kernel
theorem d_Mo_count_48 : decode M_Mo_count.2.1 48 = .ok (.ireturn, 1) := by decide +kernel
theorem d_Mo_count_49 : decode M_Mo_count.2.1 49 = .ok (.iload_n 1, 1) := by decide +kernel
theorem d_Mo_count_50 : decode M_Mo_count.2.1 50 = .ok (.iconst 2, 1) := by decide +kernel
theorem d_Mo_count_51 : decode M_Mo_count.2.1 51 = .ok (.if_icmp .ne 8, 3) := by decide +kernel
theorem d_Mo_count_54 : decode M_Mo_count.2.1 54 = .ok (.aload_n 0, 1) := by decide +kernel
theorem d_Mo_count_55 : decode M_Mo_count.2.1 55 = .ok (.getfield 30, 3) := by decide +kernel
theorem d_Mo_count_58 : decode M_Mo_count.2.1 58 = .ok (.ireturn, 1) := by decide +kernel
theorem d_Mo_count_59 : decode M_Mo_count.2.1 59 = .ok (.aload_n 0, 1) := by decide +kernel
theorem d_Mo_count_60 : decode M_Mo_count.2.1 60 = .ok (.getfield 7, 3) := by decide +kernel
theorem d_Mo_count_63 : decode M_Mo_count.2.1 63 = .ok (.iload_n 2, 1) := by decide +kernel
theorem d_Mo_count_64 : decode M_Mo_count.2.1 64 = .ok (.baload, 1) := by decide +kernel
theorem d_Mo_count_65 : decode M_Mo_count.2.1 65 = .ok (.ifCond .ne 5, 3) := by decide +kernel
theorem d_Mo_count_68 : decode M_Mo_count.2.1 68 = .ok (.iconst 0, 1) := by decide +kernel
theorem d_Mo_count_69 : decode M_Mo_count.2.1 69 = .ok (.ireturn, 1) := by decide +kernel
theorem d_Mo_count_70 : decode M_Mo_count.2.1 70 = .ok (.iload_n 1, 1) := by decide +kernel
theorem d_Mo_count_71 : decode M_Mo_count.2.1 71 = .ok (.iconst 5, 1) := by decide +kernel
theorem d_Mo_count_72 : decode M_Mo_count.2.1 72 = .ok (.if_icmp .ge 19, 3) := by decide +kernel
theorem d_Mo_count_75 : decode M_Mo_count.2.1 75 = .ok (.aload_n 0, 1) := by decide +kernel
theorem d_Mo_count_76 : decode M_Mo_count.2.1 76 = .ok (.iload_n 2, 1) := by decide +kernel
theorem d_Mo_count_77 : decode M_Mo_count.2.1 77 = .ok (.iload_n 1, 1) := by decide +kernel
theorem d_Mo_count_78 : decode M_Mo_count.2.1 78 = .ok (.iconst 4, 1) := by decide +kernel
theorem d_Mo_count_79 : decode M_Mo_count.2.1 79 = .ok (.if_icmp .ne 7, 3) := by decide +kernel
theorem d_Mo_count_82 : decode M_Mo_count.2.1 82 = .ok (.iconst 1, 1) := by decide +kernel
theorem d_Mo_count_83 : decode M_Mo_count.2.1 83 = .ok (.goto 4, 3) := by decide +kernel
theorem d_Mo_count_86 : decode M_Mo_count.2.1 86 = .ok (.iconst 0, 1) := by decide +kernel
theorem d_Mo_count_87 : decode M_Mo_count.2.1 87 = .ok (.invokevirtual 155, 3) := by decide +kernel
theorem d_Mo_count_90 : decode M_Mo_count.2.1 90 = .ok (.ireturn, 1) := by decide +kernel
theorem d_Mo_count_91 : decode M_Mo_count.2.1 91 = .ok (.iload_n 1, 1) := by decide +kernel
theorem d_Mo_count_92 : decode M_Mo_count.2.1 92 = .ok (.iconst 5, 1) := by decide +kernel
theorem d_Mo_count_93 : decode M_Mo_count.2.1 93 = .ok (.if_icmp .ne 10, 3) := by decide +kernel
theorem d_Mo_count_96 : decode M_Mo_count.2.1 96 = .ok (.aload_n 0, 1) := by decide +kernel
theorem d_Mo_count_97 : decode M_Mo_count.2.1 97 = .ok (.getfield 72, 3) := by decide +kernel
theorem d_Mo_count_100 : decode M_Mo_count.2.1 100 = .ok (.iload_n 2, 1) := by decide +kernel
theorem d_Mo_count_101 : decode M_Mo_count.2.1 101 = .ok (.iaload, 1) := by decide +kernel
theorem d_Mo_count_102 : decode M_Mo_count.2.1 102 = .ok (.ireturn, 1) := by decide +kernel
theorem d_Mo_count_103 : decode M_Mo_count.2.1 103 = .ok (.iload_n 1, 1) := by decide +kernel
theorem d_Mo_count_104 : decode M_Mo_count.2.1 104 = .ok (.bipush 6, 2) := by decide +kernel
theorem d_Mo_count_106 : decode M_Mo_count.2.1 106 = .ok (.if_icmp .ne 9, 3) := by decide +kernel
theorem d_Mo_count_109 : decode M_Mo_count.2.1 109 = .ok (.aload_n 0, 1) := by decide +kernel
theorem d_Mo_count_110 : decode M_Mo_count.2.1 110 = .ok (.iload_n 2, 1) := by decide +kernel
theorem d_Mo_count_111 : decode M_Mo_count.2.1 111 = .ok (.invokevirtual 159, 3) := by decide +kernel
theorem d_Mo_count_114 : decode M_Mo_count.2.1 114 = .ok (.ireturn, 1) := by decide +kernel
theorem d_Mo_count_115 : decode M_Mo_count.2.1 115 = .ok (.iload_n 1, 1) := by decide +kernel
theorem d_Mo_count_116 : decode M_Mo_count.2.1 116 = .ok (.bipush 8, 2) := by decide +kernel
theorem d_Mo_count_118 : decode M_Mo_count.2.1 118 = .ok (.if_icmp .ne 23, 3) := by decide +kernel
theorem d_Mo_count_121 : decode M_Mo_count.2.1 121 = .ok (.aload_n 0, 1) := by decide +kernel
theorem d_Mo_count_122 : decode M_Mo_count.2.1 122 = .ok (.getfield 13, 3) := by decide +kernel
theorem d_Mo_count_125 : decode M_Mo_count.2.1 125 = .ok (.iload_n 2, 1) := by decide +kernel
theorem d_Mo_count_126 : decode M_Mo_count.2.1 126 = .ok (.baload, 1) := by decide +kernel
theorem d_Mo_count_127 : decode M_Mo_count.2.1 127 = .ok (.ifCond .eq 12, 3) := by decide +kernel
theorem d_Mo_count_130 : decode M_Mo_count.2.1 130 = .ok (.aload_n 0, 1) := by decide +kernel
theorem d_Mo_count_131 : decode M_Mo_count.2.1 131 = .ok (.getfield 96, 3) := by decide +kernel
theorem d_Mo_count_134 : decode M_Mo_count.2.1 134 = .ok (.iload_n 2, 1) := by decide +kernel
theorem d_Mo_count_135 : decode M_Mo_count.2.1 135 = .ok (.iaload, 1) := by decide +kernel
theorem d_Mo_count_136 : decode M_Mo_count.2.1 136 = .ok (.goto 4, 3) := by decide +kernel
theorem d_Mo_count_139 : decode M_Mo_count.2.1 139 = .ok (.iconst 0, 1) := by decide +kernel
theorem d_Mo_count_140 : decode M_Mo_count.2.1 140 = .ok (.ireturn, 1) := by decide +kernel
theorem d_Mo_count_141 : decode M_Mo_count.2.1 141 = .ok (.iconst 0, 1) := by decide +kernel
theorem d_Mo_count_142 : decode M_Mo_count.2.1 142 = .ok (.istore_n 3, 1) := by decide +kernel
theorem d_Mo_count_143 : decode M_Mo_count.2.1 143 = .ok (.iload_n 3, 1) := by decide +kernel
theorem d_Mo_count_144 : decode M_Mo_count.2.1 144 = .ok (.aload_n 0, 1) := by decide +kernel
theorem d_Mo_count_145 : decode M_Mo_count.2.1 145 = .ok (.getfield 63, 3) := by decide +kernel
theorem d_Mo_count_148 : decode M_Mo_count.2.1 148 = .ok (.if_icmp .ge 23, 3) := by decide +kernel
theorem d_Mo_count_151 : decode M_Mo_count.2.1 151 = .ok (.aload_n 0, 1) := by decide +kernel
theorem d_Mo_count_152 : decode M_Mo_count.2.1 152 = .ok (.getfield 60, 3) := by decide +kernel
theorem d_Mo_count_155 : decode M_Mo_count.2.1 155 = .ok (.iload_n 3, 1) := by decide +kernel
theorem d_Mo_count_156 : decode M_Mo_count.2.1 156 = .ok (.iaload, 1) := by decide +kernel
theorem d_Mo_count_157 : decode M_Mo_count.2.1 157 = .ok (.iload_n 2, 1) := by decide +kernel
theorem d_Mo_count_158 : decode M_Mo_count.2.1 158 = .ok (.if_icmp .ne 7, 3) := by decide +kernel
theorem d_Mo_count_161 : decode M_Mo_count.2.1 161 = .ok (.iload_n 3, 1) := by decide +kernel
theorem d_Mo_count_162 : decode M_Mo_count.2.1 162 = .ok (.iconst 1, 1) := by decide +kernel
theorem d_Mo_count_163 : decode M_Mo_count.2.1 163 = .ok (.iadd, 1) := by decide +kernel
theorem d_Mo_count_164 : decode M_Mo_count.2.1 164 = .ok (.ireturn, 1) := by decide +kernel
theorem d_Mo_count_165 : decode M_Mo_count.2.1 165 = .ok (.iinc 3 1, 3) := by decide +kernel
theorem d_Mo_count_168 : decode M_Mo_count.2.1 168 = .ok (.goto (-25), 3) := by decide +kernel
theorem d_Mo_count_171 : decode M_Mo_count.2.1 171 = .ok (.iconst 0, 1) := by decide +kernel
theorem d_Mo_count_172 : decode M_Mo_count.2.1 172 = .ok (.ireturn, 1) := by decide +kernel
theorem d_Mo_pagesOf_0 : decode M_Mo_pagesOf.2.1 0 = .ok (.iconst 0, 1) := by decide +kernel
theorem d_Mo_pagesOf_1 : decode M_Mo_pagesOf.2.1 1 = .ok (.istore_n 3, 1) := by decide +kernel
theorem d_Mo_pagesOf_2 : decode M_Mo_pagesOf.2.1 2 = .ok (.iconst 0, 1) := by decide +kernel
theorem d_Mo_pagesOf_3 : decode M_Mo_pagesOf.2.1 3 = .ok (.istore 4, 2) := by decide +kernel
theorem d_Mo_pagesOf_5 : decode M_Mo_pagesOf.2.1 5 = .ok (.iload 4, 2) := by decide +kernel
theorem d_Mo_pagesOf_7 : decode M_Mo_pagesOf.2.1 7 = .ok (.aload_n 0, 1) := by decide +kernel
theorem d_Mo_pagesOf_8 : decode M_Mo_pagesOf.2.1 8 = .ok (.getfield 105, 3) := by decide +kernel
theorem d_Mo_pagesOf_11 : decode M_Mo_pagesOf.2.1 11 = .ok (.if_icmp .ge 37, 3) := by decide +kernel
theorem d_Mo_pagesOf_14 : decode M_Mo_pagesOf.2.1 14 = .ok (.aload_n 0, 1) := by decide +kernel
theorem d_Mo_pagesOf_15 : decode M_Mo_pagesOf.2.1 15 = .ok (.getfield 33, 3) := by decide +kernel
theorem d_Mo_pagesOf_18 : decode M_Mo_pagesOf.2.1 18 = .ok (.iload 4, 2) := by decide +kernel
theorem d_Mo_pagesOf_20 : decode M_Mo_pagesOf.2.1 20 = .ok (.iaload, 1) := by decide +kernel
theorem d_Mo_pagesOf_21 : decode M_Mo_pagesOf.2.1 21 = .ok (.iload_n 1, 1) := by decide +kernel
theorem d_Mo_pagesOf_22 : decode M_Mo_pagesOf.2.1 22 = .ok (.if_icmp .ne 20, 3) := by decide +kernel
theorem d_Mo_pagesOf_25 : decode M_Mo_pagesOf.2.1 25 = .ok (.iload_n 2, 1) := by decide +kernel
theorem d_Mo_pagesOf_26 : decode M_Mo_pagesOf.2.1 26 = .ok (.ifCond .eq 13, 3) := by decide +kernel
theorem d_Mo_pagesOf_29 : decode M_Mo_pagesOf.2.1 29 = .ok (.aload_n 0, 1) := by decide +kernel
theorem d_Mo_pagesOf_30 : decode M_Mo_pagesOf.2.1 30 = .ok (.getfield 39, 3) := by decide +kernel
theorem d_Mo_pagesOf_33 : decode M_Mo_pagesOf.2.1 33 = .ok (.iload 4, 2) := by decide +kernel
theorem d_Mo_pagesOf_35 : decode M_Mo_pagesOf.2.1 35 = .ok (.iaload, 1) := by decide +kernel
theorem d_Mo_pagesOf_36 : decode M_Mo_pagesOf.2.1 36 = .ok (.ifCond .le 6, 3) := by decide +kernel
theorem d_Mo_pagesOf_39 : decode M_Mo_pagesOf.2.1 39 = .ok (.iinc 3 1, 3) := by decide +kernel
theorem d_Mo_pagesOf_42 : decode M_Mo_pagesOf.2.1 42 = .ok (.iinc 4 1, 3) := by decide +kernel
theorem d_Mo_pagesOf_45 : decode M_Mo_pagesOf.2.1 45 = .ok (.goto (-40), 3) := by decide +kernel
theorem d_Mo_pagesOf_48 : decode M_Mo_pagesOf.2.1 48 = .ok (.iload_n 3, 1) := by decide +kernel
theorem d_Mo_pagesOf_49 : decode M_Mo_pagesOf.2.1 49 = .ok (.ireturn, 1) := by decide +kernel
theorem d_Mo_blocksOf_0 : decode M_Mo_blocksOf.2.1 0 = .ok (.iconst 0, 1) := by decide +kernel
theorem d_Mo_blocksOf_1 : decode M_Mo_blocksOf.2.1 1 = .ok (.istore_n 2, 1) := by decide +kernel
theorem d_Mo_blocksOf_2 : decode M_Mo_blocksOf.2.1 2 = .ok (.iconst 0, 1) := by decide +kernel
theorem d_Mo_blocksOf_3 : decode M_Mo_blocksOf.2.1 3 = .ok (.istore_n 3, 1) := by decide +kernel
theorem d_Mo_blocksOf_4 : decode M_Mo_blocksOf.2.1 4 = .ok (.iload_n 3, 1) := by decide +kernel
theorem d_Mo_blocksOf_5 : decode M_Mo_blocksOf.2.1 5 = .ok (.aload_n 0, 1) := by decide +kernel
theorem d_Mo_blocksOf_6 : decode M_Mo_blocksOf.2.1 6 = .ok (.getfield 108, 3) := by decide +kernel
theorem d_Mo_blocksOf_9 : decode M_Mo_blocksOf.2.1 9 = .ok (.if_icmp .ge 22, 3) := by decide +kernel
theorem d_Mo_blocksOf_12 : decode M_Mo_blocksOf.2.1 12 = .ok (.aload_n 0, 1) := by decide +kernel
theorem d_Mo_blocksOf_13 : decode M_Mo_blocksOf.2.1 13 = .ok (.getfield 87, 3) := by decide +kernel
theorem d_Mo_blocksOf_16 : decode M_Mo_blocksOf.2.1 16 = .ok (.iload_n 3, 1) := by decide +kernel
theorem d_Mo_blocksOf_17 : decode M_Mo_blocksOf.2.1 17 = .ok (.iaload, 1) := by decide +kernel
theorem d_Mo_blocksOf_18 : decode M_Mo_blocksOf.2.1 18 = .ok (.iload_n 1, 1) := by decide +kernel
theorem d_Mo_blocksOf_19 : decode M_Mo_blocksOf.2.1 19 = .ok (.if_icmp .ne 6, 3) := by decide +kernel
theorem d_Mo_blocksOf_22 : decode M_Mo_blocksOf.2.1 22 = .ok (.iinc 2 1, 3) := by decide +kernel
theorem d_Mo_blocksOf_25 : decode M_Mo_blocksOf.2.1 25 = .ok (.iinc 3 1, 3) := by decide +kernel
theorem d_Mo_blocksOf_28 : decode M_Mo_blocksOf.2.1 28 = .ok (.goto (-24), 3) := by decide +kernel
theorem d_Mo_blocksOf_31 : decode M_Mo_blocksOf.2.1 31 = .ok (.iload_n 2, 1) := by decide +kernel
theorem d_Mo_blocksOf_32 : decode M_Mo_blocksOf.2.1 32 = .ok (.ireturn, 1) := by decide +kernel
theorem d_Law_law_0 : decode M_Law_law.2.1 0 = .ok (.new 7, 3) := by decide +kernel
theorem d_Law_law_3 : decode M_Law_law.2.1 3 = .ok (.dup, 1) := by decide +kernel
theorem d_Law_law_4 : decode M_Law_law.2.1 4 = .ok (.aload_n 0, 1) := by decide +kernel
theorem d_Law_law_5 : decode M_Law_law.2.1 5 = .ok (.iconst 0, 1) := by decide +kernel
theorem d_Law_law_6 : decode M_Law_law.2.1 6 = .ok (.invokestatic 9, 3) := by decide +kernel
theorem d_Law_law_9 : decode M_Law_law.2.1 9 = .ok (.aload_n 0, 1) := by decide +kernel
theorem d_Law_law_10 : decode M_Law_law.2.1 10 = .ok (.iconst 1, 1) := by decide +kernel
theorem d_Law_law_11 : decode M_Law_law.2.1 11 = .ok (.invokestatic 9, 3) := by decide +kernel
theorem d_Law_law_14 : decode M_Law_law.2.1 14 = .ok (.invokespecial 15, 3) := by decide +kernel
theorem d_Law_law_17 : decode M_Law_law.2.1 17 = .ok (.astore_n 1, 1) := by decide +kernel
theorem d_Law_law_18 : decode M_Law_law.2.1 18 = .ok (.new 18, 3) := by decide +kernel
theorem d_Law_law_21 : decode M_Law_law.2.1 21 = .ok (.dup, 1) := by decide +kernel
theorem d_Law_law_22 : decode M_Law_law.2.1 22 = .ok (.aload_n 0, 1) := by decide +kernel
theorem d_Law_law_23 : decode M_Law_law.2.1 23 = .ok (.iconst 0, 1) := by decide +kernel
theorem d_Law_law_24 : decode M_Law_law.2.1 24 = .ok (.invokestatic 9, 3) := by decide +kernel
theorem d_Law_law_27 : decode M_Law_law.2.1 27 = .ok (.aload_n 0, 1) := by decide +kernel
theorem d_Law_law_28 : decode M_Law_law.2.1 28 = .ok (.iconst 1, 1) := by decide +kernel
theorem d_Law_law_29 : decode M_Law_law.2.1 29 = .ok (.invokestatic 9, 3) := by decide +kernel
theorem d_Law_law_32 : decode M_Law_law.2.1 32 = .ok (.invokespecial 20, 3) := by decide +kernel
theorem d_Law_law_35 : decode M_Law_law.2.1 35 = .ok (.astore_n 2, 1) := by decide +kernel
theorem d_Law_law_36 : decode M_Law_law.2.1 36 = .ok (.iconst 2, 1) := by decide +kernel
theorem d_Law_law_37 : decode M_Law_law.2.1 37 = .ok (.istore_n 3, 1) := by decide +kernel
theorem d_Law_law_38 : decode M_Law_law.2.1 38 = .ok (.iload_n 3, 1) := by decide +kernel
theorem d_Law_law_39 : decode M_Law_law.2.1 39 = .ok (.aload_n 0, 1) := by decide +kernel
theorem d_Law_law_40 : decode M_Law_law.2.1 40 = .ok (.arraylength, 1) := by decide +kernel
theorem d_Law_law_41 : decode M_Law_law.2.1 41 = .ok (.bipush 6, 2) := by decide +kernel
theorem d_Law_law_43 : decode M_Law_law.2.1 43 = .ok (.isub, 1) := by decide +kernel
theorem d_Law_law_44 : decode M_Law_law.2.1 44 = .ok (.if_icmp .gt 874, 3) := by decide +kernel
theorem d_Law_law_47 : decode M_Law_law.2.1 47 = .ok (.aload_n 0, 1) := by decide +kernel
theorem d_Law_law_48 : decode M_Law_law.2.1 48 = .ok (.iload_n 3, 1) := by decide +kernel
theorem d_Law_law_49 : decode M_Law_law.2.1 49 = .ok (.iaload, 1) := by decide +kernel
theorem d_Law_law_50 : decode M_Law_law.2.1 50 = .ok (.bipush 31, 2) := by decide +kernel
theorem d_Law_law_52 : decode M_Law_law.2.1 52 = .ok (.iand, 1) := by decide +kernel
theorem d_Law_law_53 : decode M_Law_law.2.1 53 = .ok (.tableswitch 859 0 19 #[95, 164, 187, 210, 243, 296, 349, 393, 436, 459, 522, 545, 568, 581, 614, 637, 690, 759, 793, 826], 95) := by decide +kernel
theorem d_Law_law_148 : decode M_Law_law.2.1 148 = .ok (.aload_n 1, 1) := by decide +kernel
theorem d_Law_law_149 : decode M_Law_law.2.1 149 = .ok (.aload_n 0, 1) := by decide +kernel
theorem d_Law_law_150 : decode M_Law_law.2.1 150 = .ok (.iload_n 3, 1) := by decide +kernel
theorem d_Law_law_151 : decode M_Law_law.2.1 151 = .ok (.iconst 1, 1) := by decide +kernel
theorem d_Law_law_152 : decode M_Law_law.2.1 152 = .ok (.iadd, 1) := by decide +kernel
theorem d_Law_law_153 : decode M_Law_law.2.1 153 = .ok (.iaload, 1) := by decide +kernel
theorem d_Law_law_154 : decode M_Law_law.2.1 154 = .ok (.aload_n 0, 1) := by decide +kernel
theorem d_Law_law_155 : decode M_Law_law.2.1 155 = .ok (.iload_n 3, 1) := by decide +kernel
theorem d_Law_law_156 : decode M_Law_law.2.1 156 = .ok (.iconst 2, 1) := by decide +kernel
theorem d_Law_law_157 : decode M_Law_law.2.1 157 = .ok (.iadd, 1) := by decide +kernel
theorem d_Law_law_158 : decode M_Law_law.2.1 158 = .ok (.iaload, 1) := by decide +kernel
theorem d_Law_law_159 : decode M_Law_law.2.1 159 = .ok (.ifCond .eq 7, 3) := by decide +kernel
theorem d_Law_law_162 : decode M_Law_law.2.1 162 = .ok (.iconst 1, 1) := by decide +kernel
theorem d_Law_law_163 : decode M_Law_law.2.1 163 = .ok (.goto 4, 3) := by decide +kernel
theorem d_Law_law_166 : decode M_Law_law.2.1 166 = .ok (.iconst 0, 1) := by decide +kernel
theorem d_Law_law_167 : decode M_Law_law.2.1 167 = .ok (.aload_n 0, 1) := by decide +kernel
theorem d_Law_law_168 : decode M_Law_law.2.1 168 = .ok (.iload_n 3, 1) := by decide +kernel
theorem d_Law_law_169 : decode M_Law_law.2.1 169 = .ok (.iconst 3, 1) := by decide +kernel
theorem d_Law_law_170 : decode M_Law_law.2.1 170 = .ok (.iadd, 1) := by decide +kernel
theorem d_Law_law_171 : decode M_Law_law.2.1 171 = .ok (.iaload, 1) := by decide +kernel
theorem d_Law_law_172 : decode M_Law_law.2.1 172 = .ok (.aload_n 0, 1) := by decide +kernel
theorem d_Law_law_173 : decode M_Law_law.2.1 173 = .ok (.iload_n 3, 1) := by decide +kernel
theorem d_Law_law_174 : decode M_Law_law.2.1 174 = .ok (.iconst 4, 1) := by decide +kernel
theorem d_Law_law_175 : decode M_Law_law.2.1 175 = .ok (.iadd, 1) := by decide +kernel
theorem d_Law_law_176 : decode M_Law_law.2.1 176 = .ok (.iaload, 1) := by decide +kernel
theorem d_Law_law_177 : decode M_Law_law.2.1 177 = .ok (.invokevirtual 21, 3) := by decide +kernel
theorem d_Law_law_180 : decode M_Law_law.2.1 180 = .ok (.aload_n 2, 1) := by decide +kernel
theorem d_Law_law_181 : decode M_Law_law.2.1 181 = .ok (.aload_n 0, 1) := by decide +kernel
theorem d_Law_law_182 : decode M_Law_law.2.1 182 = .ok (.iload_n 3, 1) := by decide +kernel
theorem d_Law_law_183 : decode M_Law_law.2.1 183 = .ok (.iconst 1, 1) := by decide +kernel
theorem d_Law_law_184 : decode M_Law_law.2.1 184 = .ok (.iadd, 1) := by decide +kernel
theorem d_Law_law_185 : decode M_Law_law.2.1 185 = .ok (.iaload, 1) := by decide +kernel
theorem d_Law_law_186 : decode M_Law_law.2.1 186 = .ok (.aload_n 0, 1) := by decide +kernel
theorem d_Law_law_187 : decode M_Law_law.2.1 187 = .ok (.iload_n 3, 1) := by decide +kernel
theorem d_Law_law_188 : decode M_Law_law.2.1 188 = .ok (.iconst 2, 1) := by decide +kernel
theorem d_Law_law_189 : decode M_Law_law.2.1 189 = .ok (.iadd, 1) := by decide +kernel
theorem d_Law_law_190 : decode M_Law_law.2.1 190 = .ok (.iaload, 1) := by decide +kernel
theorem d_Law_law_191 : decode M_Law_law.2.1 191 = .ok (.ifCond .eq 7, 3) := by decide +kernel
theorem d_Law_law_194 : decode M_Law_law.2.1 194 = .ok (.iconst 1, 1) := by decide +kernel
theorem d_Law_law_195 : decode M_Law_law.2.1 195 = .ok (.goto 4, 3) := by decide +kernel
theorem d_Law_law_198 : decode M_Law_law.2.1 198 = .ok (.iconst 0, 1) := by decide +kernel
theorem d_Law_law_199 : decode M_Law_law.2.1 199 = .ok (.aload_n 0, 1) := by decide +kernel
theorem d_Law_law_200 : decode M_Law_law.2.1 200 = .ok (.iload_n 3, 1) := by decide +kernel
theorem d_Law_law_201 : decode M_Law_law.2.1 201 = .ok (.iconst 3, 1) := by decide +kernel
theorem d_Law_law_202 : decode M_Law_law.2.1 202 = .ok (.iadd, 1) := by decide +kernel
theorem d_Law_law_203 : decode M_Law_law.2.1 203 = .ok (.iaload, 1) := by decide +kernel
theorem d_Law_law_204 : decode M_Law_law.2.1 204 = .ok (.aload_n 0, 1) := by decide +kernel
theorem d_Law_law_205 : decode M_Law_law.2.1 205 = .ok (.iload_n 3, 1) := by decide +kernel
theorem d_Law_law_206 : decode M_Law_law.2.1 206 = .ok (.iconst 4, 1) := by decide +kernel
theorem d_Law_law_207 : decode M_Law_law.2.1 207 = .ok (.iadd, 1) := by decide +kernel
theorem d_Law_law_208 : decode M_Law_law.2.1 208 = .ok (.iaload, 1) := by decide +kernel
theorem d_Law_law_209 : decode M_Law_law.2.1 209 = .ok (.invokevirtual 25, 3) := by decide +kernel
theorem d_Law_law_212 : decode M_Law_law.2.1 212 = .ok (.if_icmp .eq 700, 3) := by decide +kernel
theorem d_Law_law_215 : decode M_Law_law.2.1 215 = .ok (.iconst 0, 1) := by decide +kernel
theorem d_Law_law_216 : decode M_Law_law.2.1 216 = .ok (.ireturn, 1) := by decide +kernel
theorem d_Law_law_217 : decode M_Law_law.2.1 217 = .ok (.aload_n 1, 1) := by decide +kernel
theorem d_Law_law_218 : decode M_Law_law.2.1 218 = .ok (.aload_n 0, 1) := by decide +kernel
theorem d_Law_law_219 : decode M_Law_law.2.1 219 = .ok (.iload_n 3, 1) := by decide +kernel
theorem d_Law_law_220 : decode M_Law_law.2.1 220 = .ok (.iconst 1, 1) := by decide +kernel
theorem d_Law_law_221 : decode M_Law_law.2.1 221 = .ok (.iadd, 1) := by decide +kernel
theorem d_Law_law_222 : decode M_Law_law.2.1 222 = .ok (.iaload, 1) := by decide +kernel
theorem d_Law_law_223 : decode M_Law_law.2.1 223 = .ok (.invokevirtual 26, 3) := by decide +kernel
theorem d_Law_law_226 : decode M_Law_law.2.1 226 = .ok (.aload_n 2, 1) := by decide +kernel
theorem d_Law_law_227 : decode M_Law_law.2.1 227 = .ok (.aload_n 0, 1) := by decide +kernel
theorem d_Law_law_228 : decode M_Law_law.2.1 228 = .ok (.iload_n 3, 1) := by decide +kernel
theorem d_Law_law_229 : decode M_Law_law.2.1 229 = .ok (.iconst 1, 1) := by decide +kernel
theorem d_Law_law_230 : decode M_Law_law.2.1 230 = .ok (.iadd, 1) := by decide +kernel
theorem d_Law_law_231 : decode M_Law_law.2.1 231 = .ok (.iaload, 1) := by decide +kernel
theorem d_Law_law_232 : decode M_Law_law.2.1 232 = .ok (.invokevirtual 30, 3) := by decide +kernel
theorem d_Law_law_235 : decode M_Law_law.2.1 235 = .ok (.if_icmp .eq 677, 3) := by decide +kernel
theorem d_Law_law_238 : decode M_Law_law.2.1 238 = .ok (.iconst 0, 1) := by decide +kernel
theorem d_Law_law_239 : decode M_Law_law.2.1 239 = .ok (.ireturn, 1) := by decide +kernel
theorem d_Law_law_240 : decode M_Law_law.2.1 240 = .ok (.aload_n 1, 1) := by decide +kernel
theorem d_Law_law_241 : decode M_Law_law.2.1 241 = .ok (.aload_n 0, 1) := by decide +kernel
theorem d_Law_law_242 : decode M_Law_law.2.1 242 = .ok (.iload_n 3, 1) := by decide +kernel
theorem d_Law_law_243 : decode M_Law_law.2.1 243 = .ok (.iconst 1, 1) := by decide +kernel
theorem d_Law_law_244 : decode M_Law_law.2.1 244 = .ok (.iadd, 1) := by decide +kernel
theorem d_Law_law_245 : decode M_Law_law.2.1 245 = .ok (.iaload, 1) := by decide +kernel
theorem d_Law_law_246 : decode M_Law_law.2.1 246 = .ok (.invokevirtual 31, 3) := by decide +kernel
theorem d_Law_law_249 : decode M_Law_law.2.1 249 = .ok (.aload_n 2, 1) := by decide +kernel
theorem d_Law_law_250 : decode M_Law_law.2.1 250 = .ok (.aload_n 0, 1) := by decide +kernel
theorem d_Law_law_251 : decode M_Law_law.2.1 251 = .ok (.iload_n 3, 1) := by decide +kernel
theorem d_Law_law_252 : decode M_Law_law.2.1 252 = .ok (.iconst 1, 1) := by decide +kernel
theorem d_Law_law_253 : decode M_Law_law.2.1 253 = .ok (.iadd, 1) := by decide +kernel
theorem d_Law_law_254 : decode M_Law_law.2.1 254 = .ok (.iaload, 1) := by decide +kernel
theorem d_Law_law_255 : decode M_Law_law.2.1 255 = .ok (.invokevirtual 34, 3) := by decide +kernel
theorem d_Law_law_258 : decode M_Law_law.2.1 258 = .ok (.if_icmp .eq 654, 3) := by decide +kernel
theorem d_Law_law_261 : decode M_Law_law.2.1 261 = .ok (.iconst 0, 1) := by decide +kernel
theorem d_Law_law_262 : decode M_Law_law.2.1 262 = .ok (.ireturn, 1) := by decide +kernel
theorem d_Law_law_263 : decode M_Law_law.2.1 263 = .ok (.aload_n 1, 1) := by decide +kernel
theorem d_Law_law_264 : decode M_Law_law.2.1 264 = .ok (.aload_n 0, 1) := by decide +kernel
theorem d_Law_law_265 : decode M_Law_law.2.1 265 = .ok (.iload_n 3, 1) := by decide +kernel
theorem d_Law_law_266 : decode M_Law_law.2.1 266 = .ok (.iconst 1, 1) := by decide +kernel
theorem d_Law_law_267 : decode M_Law_law.2.1 267 = .ok (.iadd, 1) := by decide +kernel
theorem d_Law_law_268 : decode M_Law_law.2.1 268 = .ok (.iaload, 1) := by decide +kernel
theorem d_Law_law_269 : decode M_Law_law.2.1 269 = .ok (.aload_n 0, 1) := by decide +kernel
theorem d_Law_law_270 : decode M_Law_law.2.1 270 = .ok (.iload_n 3, 1) := by decide +kernel
theorem d_Law_law_271 : decode M_Law_law.2.1 271 = .ok (.iconst 2, 1) := by decide +kernel
theorem d_Law_law_272 : decode M_Law_law.2.1 272 = .ok (.iadd, 1) := by decide +kernel
theorem d_Law_law_273 : decode M_Law_law.2.1 273 = .ok (.iaload, 1) := by decide +kernel
theorem d_Law_law_274 : decode M_Law_law.2.1 274 = .ok (.invokevirtual 35, 3) := by decide +kernel
theorem d_Law_law_277 : decode M_Law_law.2.1 277 = .ok (.aload_n 2, 1) := by decide +kernel
theorem d_Law_law_278 : decode M_Law_law.2.1 278 = .ok (.aload_n 0, 1) := by decide +kernel
theorem d_Law_law_279 : decode M_Law_law.2.1 279 = .ok (.iload_n 3, 1) := by decide +kernel
theorem d_Law_law_280 : decode M_Law_law.2.1 280 = .ok (.iconst 1, 1) := by decide +kernel
theorem d_Law_law_281 : decode M_Law_law.2.1 281 = .ok (.iadd, 1) := by decide +kernel
theorem d_Law_law_282 : decode M_Law_law.2.1 282 = .ok (.iaload, 1) := by decide +kernel
theorem d_Law_law_283 : decode M_Law_law.2.1 283 = .ok (.aload_n 0, 1) := by decide +kernel
theorem d_Law_law_284 : decode M_Law_law.2.1 284 = .ok (.iload_n 3, 1) := by decide +kernel
theorem d_Law_law_285 : decode M_Law_law.2.1 285 = .ok (.iconst 2, 1) := by decide +kernel
theorem d_Law_law_286 : decode M_Law_law.2.1 286 = .ok (.iadd, 1) := by decide +kernel
theorem d_Law_law_287 : decode M_Law_law.2.1 287 = .ok (.iaload, 1) := by decide +kernel
theorem d_Law_law_288 : decode M_Law_law.2.1 288 = .ok (.invokevirtual 39, 3) := by decide +kernel
theorem d_Law_law_291 : decode M_Law_law.2.1 291 = .ok (.if_icmp .eq 621, 3) := by decide +kernel
theorem d_Law_law_294 : decode M_Law_law.2.1 294 = .ok (.iconst 0, 1) := by decide +kernel
theorem d_Law_law_295 : decode M_Law_law.2.1 295 = .ok (.ireturn, 1) := by decide +kernel
theorem d_Law_law_296 : decode M_Law_law.2.1 296 = .ok (.aload_n 1, 1) := by decide +kernel
theorem d_Law_law_297 : decode M_Law_law.2.1 297 = .ok (.aload_n 0, 1) := by decide +kernel
theorem d_Law_law_298 : decode M_Law_law.2.1 298 = .ok (.iload_n 3, 1) := by decide +kernel
theorem d_Law_law_299 : decode M_Law_law.2.1 299 = .ok (.iconst 1, 1) := by decide +kernel
theorem d_Law_law_300 : decode M_Law_law.2.1 300 = .ok (.iadd, 1) := by decide +kernel
theorem d_Law_law_301 : decode M_Law_law.2.1 301 = .ok (.iaload, 1) := by decide +kernel
theorem d_Law_law_302 : decode M_Law_law.2.1 302 = .ok (.aload_n 0, 1) := by decide +kernel
theorem d_Law_law_303 : decode M_Law_law.2.1 303 = .ok (.iload_n 3, 1) := by decide +kernel
theorem d_Law_law_304 : decode M_Law_law.2.1 304 = .ok (.iconst 2, 1) := by decide +kernel
theorem d_Law_law_305 : decode M_Law_law.2.1 305 = .ok (.iadd, 1) := by decide +kernel
theorem d_Law_law_306 : decode M_Law_law.2.1 306 = .ok (.iaload, 1) := by decide +kernel
theorem d_Law_law_307 : decode M_Law_law.2.1 307 = .ok (.aload_n 0, 1) := by decide +kernel
theorem d_Law_law_308 : decode M_Law_law.2.1 308 = .ok (.iload_n 3, 1) := by decide +kernel
theorem d_Law_law_309 : decode M_Law_law.2.1 309 = .ok (.iconst 3, 1) := by decide +kernel
theorem d_Law_law_310 : decode M_Law_law.2.1 310 = .ok (.iadd, 1) := by decide +kernel
theorem d_Law_law_311 : decode M_Law_law.2.1 311 = .ok (.iaload, 1) := by decide +kernel
theorem d_Law_law_312 : decode M_Law_law.2.1 312 = .ok (.aload_n 0, 1) := by decide +kernel
theorem d_Law_law_313 : decode M_Law_law.2.1 313 = .ok (.iload_n 3, 1) := by decide +kernel
theorem d_Law_law_314 : decode M_Law_law.2.1 314 = .ok (.iconst 4, 1) := by decide +kernel
theorem d_Law_law_315 : decode M_Law_law.2.1 315 = .ok (.iadd, 1) := by decide +kernel
theorem d_Law_law_316 : decode M_Law_law.2.1 316 = .ok (.iaload, 1) := by decide +kernel
theorem d_Law_law_317 : decode M_Law_law.2.1 317 = .ok (.invokevirtual 40, 3) := by decide +kernel
theorem d_Law_law_320 : decode M_Law_law.2.1 320 = .ok (.aload_n 2, 1) := by decide +kernel
theorem d_Law_law_321 : decode M_Law_law.2.1 321 = .ok (.aload_n 0, 1) := by decide +kernel
theorem d_Law_law_322 : decode M_Law_law.2.1 322 = .ok (.iload_n 3, 1) := by decide +kernel
theorem d_Law_law_323 : decode M_Law_law.2.1 323 = .ok (.iconst 1, 1) := by decide +kernel
theorem d_Law_law_324 : decode M_Law_law.2.1 324 = .ok (.iadd, 1) := by decide +kernel
theorem d_Law_law_325 : decode M_Law_law.2.1 325 = .ok (.iaload, 1) := by decide +kernel
theorem d_Law_law_326 : decode M_Law_law.2.1 326 = .ok (.aload_n 0, 1) := by decide +kernel
theorem d_Law_law_327 : decode M_Law_law.2.1 327 = .ok (.iload_n 3, 1) := by decide +kernel
theorem d_Law_law_328 : decode M_Law_law.2.1 328 = .ok (.iconst 2, 1) := by decide +kernel
theorem d_Law_law_329 : decode M_Law_law.2.1 329 = .ok (.iadd, 1) := by decide +kernel
theorem d_Law_law_330 : decode M_Law_law.2.1 330 = .ok (.iaload, 1) := by decide +kernel
theorem d_Law_law_331 : decode M_Law_law.2.1 331 = .ok (.aload_n 0, 1) := by decide +kernel
theorem d_Law_law_332 : decode M_Law_law.2.1 332 = .ok (.iload_n 3, 1) := by decide +kernel
theorem d_Law_law_333 : decode M_Law_law.2.1 333 = .ok (.iconst 3, 1) := by decide +kernel
theorem d_Law_law_334 : decode M_Law_law.2.1 334 = .ok (.iadd, 1) := by decide +kernel
theorem d_Law_law_335 : decode M_Law_law.2.1 335 = .ok (.iaload, 1) := by decide +kernel
theorem d_Law_law_336 : decode M_Law_law.2.1 336 = .ok (.aload_n 0, 1) := by decide +kernel
theorem d_Law_law_337 : decode M_Law_law.2.1 337 = .ok (.iload_n 3, 1) := by decide +kernel
theorem d_Law_law_338 : decode M_Law_law.2.1 338 = .ok (.iconst 4, 1) := by decide +kernel
theorem d_Law_law_339 : decode M_Law_law.2.1 339 = .ok (.iadd, 1) := by decide +kernel
theorem d_Law_law_340 : decode M_Law_law.2.1 340 = .ok (.iaload, 1) := by decide +kernel
theorem d_Law_law_341 : decode M_Law_law.2.1 341 = .ok (.invokevirtual 44, 3) := by decide +kernel
theorem d_Law_law_344 : decode M_Law_law.2.1 344 = .ok (.if_icmp .eq 568, 3) := by decide +kernel
theorem d_Law_law_347 : decode M_Law_law.2.1 347 = .ok (.iconst 0, 1) := by decide +kernel
theorem d_Law_law_348 : decode M_Law_law.2.1 348 = .ok (.ireturn, 1) := by decide +kernel
theorem d_Law_law_349 : decode M_Law_law.2.1 349 = .ok (.aload_n 1, 1) := by decide +kernel
theorem d_Law_law_350 : decode M_Law_law.2.1 350 = .ok (.aload_n 0, 1) := by decide +kernel
theorem d_Law_law_351 : decode M_Law_law.2.1 351 = .ok (.iload_n 3, 1) := by decide +kernel
theorem d_Law_law_352 : decode M_Law_law.2.1 352 = .ok (.iconst 1, 1) := by decide +kernel
theorem d_Law_law_353 : decode M_Law_law.2.1 353 = .ok (.iadd, 1) := by decide +kernel
theorem d_Law_law_354 : decode M_Law_law.2.1 354 = .ok (.iaload, 1) := by decide +kernel
theorem d_Law_law_355 : decode M_Law_law.2.1 355 = .ok (.aload_n 0, 1) := by decide +kernel
theorem d_Law_law_356 : decode M_Law_law.2.1 356 = .ok (.iload_n 3, 1) := by decide +kernel
theorem d_Law_law_357 : decode M_Law_law.2.1 357 = .ok (.iconst 2, 1) := by decide +kernel
theorem d_Law_law_358 : decode M_Law_law.2.1 358 = .ok (.iadd, 1) := by decide +kernel
theorem d_Law_law_359 : decode M_Law_law.2.1 359 = .ok (.iaload, 1) := by decide +kernel
theorem d_Law_law_360 : decode M_Law_law.2.1 360 = .ok (.aload_n 0, 1) := by decide +kernel
theorem d_Law_law_361 : decode M_Law_law.2.1 361 = .ok (.iload_n 3, 1) := by decide +kernel
theorem d_Law_law_362 : decode M_Law_law.2.1 362 = .ok (.iconst 3, 1) := by decide +kernel
theorem d_Law_law_363 : decode M_Law_law.2.1 363 = .ok (.iadd, 1) := by decide +kernel
theorem d_Law_law_364 : decode M_Law_law.2.1 364 = .ok (.iaload, 1) := by decide +kernel
theorem d_Law_law_365 : decode M_Law_law.2.1 365 = .ok (.aload_n 0, 1) := by decide +kernel
theorem d_Law_law_366 : decode M_Law_law.2.1 366 = .ok (.iload_n 3, 1) := by decide +kernel
theorem d_Law_law_367 : decode M_Law_law.2.1 367 = .ok (.iconst 4, 1) := by decide +kernel
theorem d_Law_law_368 : decode M_Law_law.2.1 368 = .ok (.iadd, 1) := by decide +kernel
theorem d_Law_law_369 : decode M_Law_law.2.1 369 = .ok (.iaload, 1) := by decide +kernel
theorem d_Law_law_370 : decode M_Law_law.2.1 370 = .ok (.invokevirtual 45, 3) := by decide +kernel
theorem d_Law_law_373 : decode M_Law_law.2.1 373 = .ok (.aload_n 2, 1) := by decide +kernel
theorem d_Law_law_374 : decode M_Law_law.2.1 374 = .ok (.aload_n 0, 1) := by decide +kernel
theorem d_Law_law_375 : decode M_Law_law.2.1 375 = .ok (.iload_n 3, 1) := by decide +kernel
theorem d_Law_law_376 : decode M_Law_law.2.1 376 = .ok (.iconst 1, 1) := by decide +kernel
theorem d_Law_law_377 : decode M_Law_law.2.1 377 = .ok (.iadd, 1) := by decide +kernel
theorem d_Law_law_378 : decode M_Law_law.2.1 378 = .ok (.iaload, 1) := by decide +kernel
theorem d_Law_law_379 : decode M_Law_law.2.1 379 = .ok (.aload_n 0, 1) := by decide +kernel
theorem d_Law_law_380 : decode M_Law_law.2.1 380 = .ok (.iload_n 3, 1) := by decide +kernel
theorem d_Law_law_381 : decode M_Law_law.2.1 381 = .ok (.iconst 2, 1) := by decide +kernel
theorem d_Law_law_382 : decode M_Law_law.2.1 382 = .ok (.iadd, 1) := by decide +kernel
theorem d_Law_law_383 : decode M_Law_law.2.1 383 = .ok (.iaload, 1) := by decide +kernel
theorem d_Law_law_384 : decode M_Law_law.2.1 384 = .ok (.aload_n 0, 1) := by decide +kernel
theorem d_Law_law_385 : decode M_Law_law.2.1 385 = .ok (.iload_n 3, 1) := by decide +kernel
theorem d_Law_law_386 : decode M_Law_law.2.1 386 = .ok (.iconst 3, 1) := by decide +kernel
theorem d_Law_law_387 : decode M_Law_law.2.1 387 = .ok (.iadd, 1) := by decide +kernel
theorem d_Law_law_388 : decode M_Law_law.2.1 388 = .ok (.iaload, 1) := by decide +kernel
theorem d_Law_law_389 : decode M_Law_law.2.1 389 = .ok (.aload_n 0, 1) := by decide +kernel
theorem d_Law_law_390 : decode M_Law_law.2.1 390 = .ok (.iload_n 3, 1) := by decide +kernel
theorem d_Law_law_391 : decode M_Law_law.2.1 391 = .ok (.iconst 4, 1) := by decide +kernel
theorem d_Law_law_392 : decode M_Law_law.2.1 392 = .ok (.iadd, 1) := by decide +kernel
theorem d_Law_law_393 : decode M_Law_law.2.1 393 = .ok (.iaload, 1) := by decide +kernel
theorem d_Law_law_394 : decode M_Law_law.2.1 394 = .ok (.invokevirtual 48, 3) := by decide +kernel
theorem d_Law_law_397 : decode M_Law_law.2.1 397 = .ok (.if_icmp .eq 515, 3) := by decide +kernel
theorem d_Law_law_400 : decode M_Law_law.2.1 400 = .ok (.iconst 0, 1) := by decide +kernel
theorem d_Law_law_401 : decode M_Law_law.2.1 401 = .ok (.ireturn, 1) := by decide +kernel
theorem d_Law_law_402 : decode M_Law_law.2.1 402 = .ok (.aload_n 1, 1) := by decide +kernel
theorem d_Law_law_403 : decode M_Law_law.2.1 403 = .ok (.aload_n 0, 1) := by decide +kernel
theorem d_Law_law_404 : decode M_Law_law.2.1 404 = .ok (.iload_n 3, 1) := by decide +kernel
theorem d_Law_law_405 : decode M_Law_law.2.1 405 = .ok (.iconst 1, 1) := by decide +kernel
theorem d_Law_law_406 : decode M_Law_law.2.1 406 = .ok (.iadd, 1) := by decide +kernel
theorem d_Law_law_407 : decode M_Law_law.2.1 407 = .ok (.iaload, 1) := by decide +kernel
theorem d_Law_law_408 : decode M_Law_law.2.1 408 = .ok (.aload_n 0, 1) := by decide +kernel
theorem d_Law_law_409 : decode M_Law_law.2.1 409 = .ok (.iload_n 3, 1) := by decide +kernel
theorem d_Law_law_410 : decode M_Law_law.2.1 410 = .ok (.iconst 2, 1) := by decide +kernel
theorem d_Law_law_411 : decode M_Law_law.2.1 411 = .ok (.iadd, 1) := by decide +kernel
theorem d_Law_law_412 : decode M_Law_law.2.1 412 = .ok (.iaload, 1) := by decide +kernel
theorem d_Law_law_413 : decode M_Law_law.2.1 413 = .ok (.aload_n 0, 1) := by decide +kernel
theorem d_Law_law_414 : decode M_Law_law.2.1 414 = .ok (.iload_n 3, 1) := by decide +kernel
theorem d_Law_law_415 : decode M_Law_law.2.1 415 = .ok (.iconst 3, 1) := by decide +kernel
theorem d_Law_law_416 : decode M_Law_law.2.1 416 = .ok (.iadd, 1) := by decide +kernel
theorem d_Law_law_417 : decode M_Law_law.2.1 417 = .ok (.iaload, 1) := by decide +kernel
theorem d_Law_law_418 : decode M_Law_law.2.1 418 = .ok (.invokevirtual 49, 3) := by decide +kernel
theorem d_Law_law_421 : decode M_Law_law.2.1 421 = .ok (.aload_n 2, 1) := by decide +kernel
theorem d_Law_law_422 : decode M_Law_law.2.1 422 = .ok (.aload_n 0, 1) := by decide +kernel
theorem d_Law_law_423 : decode M_Law_law.2.1 423 = .ok (.iload_n 3, 1) := by decide +kernel
theorem d_Law_law_424 : decode M_Law_law.2.1 424 = .ok (.iconst 1, 1) := by decide +kernel
theorem d_Law_law_425 : decode M_Law_law.2.1 425 = .ok (.iadd, 1) := by decide +kernel
theorem d_Law_law_426 : decode M_Law_law.2.1 426 = .ok (.iaload, 1) := by decide +kernel
theorem d_Law_law_427 : decode M_Law_law.2.1 427 = .ok (.aload_n 0, 1) := by decide +kernel
theorem d_Law_law_428 : decode M_Law_law.2.1 428 = .ok (.iload_n 3, 1) := by decide +kernel
theorem d_Law_law_429 : decode M_Law_law.2.1 429 = .ok (.iconst 2, 1) := by decide +kernel
theorem d_Law_law_430 : decode M_Law_law.2.1 430 = .ok (.iadd, 1) := by decide +kernel
theorem d_Law_law_431 : decode M_Law_law.2.1 431 = .ok (.iaload, 1) := by decide +kernel
theorem d_Law_law_432 : decode M_Law_law.2.1 432 = .ok (.aload_n 0, 1) := by decide +kernel
theorem d_Law_law_433 : decode M_Law_law.2.1 433 = .ok (.iload_n 3, 1) := by decide +kernel
theorem d_Law_law_434 : decode M_Law_law.2.1 434 = .ok (.iconst 3, 1) := by decide +kernel
theorem d_Law_law_435 : decode M_Law_law.2.1 435 = .ok (.iadd, 1) := by decide +kernel
theorem d_Law_law_436 : decode M_Law_law.2.1 436 = .ok (.iaload, 1) := by decide +kernel
theorem d_Law_law_437 : decode M_Law_law.2.1 437 = .ok (.invokevirtual 53, 3) := by decide +kernel
theorem d_Law_law_440 : decode M_Law_law.2.1 440 = .ok (.lcmp, 1) := by decide +kernel
theorem d_Law_law_441 : decode M_Law_law.2.1 441 = .ok (.ifCond .eq 471, 3) := by decide +kernel
theorem d_Law_law_444 : decode M_Law_law.2.1 444 = .ok (.iconst 0, 1) := by decide +kernel
theorem d_Law_law_445 : decode M_Law_law.2.1 445 = .ok (.ireturn, 1) := by decide +kernel
theorem d_Law_law_446 : decode M_Law_law.2.1 446 = .ok (.aload_n 1, 1) := by decide +kernel
theorem d_Law_law_447 : decode M_Law_law.2.1 447 = .ok (.aload_n 0, 1) := by decide +kernel
theorem d_Law_law_448 : decode M_Law_law.2.1 448 = .ok (.iload_n 3, 1) := by decide +kernel
theorem d_Law_law_449 : decode M_Law_law.2.1 449 = .ok (.iconst 1, 1) := by decide +kernel
theorem d_Law_law_450 : decode M_Law_law.2.1 450 = .ok (.iadd, 1) := by decide +kernel
theorem d_Law_law_451 : decode M_Law_law.2.1 451 = .ok (.iaload, 1) := by decide +kernel
theorem d_Law_law_452 : decode M_Law_law.2.1 452 = .ok (.aload_n 0, 1) := by decide +kernel
theorem d_Law_law_453 : decode M_Law_law.2.1 453 = .ok (.iload_n 3, 1) := by decide +kernel
theorem d_Law_law_454 : decode M_Law_law.2.1 454 = .ok (.iconst 2, 1) := by decide +kernel
theorem d_Law_law_455 : decode M_Law_law.2.1 455 = .ok (.iadd, 1) := by decide +kernel
theorem d_Law_law_456 : decode M_Law_law.2.1 456 = .ok (.iaload, 1) := by decide +kernel
theorem d_Law_law_457 : decode M_Law_law.2.1 457 = .ok (.aload_n 0, 1) := by decide +kernel
theorem d_Law_law_458 : decode M_Law_law.2.1 458 = .ok (.iload_n 3, 1) := by decide +kernel
theorem d_Law_law_459 : decode M_Law_law.2.1 459 = .ok (.iconst 3, 1) := by decide +kernel
theorem d_Law_law_460 : decode M_Law_law.2.1 460 = .ok (.iadd, 1) := by decide +kernel
theorem d_Law_law_461 : decode M_Law_law.2.1 461 = .ok (.iaload, 1) := by decide +kernel
theorem d_Law_law_462 : decode M_Law_law.2.1 462 = .ok (.invokevirtual 54, 3) := by decide +kernel
theorem d_Law_law_465 : decode M_Law_law.2.1 465 = .ok (.aload_n 2, 1) := by decide +kernel
theorem d_Law_law_466 : decode M_Law_law.2.1 466 = .ok (.aload_n 0, 1) := by decide +kernel
theorem d_Law_law_467 : decode M_Law_law.2.1 467 = .ok (.iload_n 3, 1) := by decide +kernel
theorem d_Law_law_468 : decode M_Law_law.2.1 468 = .ok (.iconst 1, 1) := by decide +kernel
theorem d_Law_law_469 : decode M_Law_law.2.1 469 = .ok (.iadd, 1) := by decide +kernel
theorem d_Law_law_470 : decode M_Law_law.2.1 470 = .ok (.iaload, 1) := by decide +kernel
theorem d_Law_law_471 : decode M_Law_law.2.1 471 = .ok (.aload_n 0, 1) := by decide +kernel
theorem d_Law_law_472 : decode M_Law_law.2.1 472 = .ok (.iload_n 3, 1) := by decide +kernel
theorem d_Law_law_473 : decode M_Law_law.2.1 473 = .ok (.iconst 2, 1) := by decide +kernel
theorem d_Law_law_474 : decode M_Law_law.2.1 474 = .ok (.iadd, 1) := by decide +kernel
theorem d_Law_law_475 : decode M_Law_law.2.1 475 = .ok (.iaload, 1) := by decide +kernel
theorem d_Law_law_476 : decode M_Law_law.2.1 476 = .ok (.aload_n 0, 1) := by decide +kernel
theorem d_Law_law_477 : decode M_Law_law.2.1 477 = .ok (.iload_n 3, 1) := by decide +kernel
theorem d_Law_law_478 : decode M_Law_law.2.1 478 = .ok (.iconst 3, 1) := by decide +kernel
theorem d_Law_law_479 : decode M_Law_law.2.1 479 = .ok (.iadd, 1) := by decide +kernel
theorem d_Law_law_480 : decode M_Law_law.2.1 480 = .ok (.iaload, 1) := by decide +kernel
theorem d_Law_law_481 : decode M_Law_law.2.1 481 = .ok (.invokevirtual 58, 3) := by decide +kernel
theorem d_Law_law_484 : decode M_Law_law.2.1 484 = .ok (.if_icmp .eq 428, 3) := by decide +kernel
theorem d_Law_law_487 : decode M_Law_law.2.1 487 = .ok (.iconst 0, 1) := by decide +kernel
theorem d_Law_law_488 : decode M_Law_law.2.1 488 = .ok (.ireturn, 1) := by decide +kernel
theorem d_Law_law_489 : decode M_Law_law.2.1 489 = .ok (.aload_n 1, 1) := by decide +kernel
theorem d_Law_law_490 : decode M_Law_law.2.1 490 = .ok (.aload_n 0, 1) := by decide +kernel
theorem d_Law_law_491 : decode M_Law_law.2.1 491 = .ok (.iload_n 3, 1) := by decide +kernel
theorem d_Law_law_492 : decode M_Law_law.2.1 492 = .ok (.iconst 1, 1) := by decide +kernel
theorem d_Law_law_493 : decode M_Law_law.2.1 493 = .ok (.iadd, 1) := by decide +kernel
theorem d_Law_law_494 : decode M_Law_law.2.1 494 = .ok (.iaload, 1) := by decide +kernel
theorem d_Law_law_495 : decode M_Law_law.2.1 495 = .ok (.invokevirtual 59, 3) := by decide +kernel
theorem d_Law_law_498 : decode M_Law_law.2.1 498 = .ok (.aload_n 2, 1) := by decide +kernel
theorem d_Law_law_499 : decode M_Law_law.2.1 499 = .ok (.aload_n 0, 1) := by decide +kernel
theorem d_Law_law_500 : decode M_Law_law.2.1 500 = .ok (.iload_n 3, 1) := by decide +kernel
theorem d_Law_law_501 : decode M_Law_law.2.1 501 = .ok (.iconst 1, 1) := by decide +kernel
theorem d_Law_law_502 : decode M_Law_law.2.1 502 = .ok (.iadd, 1) := by decide +kernel
theorem d_Law_law_503 : decode M_Law_law.2.1 503 = .ok (.iaload, 1) := by decide +kernel
theorem d_Law_law_504 : decode M_Law_law.2.1 504 = .ok (.invokevirtual 62, 3) := by decide +kernel
theorem d_Law_law_507 : decode M_Law_law.2.1 507 = .ok (.if_icmp .eq 405, 3) := by decide +kernel
theorem d_Law_law_510 : decode M_Law_law.2.1 510 = .ok (.iconst 0, 1) := by decide +kernel
theorem d_Law_law_511 : decode M_Law_law.2.1 511 = .ok (.ireturn, 1) := by decide +kernel
theorem d_Law_law_512 : decode M_Law_law.2.1 512 = .ok (.aload_n 1, 1) := by decide +kernel
theorem d_Law_law_513 : decode M_Law_law.2.1 513 = .ok (.aload_n 0, 1) := by decide +kernel
theorem d_Law_law_514 : decode M_Law_law.2.1 514 = .ok (.iload_n 3, 1) := by decide +kernel
theorem d_Law_law_515 : decode M_Law_law.2.1 515 = .ok (.iconst 1, 1) := by decide +kernel
theorem d_Law_law_516 : decode M_Law_law.2.1 516 = .ok (.iadd, 1) := by decide +kernel
theorem d_Law_law_517 : decode M_Law_law.2.1 517 = .ok (.iaload, 1) := by decide +kernel
theorem d_Law_law_518 : decode M_Law_law.2.1 518 = .ok (.aload_n 0, 1) := by decide +kernel
theorem d_Law_law_519 : decode M_Law_law.2.1 519 = .ok (.iload_n 3, 1) := by decide +kernel
theorem d_Law_law_520 : decode M_Law_law.2.1 520 = .ok (.iconst 2, 1) := by decide +kernel
theorem d_Law_law_521 : decode M_Law_law.2.1 521 = .ok (.iadd, 1) := by decide +kernel
theorem d_Law_law_522 : decode M_Law_law.2.1 522 = .ok (.iaload, 1) := by decide +kernel
theorem d_Law_law_523 : decode M_Law_law.2.1 523 = .ok (.aload_n 0, 1) := by decide +kernel
theorem d_Law_law_524 : decode M_Law_law.2.1 524 = .ok (.iload_n 3, 1) := by decide +kernel
theorem d_Law_law_525 : decode M_Law_law.2.1 525 = .ok (.iconst 3, 1) := by decide +kernel
theorem d_Law_law_526 : decode M_Law_law.2.1 526 = .ok (.iadd, 1) := by decide +kernel
theorem d_Law_law_527 : decode M_Law_law.2.1 527 = .ok (.iaload, 1) := by decide +kernel
theorem d_Law_law_528 : decode M_Law_law.2.1 528 = .ok (.aload_n 0, 1) := by decide +kernel
theorem d_Law_law_529 : decode M_Law_law.2.1 529 = .ok (.iload_n 3, 1) := by decide +kernel
theorem d_Law_law_530 : decode M_Law_law.2.1 530 = .ok (.iconst 4, 1) := by decide +kernel
theorem d_Law_law_531 : decode M_Law_law.2.1 531 = .ok (.iadd, 1) := by decide +kernel
theorem d_Law_law_532 : decode M_Law_law.2.1 532 = .ok (.iaload, 1) := by decide +kernel
theorem d_Law_law_533 : decode M_Law_law.2.1 533 = .ok (.aload_n 0, 1) := by decide +kernel
theorem d_Law_law_534 : decode M_Law_law.2.1 534 = .ok (.iload_n 3, 1) := by decide +kernel
theorem d_Law_law_535 : decode M_Law_law.2.1 535 = .ok (.iconst 5, 1) := by decide +kernel
theorem d_Law_law_536 : decode M_Law_law.2.1 536 = .ok (.iadd, 1) := by decide +kernel
theorem d_Law_law_537 : decode M_Law_law.2.1 537 = .ok (.iaload, 1) := by decide +kernel
theorem d_Law_law_538 : decode M_Law_law.2.1 538 = .ok (.invokevirtual 63, 3) := by decide +kernel
theorem d_Law_law_541 : decode M_Law_law.2.1 541 = .ok (.aload_n 2, 1) := by decide +kernel
theorem d_Law_law_542 : decode M_Law_law.2.1 542 = .ok (.aload_n 0, 1) := by decide +kernel
theorem d_Law_law_543 : decode M_Law_law.2.1 543 = .ok (.iload_n 3, 1) := by decide +kernel
theorem d_Law_law_544 : decode M_Law_law.2.1 544 = .ok (.iconst 1, 1) := by decide +kernel
theorem d_Law_law_545 : decode M_Law_law.2.1 545 = .ok (.iadd, 1) := by decide +kernel
theorem d_Law_law_546 : decode M_Law_law.2.1 546 = .ok (.iaload, 1) := by decide +kernel
theorem d_Law_law_547 : decode M_Law_law.2.1 547 = .ok (.aload_n 0, 1) := by decide +kernel
theorem d_Law_law_548 : decode M_Law_law.2.1 548 = .ok (.iload_n 3, 1) := by decide +kernel
theorem d_Law_law_549 : decode M_Law_law.2.1 549 = .ok (.iconst 2, 1) := by decide +kernel
theorem d_Law_law_550 : decode M_Law_law.2.1 550 = .ok (.iadd, 1) := by decide +kernel
theorem d_Law_law_551 : decode M_Law_law.2.1 551 = .ok (.iaload, 1) := by decide +kernel
theorem d_Law_law_552 : decode M_Law_law.2.1 552 = .ok (.aload_n 0, 1) := by decide +kernel
theorem d_Law_law_553 : decode M_Law_law.2.1 553 = .ok (.iload_n 3, 1) := by decide +kernel
theorem d_Law_law_554 : decode M_Law_law.2.1 554 = .ok (.iconst 3, 1) := by decide +kernel
theorem d_Law_law_555 : decode M_Law_law.2.1 555 = .ok (.iadd, 1) := by decide +kernel
theorem d_Law_law_556 : decode M_Law_law.2.1 556 = .ok (.iaload, 1) := by decide +kernel
theorem d_Law_law_557 : decode M_Law_law.2.1 557 = .ok (.aload_n 0, 1) := by decide +kernel
theorem d_Law_law_558 : decode M_Law_law.2.1 558 = .ok (.iload_n 3, 1) := by decide +kernel
theorem d_Law_law_559 : decode M_Law_law.2.1 559 = .ok (.iconst 4, 1) := by decide +kernel
theorem d_Law_law_560 : decode M_Law_law.2.1 560 = .ok (.iadd, 1) := by decide +kernel
theorem d_Law_law_561 : decode M_Law_law.2.1 561 = .ok (.iaload, 1) := by decide +kernel
theorem d_Law_law_562 : decode M_Law_law.2.1 562 = .ok (.aload_n 0, 1) := by decide +kernel
theorem d_Law_law_563 : decode M_Law_law.2.1 563 = .ok (.iload_n 3, 1) := by decide +kernel
theorem d_Law_law_564 : decode M_Law_law.2.1 564 = .ok (.iconst 5, 1) := by decide +kernel
theorem d_Law_law_565 : decode M_Law_law.2.1 565 = .ok (.iadd, 1) := by decide +kernel
theorem d_Law_law_566 : decode M_Law_law.2.1 566 = .ok (.iaload, 1) := by decide +kernel
theorem d_Law_law_567 : decode M_Law_law.2.1 567 = .ok (.invokevirtual 67, 3) := by decide +kernel
theorem d_Law_law_570 : decode M_Law_law.2.1 570 = .ok (.if_icmp .eq 342, 3) := by decide +kernel
theorem d_Law_law_573 : decode M_Law_law.2.1 573 = .ok (.iconst 0, 1) := by decide +kernel
theorem d_Law_law_574 : decode M_Law_law.2.1 574 = .ok (.ireturn, 1) := by decide +kernel
theorem d_Law_law_575 : decode M_Law_law.2.1 575 = .ok (.aload_n 1, 1) := by decide +kernel
theorem d_Law_law_576 : decode M_Law_law.2.1 576 = .ok (.aload_n 0, 1) := by decide +kernel
theorem d_Law_law_577 : decode M_Law_law.2.1 577 = .ok (.iload_n 3, 1) := by decide +kernel
theorem d_Law_law_578 : decode M_Law_law.2.1 578 = .ok (.iconst 1, 1) := by decide +kernel
theorem d_Law_law_579 : decode M_Law_law.2.1 579 = .ok (.iadd, 1) := by decide +kernel
theorem d_Law_law_580 : decode M_Law_law.2.1 580 = .ok (.iaload, 1) := by decide +kernel
theorem d_Law_law_581 : decode M_Law_law.2.1 581 = .ok (.invokevirtual 68, 3) := by decide +kernel
theorem d_Law_law_584 : decode M_Law_law.2.1 584 = .ok (.aload_n 2, 1) := by decide +kernel
theorem d_Law_law_585 : decode M_Law_law.2.1 585 = .ok (.aload_n 0, 1) := by decide +kernel
theorem d_Law_law_586 : decode M_Law_law.2.1 586 = .ok (.iload_n 3, 1) := by decide +kernel
theorem d_Law_law_587 : decode M_Law_law.2.1 587 = .ok (.iconst 1, 1) := by decide +kernel
theorem d_Law_law_588 : decode M_Law_law.2.1 588 = .ok (.iadd, 1) := by decide +kernel
theorem d_Law_law_589 : decode M_Law_law.2.1 589 = .ok (.iaload, 1) := by decide +kernel
theorem d_Law_law_590 : decode M_Law_law.2.1 590 = .ok (.invokevirtual 71, 3) := by decide +kernel
theorem d_Law_law_593 : decode M_Law_law.2.1 593 = .ok (.if_icmp .eq 319, 3) := by decide +kernel
theorem d_Law_law_596 : decode M_Law_law.2.1 596 = .ok (.iconst 0, 1) := by decide +kernel
theorem d_Law_law_597 : decode M_Law_law.2.1 597 = .ok (.ireturn, 1) := by decide +kernel
theorem d_Law_law_598 : decode M_Law_law.2.1 598 = .ok (.aload_n 1, 1) := by decide +kernel
theorem d_Law_law_599 : decode M_Law_law.2.1 599 = .ok (.aload_n 0, 1) := by decide +kernel
theorem d_Law_law_600 : decode M_Law_law.2.1 600 = .ok (.iload_n 3, 1) := by decide +kernel
theorem d_Law_law_601 : decode M_Law_law.2.1 601 = .ok (.iconst 1, 1) := by decide +kernel
theorem d_Law_law_602 : decode M_Law_law.2.1 602 = .ok (.iadd, 1) := by decide +kernel
theorem d_Law_law_603 : decode M_Law_law.2.1 603 = .ok (.iaload, 1) := by decide +kernel
theorem d_Law_law_604 : decode M_Law_law.2.1 604 = .ok (.invokevirtual 72, 3) := by decide +kernel
theorem d_Law_law_607 : decode M_Law_law.2.1 607 = .ok (.aload_n 2, 1) := by decide +kernel
theorem d_Law_law_608 : decode M_Law_law.2.1 608 = .ok (.aload_n 0, 1) := by decide +kernel
theorem d_Law_law_609 : decode M_Law_law.2.1 609 = .ok (.iload_n 3, 1) := by decide +kernel
theorem d_Law_law_610 : decode M_Law_law.2.1 610 = .ok (.iconst 1, 1) := by decide +kernel
theorem d_Law_law_611 : decode M_Law_law.2.1 611 = .ok (.iadd, 1) := by decide +kernel
theorem d_Law_law_612 : decode M_Law_law.2.1 612 = .ok (.iaload, 1) := by decide +kernel
theorem d_Law_law_613 : decode M_Law_law.2.1 613 = .ok (.invokevirtual 75, 3) := by decide +kernel
theorem d_Law_law_616 : decode M_Law_law.2.1 616 = .ok (.if_icmp .eq 296, 3) := by decide +kernel
theorem d_Law_law_619 : decode M_Law_law.2.1 619 = .ok (.iconst 0, 1) := by decide +kernel
theorem d_Law_law_620 : decode M_Law_law.2.1 620 = .ok (.ireturn, 1) := by decide +kernel
theorem d_Law_law_621 : decode M_Law_law.2.1 621 = .ok (.aload_n 1, 1) := by decide +kernel
theorem d_Law_law_622 : decode M_Law_law.2.1 622 = .ok (.invokevirtual 76, 3) := by decide +kernel
theorem d_Law_law_625 : decode M_Law_law.2.1 625 = .ok (.aload_n 2, 1) := by decide +kernel
theorem d_Law_law_626 : decode M_Law_law.2.1 626 = .ok (.invokevirtual 80, 3) := by decide +kernel
theorem d_Law_law_629 : decode M_Law_law.2.1 629 = .ok (.if_icmp .eq 283, 3) := by decide +kernel
theorem d_Law_law_632 : decode M_Law_law.2.1 632 = .ok (.iconst 0, 1) := by decide +kernel
theorem d_Law_law_633 : decode M_Law_law.2.1 633 = .ok (.ireturn, 1) := by decide +kernel
theorem d_Law_law_634 : decode M_Law_law.2.1 634 = .ok (.aload_n 1, 1) := by decide +kernel
theorem d_Law_law_635 : decode M_Law_law.2.1 635 = .ok (.aload_n 0, 1) := by decide +kernel
theorem d_Law_law_636 : decode M_Law_law.2.1 636 = .ok (.iload_n 3, 1) := by decide +kernel
theorem d_Law_law_637 : decode M_Law_law.2.1 637 = .ok (.iconst 1, 1) := by decide +kernel
theorem d_Law_law_638 : decode M_Law_law.2.1 638 = .ok (.iadd, 1) := by decide +kernel
theorem d_Law_law_639 : decode M_Law_law.2.1 639 = .ok (.iaload, 1) := by decide +kernel
theorem d_Law_law_640 : decode M_Law_law.2.1 640 = .ok (.aload_n 0, 1) := by decide +kernel
theorem d_Law_law_641 : decode M_Law_law.2.1 641 = .ok (.iload_n 3, 1) := by decide +kernel
theorem d_Law_law_642 : decode M_Law_law.2.1 642 = .ok (.iconst 2, 1) := by decide +kernel
theorem d_Law_law_643 : decode M_Law_law.2.1 643 = .ok (.iadd, 1) := by decide +kernel
theorem d_Law_law_644 : decode M_Law_law.2.1 644 = .ok (.iaload, 1) := by decide +kernel
theorem d_Law_law_645 : decode M_Law_law.2.1 645 = .ok (.invokevirtual 81, 3) := by decide +kernel
theorem d_Law_law_648 : decode M_Law_law.2.1 648 = .ok (.aload_n 2, 1) := by decide +kernel
theorem d_Law_law_649 : decode M_Law_law.2.1 649 = .ok (.aload_n 0, 1) := by decide +kernel
theorem d_Law_law_650 : decode M_Law_law.2.1 650 = .ok (.iload_n 3, 1) := by decide +kernel
theorem d_Law_law_651 : decode M_Law_law.2.1 651 = .ok (.iconst 1, 1) := by decide +kernel
theorem d_Law_law_652 : decode M_Law_law.2.1 652 = .ok (.iadd, 1) := by decide +kernel
theorem d_Law_law_653 : decode M_Law_law.2.1 653 = .ok (.iaload, 1) := by decide +kernel
theorem d_Law_law_654 : decode M_Law_law.2.1 654 = .ok (.aload_n 0, 1) := by decide +kernel
theorem d_Law_law_655 : decode M_Law_law.2.1 655 = .ok (.iload_n 3, 1) := by decide +kernel
theorem d_Law_law_656 : decode M_Law_law.2.1 656 = .ok (.iconst 2, 1) := by decide +kernel
theorem d_Law_law_657 : decode M_Law_law.2.1 657 = .ok (.iadd, 1) := by decide +kernel
theorem d_Law_law_658 : decode M_Law_law.2.1 658 = .ok (.iaload, 1) := by decide +kernel
theorem d_Law_law_659 : decode M_Law_law.2.1 659 = .ok (.invokevirtual 84, 3) := by decide +kernel
theorem d_Law_law_662 : decode M_Law_law.2.1 662 = .ok (.if_icmp .eq 250, 3) := by decide +kernel
theorem d_Law_law_665 : decode M_Law_law.2.1 665 = .ok (.iconst 0, 1) := by decide +kernel
theorem d_Law_law_666 : decode M_Law_law.2.1 666 = .ok (.ireturn, 1) := by decide +kernel
theorem d_Law_law_667 : decode M_Law_law.2.1 667 = .ok (.aload_n 1, 1) := by decide +kernel
theorem d_Law_law_668 : decode M_Law_law.2.1 668 = .ok (.aload_n 0, 1) := by decide +kernel
theorem d_Law_law_669 : decode M_Law_law.2.1 669 = .ok (.iload_n 3, 1) := by decide +kernel
theorem d_Law_law_670 : decode M_Law_law.2.1 670 = .ok (.iconst 1, 1) := by decide +kernel
theorem d_Law_law_671 : decode M_Law_law.2.1 671 = .ok (.iadd, 1) := by decide +kernel
theorem d_Law_law_672 : decode M_Law_law.2.1 672 = .ok (.iaload, 1) := by decide +kernel
theorem d_Law_law_673 : decode M_Law_law.2.1 673 = .ok (.invokevirtual 85, 3) := by decide +kernel
theorem d_Law_law_676 : decode M_Law_law.2.1 676 = .ok (.aload_n 2, 1) := by decide +kernel
theorem d_Law_law_677 : decode M_Law_law.2.1 677 = .ok (.aload_n 0, 1) := by decide +kernel
theorem d_Law_law_678 : decode M_Law_law.2.1 678 = .ok (.iload_n 3, 1) := by decide +kernel
theorem d_Law_law_679 : decode M_Law_law.2.1 679 = .ok (.iconst 1, 1) := by decide +kernel
theorem d_Law_law_680 : decode M_Law_law.2.1 680 = .ok (.iadd, 1) := by decide +kernel
theorem d_Law_law_681 : decode M_Law_law.2.1 681 = .ok (.iaload, 1) := by decide +kernel
theorem d_Law_law_682 : decode M_Law_law.2.1 682 = .ok (.invokevirtual 88, 3) := by decide +kernel
theorem d_Law_law_685 : decode M_Law_law.2.1 685 = .ok (.if_icmp .eq 227, 3) := by decide +kernel
theorem d_Law_law_688 : decode M_Law_law.2.1 688 = .ok (.iconst 0, 1) := by decide +kernel
theorem d_Law_law_689 : decode M_Law_law.2.1 689 = .ok (.ireturn, 1) := by decide +kernel
theorem d_Law_law_690 : decode M_Law_law.2.1 690 = .ok (.aload_n 1, 1) := by decide +kernel
theorem d_Law_law_691 : decode M_Law_law.2.1 691 = .ok (.aload_n 0, 1) := by decide +kernel
theorem d_Law_law_692 : decode M_Law_law.2.1 692 = .ok (.iload_n 3, 1) := by decide +kernel
theorem d_Law_law_693 : decode M_Law_law.2.1 693 = .ok (.iconst 1, 1) := by decide +kernel
theorem d_Law_law_694 : decode M_Law_law.2.1 694 = .ok (.iadd, 1) := by decide +kernel
theorem d_Law_law_695 : decode M_Law_law.2.1 695 = .ok (.iaload, 1) := by decide +kernel
theorem d_Law_law_696 : decode M_Law_law.2.1 696 = .ok (.aload_n 0, 1) := by decide +kernel
theorem d_Law_law_697 : decode M_Law_law.2.1 697 = .ok (.iload_n 3, 1) := by decide +kernel
theorem d_Law_law_698 : decode M_Law_law.2.1 698 = .ok (.iconst 2, 1) := by decide +kernel
theorem d_Law_law_699 : decode M_Law_law.2.1 699 = .ok (.iadd, 1) := by decide +kernel
theorem d_Law_law_700 : decode M_Law_law.2.1 700 = .ok (.iaload, 1) := by decide +kernel
theorem d_Law_law_701 : decode M_Law_law.2.1 701 = .ok (.aload_n 0, 1) := by decide +kernel
theorem d_Law_law_702 : decode M_Law_law.2.1 702 = .ok (.iload_n 3, 1) := by decide +kernel
theorem d_Law_law_703 : decode M_Law_law.2.1 703 = .ok (.iconst 3, 1) := by decide +kernel
theorem d_Law_law_704 : decode M_Law_law.2.1 704 = .ok (.iadd, 1) := by decide +kernel
theorem d_Law_law_705 : decode M_Law_law.2.1 705 = .ok (.iaload, 1) := by decide +kernel
theorem d_Law_law_706 : decode M_Law_law.2.1 706 = .ok (.aload_n 0, 1) := by decide +kernel
theorem d_Law_law_707 : decode M_Law_law.2.1 707 = .ok (.iload_n 3, 1) := by decide +kernel
theorem d_Law_law_708 : decode M_Law_law.2.1 708 = .ok (.iconst 4, 1) := by decide +kernel
theorem d_Law_law_709 : decode M_Law_law.2.1 709 = .ok (.iadd, 1) := by decide +kernel
theorem d_Law_law_710 : decode M_Law_law.2.1 710 = .ok (.iaload, 1) := by decide +kernel
theorem d_Law_law_711 : decode M_Law_law.2.1 711 = .ok (.invokevirtual 89, 3) := by decide +kernel
theorem d_Law_law_714 : decode M_Law_law.2.1 714 = .ok (.aload_n 2, 1) := by decide +kernel
theorem d_Law_law_715 : decode M_Law_law.2.1 715 = .ok (.aload_n 0, 1) := by decide +kernel
theorem d_Law_law_716 : decode M_Law_law.2.1 716 = .ok (.iload_n 3, 1) := by decide +kernel
theorem d_Law_law_717 : decode M_Law_law.2.1 717 = .ok (.iconst 1, 1) := by decide +kernel
theorem d_Law_law_718 : decode M_Law_law.2.1 718 = .ok (.iadd, 1) := by decide +kernel
theorem d_Law_law_719 : decode M_Law_law.2.1 719 = .ok (.iaload, 1) := by decide +kernel
theorem d_Law_law_720 : decode M_Law_law.2.1 720 = .ok (.aload_n 0, 1) := by decide +kernel
theorem d_Law_law_721 : decode M_Law_law.2.1 721 = .ok (.iload_n 3, 1) := by decide +kernel
theorem d_Law_law_722 : decode M_Law_law.2.1 722 = .ok (.iconst 2, 1) := by decide +kernel
theorem d_Law_law_723 : decode M_Law_law.2.1 723 = .ok (.iadd, 1) := by decide +kernel
theorem d_Law_law_724 : decode M_Law_law.2.1 724 = .ok (.iaload, 1) := by decide +kernel
theorem d_Law_law_725 : decode M_Law_law.2.1 725 = .ok (.aload_n 0, 1) := by decide +kernel
theorem d_Law_law_726 : decode M_Law_law.2.1 726 = .ok (.iload_n 3, 1) := by decide +kernel
theorem d_Law_law_727 : decode M_Law_law.2.1 727 = .ok (.iconst 3, 1) := by decide +kernel
theorem d_Law_law_728 : decode M_Law_law.2.1 728 = .ok (.iadd, 1) := by decide +kernel
theorem d_Law_law_729 : decode M_Law_law.2.1 729 = .ok (.iaload, 1) := by decide +kernel
theorem d_Law_law_730 : decode M_Law_law.2.1 730 = .ok (.aload_n 0, 1) := by decide +kernel
theorem d_Law_law_731 : decode M_Law_law.2.1 731 = .ok (.iload_n 3, 1) := by decide +kernel
theorem d_Law_law_732 : decode M_Law_law.2.1 732 = .ok (.iconst 4, 1) := by decide +kernel
theorem d_Law_law_733 : decode M_Law_law.2.1 733 = .ok (.iadd, 1) := by decide +kernel
theorem d_Law_law_734 : decode M_Law_law.2.1 734 = .ok (.iaload, 1) := by decide +kernel
theorem d_Law_law_735 : decode M_Law_law.2.1 735 = .ok (.invokevirtual 92, 3) := by decide +kernel
theorem d_Law_law_738 : decode M_Law_law.2.1 738 = .ok (.if_icmp .eq 174, 3) := by decide +kernel
theorem d_Law_law_741 : decode M_Law_law.2.1 741 = .ok (.iconst 0, 1) := by decide +kernel
theorem d_Law_law_742 : decode M_Law_law.2.1 742 = .ok (.ireturn, 1) := by decide +kernel
theorem d_Law_law_743 : decode M_Law_law.2.1 743 = .ok (.aload_n 1, 1) := by decide +kernel
theorem d_Law_law_744 : decode M_Law_law.2.1 744 = .ok (.aload_n 0, 1) := by decide +kernel
theorem d_Law_law_745 : decode M_Law_law.2.1 745 = .ok (.iload_n 3, 1) := by decide +kernel
theorem d_Law_law_746 : decode M_Law_law.2.1 746 = .ok (.iconst 1, 1) := by decide +kernel
theorem d_Law_law_747 : decode M_Law_law.2.1 747 = .ok (.iadd, 1) := by decide +kernel
theorem d_Law_law_748 : decode M_Law_law.2.1 748 = .ok (.iaload, 1) := by decide +kernel
theorem d_Law_law_749 : decode M_Law_law.2.1 749 = .ok (.aload_n 0, 1) := by decide +kernel
theorem d_Law_law_750 : decode M_Law_law.2.1 750 = .ok (.iload_n 3, 1) := by decide +kernel
theorem d_Law_law_751 : decode M_Law_law.2.1 751 = .ok (.iconst 2, 1) := by decide +kernel
theorem d_Law_law_752 : decode M_Law_law.2.1 752 = .ok (.iadd, 1) := by decide +kernel
theorem d_Law_law_753 : decode M_Law_law.2.1 753 = .ok (.iaload, 1) := by decide +kernel
theorem d_Law_law_754 : decode M_Law_law.2.1 754 = .ok (.aload_n 0, 1) := by decide +kernel
theorem d_Law_law_755 : decode M_Law_law.2.1 755 = .ok (.iload_n 3, 1) := by decide +kernel
theorem d_Law_law_756 : decode M_Law_law.2.1 756 = .ok (.iconst 3, 1) := by decide +kernel
theorem d_Law_law_757 : decode M_Law_law.2.1 757 = .ok (.iadd, 1) := by decide +kernel
theorem d_Law_law_758 : decode M_Law_law.2.1 758 = .ok (.iaload, 1) := by decide +kernel
theorem d_Law_law_759 : decode M_Law_law.2.1 759 = .ok (.aload_n 0, 1) := by decide +kernel
theorem d_Law_law_760 : decode M_Law_law.2.1 760 = .ok (.iload_n 3, 1) := by decide +kernel
theorem d_Law_law_761 : decode M_Law_law.2.1 761 = .ok (.iconst 4, 1) := by decide +kernel
theorem d_Law_law_762 : decode M_Law_law.2.1 762 = .ok (.iadd, 1) := by decide +kernel
theorem d_Law_law_763 : decode M_Law_law.2.1 763 = .ok (.iaload, 1) := by decide +kernel
theorem d_Law_law_764 : decode M_Law_law.2.1 764 = .ok (.ifCond .eq 7, 3) := by decide +kernel
theorem d_Law_law_767 : decode M_Law_law.2.1 767 = .ok (.iconst 1, 1) := by decide +kernel
theorem d_Law_law_768 : decode M_Law_law.2.1 768 = .ok (.goto 4, 3) := by decide +kernel
theorem d_Law_law_771 : decode M_Law_law.2.1 771 = .ok (.iconst 0, 1) := by decide +kernel
theorem d_Law_law_772 : decode M_Law_law.2.1 772 = .ok (.invokevirtual 93, 3) := by decide +kernel
theorem d_Law_law_775 : decode M_Law_law.2.1 775 = .ok (.aload_n 2, 1) := by decide +kernel
theorem d_Law_law_776 : decode M_Law_law.2.1 776 = .ok (.aload_n 0, 1) := by decide +kernel
theorem d_Law_law_777 : decode M_Law_law.2.1 777 = .ok (.iload_n 3, 1) := by decide +kernel
theorem d_Law_law_778 : decode M_Law_law.2.1 778 = .ok (.iconst 1, 1) := by decide +kernel
theorem d_Law_law_779 : decode M_Law_law.2.1 779 = .ok (.iadd, 1) := by decide +kernel
theorem d_Law_law_780 : decode M_Law_law.2.1 780 = .ok (.iaload, 1) := by decide +kernel
theorem d_Law_law_781 : decode M_Law_law.2.1 781 = .ok (.aload_n 0, 1) := by decide +kernel
theorem d_Law_law_782 : decode M_Law_law.2.1 782 = .ok (.iload_n 3, 1) := by decide +kernel
theorem d_Law_law_783 : decode M_Law_law.2.1 783 = .ok (.iconst 2, 1) := by decide +kernel
theorem d_Law_law_784 : decode M_Law_law.2.1 784 = .ok (.iadd, 1) := by decide +kernel
theorem d_Law_law_785 : decode M_Law_law.2.1 785 = .ok (.iaload, 1) := by decide +kernel
theorem d_Law_law_786 : decode M_Law_law.2.1 786 = .ok (.aload_n 0, 1) := by decide +kernel
theorem d_Law_law_787 : decode M_Law_law.2.1 787 = .ok (.iload_n 3, 1) := by decide +kernel
theorem d_Law_law_788 : decode M_Law_law.2.1 788 = .ok (.iconst 3, 1) := by decide +kernel
theorem d_Law_law_789 : decode M_Law_law.2.1 789 = .ok (.iadd, 1) := by decide +kernel
theorem d_Law_law_790 : decode M_Law_law.2.1 790 = .ok (.iaload, 1) := by decide +kernel
theorem d_Law_law_791 : decode M_Law_law.2.1 791 = .ok (.aload_n 0, 1) := by decide +kernel
theorem d_Law_law_792 : decode M_Law_law.2.1 792 = .ok (.iload_n 3, 1) := by decide +kernel
theorem d_Law_law_793 : decode M_Law_law.2.1 793 = .ok (.iconst 4, 1) := by decide +kernel
theorem d_Law_law_794 : decode M_Law_law.2.1 794 = .ok (.iadd, 1) := by decide +kernel
theorem d_Law_law_795 : decode M_Law_law.2.1 795 = .ok (.iaload, 1) := by decide +kernel
theorem d_Law_law_796 : decode M_Law_law.2.1 796 = .ok (.ifCond .eq 7, 3) := by decide +kernel
theorem d_Law_law_799 : decode M_Law_law.2.1 799 = .ok (.iconst 1, 1) := by decide +kernel
theorem d_Law_law_800 : decode M_Law_law.2.1 800 = .ok (.goto 4, 3) := by decide +kernel
theorem d_Law_law_803 : decode M_Law_law.2.1 803 = .ok (.iconst 0, 1) := by decide +kernel
theorem d_Law_law_804 : decode M_Law_law.2.1 804 = .ok (.invokevirtual 97, 3) := by decide +kernel
theorem d_Law_law_807 : decode M_Law_law.2.1 807 = .ok (.if_icmp .eq 105, 3) := by decide +kernel
theorem d_Law_law_810 : decode M_Law_law.2.1 810 = .ok (.iconst 0, 1) := by decide +kernel
theorem d_Law_law_811 : decode M_Law_law.2.1 811 = .ok (.ireturn, 1) := by decide +kernel
theorem d_Law_law_812 : decode M_Law_law.2.1 812 = .ok (.aload_n 1, 1) := by decide +kernel
theorem d_Law_law_813 : decode M_Law_law.2.1 813 = .ok (.aload_n 0, 1) := by decide +kernel
theorem d_Law_law_814 : decode M_Law_law.2.1 814 = .ok (.iload_n 3, 1) := by decide +kernel
theorem d_Law_law_815 : decode M_Law_law.2.1 815 = .ok (.iconst 1, 1) := by decide +kernel
theorem d_Law_law_816 : decode M_Law_law.2.1 816 = .ok (.iadd, 1) := by decide +kernel
theorem d_Law_law_817 : decode M_Law_law.2.1 817 = .ok (.iaload, 1) := by decide +kernel
theorem d_Law_law_818 : decode M_Law_law.2.1 818 = .ok (.aload_n 0, 1) := by decide +kernel
theorem d_Law_law_819 : decode M_Law_law.2.1 819 = .ok (.iload_n 3, 1) := by decide +kernel
theorem d_Law_law_820 : decode M_Law_law.2.1 820 = .ok (.iconst 2, 1) := by decide +kernel
theorem d_Law_law_821 : decode M_Law_law.2.1 821 = .ok (.iadd, 1) := by decide +kernel
theorem d_Law_law_822 : decode M_Law_law.2.1 822 = .ok (.iaload, 1) := by decide +kernel
theorem d_Law_law_823 : decode M_Law_law.2.1 823 = .ok (.invokevirtual 98, 3) := by decide +kernel
theorem d_Law_law_826 : decode M_Law_law.2.1 826 = .ok (.aload_n 2, 1) := by decide +kernel
theorem d_Law_law_827 : decode M_Law_law.2.1 827 = .ok (.aload_n 0, 1) := by decide +kernel
theorem d_Law_law_828 : decode M_Law_law.2.1 828 = .ok (.iload_n 3, 1) := by decide +kernel
theorem d_Law_law_829 : decode M_Law_law.2.1 829 = .ok (.iconst 1, 1) := by decide +kernel
theorem d_Law_law_830 : decode M_Law_law.2.1 830 = .ok (.iadd, 1) := by decide +kernel
theorem d_Law_law_831 : decode M_Law_law.2.1 831 = .ok (.iaload, 1) := by decide +kernel
theorem d_Law_law_832 : decode M_Law_law.2.1 832 = .ok (.aload_n 0, 1) := by decide +kernel
theorem d_Law_law_833 : decode M_Law_law.2.1 833 = .ok (.iload_n 3, 1) := by decide +kernel
theorem d_Law_law_834 : decode M_Law_law.2.1 834 = .ok (.iconst 2, 1) := by decide +kernel
theorem d_Law_law_835 : decode M_Law_law.2.1 835 = .ok (.iadd, 1) := by decide +kernel
theorem d_Law_law_836 : decode M_Law_law.2.1 836 = .ok (.iaload, 1) := by decide +kernel
theorem d_Law_law_837 : decode M_Law_law.2.1 837 = .ok (.invokevirtual 102, 3) := by decide +kernel
theorem d_Law_law_840 : decode M_Law_law.2.1 840 = .ok (.lcmp, 1) := by decide +kernel
theorem d_Law_law_841 : decode M_Law_law.2.1 841 = .ok (.ifCond .eq 71, 3) := by decide +kernel
theorem d_Law_law_844 : decode M_Law_law.2.1 844 = .ok (.iconst 0, 1) := by decide +kernel
theorem d_Law_law_845 : decode M_Law_law.2.1 845 = .ok (.ireturn, 1) := by decide +kernel
theorem d_Law_law_846 : decode M_Law_law.2.1 846 = .ok (.aload_n 1, 1) := by decide +kernel
theorem d_Law_law_847 : decode M_Law_law.2.1 847 = .ok (.aload_n 0, 1) := by decide +kernel
theorem d_Law_law_848 : decode M_Law_law.2.1 848 = .ok (.iload_n 3, 1) := by decide +kernel
theorem d_Law_law_849 : decode M_Law_law.2.1 849 = .ok (.iconst 1, 1) := by decide +kernel
theorem d_Law_law_850 : decode M_Law_law.2.1 850 = .ok (.iadd, 1) := by decide +kernel
theorem d_Law_law_851 : decode M_Law_law.2.1 851 = .ok (.iaload, 1) := by decide +kernel
theorem d_Law_law_852 : decode M_Law_law.2.1 852 = .ok (.aload_n 0, 1) := by decide +kernel
theorem d_Law_law_853 : decode M_Law_law.2.1 853 = .ok (.iload_n 3, 1) := by decide +kernel
theorem d_Law_law_854 : decode M_Law_law.2.1 854 = .ok (.iconst 2, 1) := by decide +kernel
theorem d_Law_law_855 : decode M_Law_law.2.1 855 = .ok (.iadd, 1) := by decide +kernel
theorem d_Law_law_856 : decode M_Law_law.2.1 856 = .ok (.iaload, 1) := by decide +kernel
theorem d_Law_law_857 : decode M_Law_law.2.1 857 = .ok (.invokevirtual 103, 3) := by decide +kernel
theorem d_Law_law_860 : decode M_Law_law.2.1 860 = .ok (.aload_n 2, 1) := by decide +kernel
theorem d_Law_law_861 : decode M_Law_law.2.1 861 = .ok (.aload_n 0, 1) := by decide +kernel
theorem d_Law_law_862 : decode M_Law_law.2.1 862 = .ok (.iload_n 3, 1) := by decide +kernel
theorem d_Law_law_863 : decode M_Law_law.2.1 863 = .ok (.iconst 1, 1) := by decide +kernel
theorem d_Law_law_864 : decode M_Law_law.2.1 864 = .ok (.iadd, 1) := by decide +kernel
theorem d_Law_law_865 : decode M_Law_law.2.1 865 = .ok (.iaload, 1) := by decide +kernel
theorem d_Law_law_866 : decode M_Law_law.2.1 866 = .ok (.aload_n 0, 1) := by decide +kernel
theorem d_Law_law_867 : decode M_Law_law.2.1 867 = .ok (.iload_n 3, 1) := by decide +kernel
theorem d_Law_law_868 : decode M_Law_law.2.1 868 = .ok (.iconst 2, 1) := by decide +kernel
theorem d_Law_law_869 : decode M_Law_law.2.1 869 = .ok (.iadd, 1) := by decide +kernel
theorem d_Law_law_870 : decode M_Law_law.2.1 870 = .ok (.iaload, 1) := by decide +kernel
theorem d_Law_law_871 : decode M_Law_law.2.1 871 = .ok (.invokevirtual 106, 3) := by decide +kernel
theorem d_Law_law_874 : decode M_Law_law.2.1 874 = .ok (.if_icmp .eq 38, 3) := by decide +kernel
theorem d_Law_law_877 : decode M_Law_law.2.1 877 = .ok (.iconst 0, 1) := by decide +kernel
theorem d_Law_law_878 : decode M_Law_law.2.1 878 = .ok (.ireturn, 1) := by decide +kernel
theorem d_Law_law_879 : decode M_Law_law.2.1 879 = .ok (.aload_n 1, 1) := by decide +kernel
theorem d_Law_law_880 : decode M_Law_law.2.1 880 = .ok (.aload_n 0, 1) := by decide +kernel
theorem d_Law_law_881 : decode M_Law_law.2.1 881 = .ok (.iload_n 3, 1) := by decide +kernel
theorem d_Law_law_882 : decode M_Law_law.2.1 882 = .ok (.iconst 1, 1) := by decide +kernel
theorem d_Law_law_883 : decode M_Law_law.2.1 883 = .ok (.iadd, 1) := by decide +kernel
theorem d_Law_law_884 : decode M_Law_law.2.1 884 = .ok (.iaload, 1) := by decide +kernel
theorem d_Law_law_885 : decode M_Law_law.2.1 885 = .ok (.aload_n 0, 1) := by decide +kernel
theorem d_Law_law_886 : decode M_Law_law.2.1 886 = .ok (.iload_n 3, 1) := by decide +kernel
theorem d_Law_law_887 : decode M_Law_law.2.1 887 = .ok (.iconst 2, 1) := by decide +kernel
theorem d_Law_law_888 : decode M_Law_law.2.1 888 = .ok (.iadd, 1) := by decide +kernel
theorem d_Law_law_889 : decode M_Law_law.2.1 889 = .ok (.iaload, 1) := by decide +kernel
theorem d_Law_law_890 : decode M_Law_law.2.1 890 = .ok (.invokevirtual 107, 3) := by decide +kernel
theorem d_Law_law_893 : decode M_Law_law.2.1 893 = .ok (.aload_n 2, 1) := by decide +kernel
theorem d_Law_law_894 : decode M_Law_law.2.1 894 = .ok (.aload_n 0, 1) := by decide +kernel
theorem d_Law_law_895 : decode M_Law_law.2.1 895 = .ok (.iload_n 3, 1) := by decide +kernel
theorem d_Law_law_896 : decode M_Law_law.2.1 896 = .ok (.iconst 1, 1) := by decide +kernel
theorem d_Law_law_897 : decode M_Law_law.2.1 897 = .ok (.iadd, 1) := by decide +kernel
theorem d_Law_law_898 : decode M_Law_law.2.1 898 = .ok (.iaload, 1) := by decide +kernel
theorem d_Law_law_899 : decode M_Law_law.2.1 899 = .ok (.aload_n 0, 1) := by decide +kernel
theorem d_Law_law_900 : decode M_Law_law.2.1 900 = .ok (.iload_n 3, 1) := by decide +kernel
theorem d_Law_law_901 : decode M_Law_law.2.1 901 = .ok (.iconst 2, 1) := by decide +kernel
theorem d_Law_law_902 : decode M_Law_law.2.1 902 = .ok (.iadd, 1) := by decide +kernel
theorem d_Law_law_903 : decode M_Law_law.2.1 903 = .ok (.iaload, 1) := by decide +kernel
theorem d_Law_law_904 : decode M_Law_law.2.1 904 = .ok (.invokevirtual 110, 3) := by decide +kernel
theorem d_Law_law_907 : decode M_Law_law.2.1 907 = .ok (.if_icmp .eq 5, 3) := by decide +kernel
theorem d_Law_law_910 : decode M_Law_law.2.1 910 = .ok (.iconst 0, 1) := by decide +kernel
theorem d_Law_law_911 : decode M_Law_law.2.1 911 = .ok (.ireturn, 1) := by decide +kernel
theorem d_Law_law_912 : decode M_Law_law.2.1 912 = .ok (.iinc 3 6, 3) := by decide +kernel
theorem d_Law_law_915 : decode M_Law_law.2.1 915 = .ok (.goto (-877), 3) := by decide +kernel
theorem d_Law_law_918 : decode M_Law_law.2.1 918 = .ok (.iconst 1, 1) := by decide +kernel
theorem d_Law_law_919 : decode M_Law_law.2.1 919 = .ok (.ireturn, 1) := by decide +kernel
end
section
/-! THE PURE MACHINE: cells by small numbers, a state of a method (pz_E), a contract (pz_K), a rule an instruction (pe_) -/
abbrev pz_C : Type := (Nat × vp_A) ⊕ (Nat × List Value)
abbrev pz_H : Type := Nat → Option pz_C

abbrev pz_Q : Type := Option Value → pz_H → Nat → Prop
def pu (h : pz_H) (k : Nat) (c : pz_C) : pz_H := fun j => if j = k then some c else h j
theorem pu_eq (h : pz_H) (k : Nat) (c : pz_C) : pu h k c k = some c := by simp [pu]
theorem pu_ne {h : pz_H} {k j : Nat} {c : pz_C} (hj : j ≠ k) : pu h k c j = h j := by simp [pu, hj]
/-- a value of the pure machine, as the machine has it: g the first new cell, b the script's -/
def pz_v (g b : Nat) (v : Value) : Value := match v with
  | .ref k => .ref (g + k)
  | .retAddr _ => .ref b
  | w => w
theorem pz_cat (g b : Nat) (v : Value) : (pz_v g b v).category = v.category := by cases v <;> rfl
def pz_q (g : Nat) (a : vp_A) : vp_A := (a.1, match a.2 with
  | .inr (.inr (.inr (.inr f))) => .inr (.inr (.inr (.inr (fun j => (f j).map (fun k => g + k)))))
  | .inl f => .inl f
  | .inr (.inl f) => .inr (.inl f)
  | .inr (.inr (.inl f)) => .inr (.inr (.inl f))
  | .inr (.inr (.inr (.inl f))) => .inr (.inr (.inr (.inl f))))
def pz_e (g b : Nat) (cA : Nat → ClassId) (x : Option pz_C) : va_E := match x with
  | some (.inl (t, a)) => .inl (cA t, pz_q g a)
  | some (.inr (ci, fs)) => .inr (ci, fs.map (pz_v g b))
  | none => .inr (0, [])
def pz_w (g b : Nat) (cA : Nat → ClassId) (h : pz_H) (z : Nat) : va_W := (List.range z).map fun k => (g + k, pz_e g b cA (h k))
theorem pz_w_at {g b : Nat} {cA : Nat → ClassId} {h : pz_H} {z k : Nat} (hk : k < z) : (pz_w g b cA h z)[k]? = some (g + k, pz_e g b cA (h k)) := by
  simp [pz_w, List.getElem?_range hk]
theorem pz_w_len {g b : Nat} {cA : Nat → ClassId} {h : pz_H} {z : Nat} : (pz_w g b cA h z).length = z := by simp [pz_w]
theorem pz_w_of {g b : Nat} {cA : Nat → ClassId} {h : pz_H} {z k : Nat} {q : Nat × va_E} (hq : (pz_w g b cA h z)[k]? = some q) : k < z ∧ q = (g + k, pz_e g b cA (h k)) := by
  have hk : k < z := by
    have := (List.getElem?_eq_some_iff.mp hq).1
    rwa [pz_w_len] at this
  exact ⟨hk, Option.some.inj (hq.symm.trans (pz_w_at hk))⟩
theorem pz_w_set {g b : Nat} {cA : Nat → ClassId} {h : pz_H} {z k : Nat} {c : pz_C} (hk : k < z) : (pz_w g b cA h z).set k (g + k, pz_e g b cA (some c)) = pz_w g b cA (pu h k c) z := by
  apply List.ext_getElem?
  intro i
  by_cases hi : i = k
  · subst hi
    rw [List.getElem?_set_self (by rw [pz_w_len]; exact hk), pz_w_at hk, pu_eq]
  · rw [List.getElem?_set_ne (Ne.symm hi)]
    by_cases hz : i < z
    · rw [pz_w_at hz, pz_w_at hz, pu_ne hi]
    · rw [List.getElem?_eq_none (by rw [pz_w_len]; omega), List.getElem?_eq_none (by rw [pz_w_len]; omega)]
theorem pz_w_push {g b : Nat} {cA : Nat → ClassId} {h : pz_H} {z : Nat} {c : pz_C} : pz_w g b cA h z ++ [(g + z, pz_e g b cA (some c))] = pz_w g b cA (pu h z c) (z + 1) := by
  apply List.ext_getElem?
  intro i
  by_cases hi : i < z
  · rw [List.getElem?_append_left (by rw [pz_w_len]; exact hi), pz_w_at hi, pz_w_at (by omega), pu_ne (by omega)]
  · by_cases hz : i = z
    · subst hz
      rw [List.getElem?_append_right (by rw [pz_w_len]; omega), pz_w_len, Nat.sub_self, pz_w_at (by omega), pu_eq]
      rfl
    · rw [List.getElem?_eq_none (by rw [List.length_append, pz_w_len]; simp; omega), List.getElem?_eq_none (by rw [pz_w_len]; omega)]
theorem pz_w_D {g b : Nat} {cA : Nat → ClassId} {h : pz_H} {z : Nat} : va_D (fun q => g ≤ q) (pz_w g b cA h z) := by
  refine ⟨fun i j x y hi hj hxy => ?_, fun k q hk => ?_⟩
  · obtain ⟨-, rfl⟩ := pz_w_of hi
    obtain ⟨-, rfl⟩ := pz_w_of hj
    have : g + i = g + j := hxy
    omega
  · obtain ⟨-, rfl⟩ := pz_w_of hk
    exact Nat.le_add_right g k
def pz_tys (cA : Nat → ClassId) : List (ClassId × FieldType) := (List.range px_ts.length).map fun i => (cA i, px_ts.getD i .int)
theorem pz_tys_at {cA : Nat → ClassId} {t : Nat} {ty : FieldType} (h : px_ts[t]? = some ty) : (pz_tys cA)[t]? = some (cA t, ty) := by
  have ht : t < px_ts.length := (List.getElem?_eq_some_iff.mp h).1
  simp [pz_tys, List.getElem?_range ht, List.getD_eq_getElem?_getD, h]
/-- what of the tables isn't a method's word: links to hidden members of nest mates, kinds of arrays -/
def pz_nest (w : Cond) : Bool := match w with
  | .fieldLinkNest _ _ _ _ _ _ => true
  | .methodLinkNest _ _ _ _ => true
  | _ => false
def pz_N (U : State) : Prop := (∀ w ∈ px_nw, pz_nest w = true ∧ va_Nw w U) ∧ ∀ C ∈ px_ao, va_AO C U
theorem pz_N.moved {s U : State} (hW : s.WarmedH U.vm) (h : pz_N s) : pz_N U := by
  refine ⟨fun w hw => ⟨(h.1 w hw).1, ?_⟩, fun C hC => (h.2 C hC).moved hW.alike⟩
  obtain ⟨h1, h2⟩ := h.1 w hw
  cases w <;> first | exact va_Nw.warmF hW h2 | exact va_Nw.warmM hW h2 | exact absurd h1 (by simp [pz_nest])
/-- what doesn't change while a method runs -/
def pz_G (D : va_G) (g b : Nat) (cA : Nat → ClassId) (L : Nat) (xs : Nat → Int32) (U : State) : Prop := va_K D px_cl (pz_tys cA) U ∧ pz_N U ∧ b < g ∧ g ≤ U.heap.size ∧ va_X b L xs U U.heap
/-- the heap holds the pure cells -/
def pz_P (D : va_G) (g b : Nat) (cA : Nat → ClassId) (h : pz_H) (z : Nat) (H : Heap) : Prop := va_P D px_cl (pz_w g b cA h z) H ∧ H.size = g + z ∧ (∀ k c, h k = some c → k < z) ∧ ∀ k, k < z → ∃ c, h k = some c
def pz_lv (g b : Nat) (A : Array Slot) (n : Nat) (ls : List (Option Value)) : Prop := A.size = n ∧ lv_wf A ∧ ∀ (i : Nat) (v : Value), ls[i]? = some (some v) → A[i]? = some (.val (pz_v g b v))
/-- where a method leaves -/
def pz_ret (M : pz_M) (pc : Nat) (v : Option Value) : Prop := match v with
  | none => decode M.2.1 pc = .ok (.return_, 1) ∧ M.2.2.2 = none
  | some (.int x) => decode M.2.1 pc = .ok (.ireturn, 1) ∧ ∃ ty, M.2.2.2 = some ty ∧ narrow ty (.int x) = .int x
  | some (.long _) => decode M.2.1 pc = .ok (.lreturn, 1) ∧ M.2.2.2 = some .long
  | some (.ref _) => decode M.2.1 pc = .ok (.areturn, 1) ∧ ∃ C, M.2.2.2 = some (.object C)
  | _ => False
def pz_X (l : Launch) (L : Nat) (xs : Nat → Int32) (M : pz_M) (d fc fs : Nat) (ls : List (Option Value)) (h : pz_H) (z : Nat) (Q : pz_Q)
    (p : Program) (e : Env) (s : State) (m : MethodId) (args : Array Value) (below : List Frame) (meth : Method) (c : Code) (R : Room) (H : Heap) (locs : List Loc) (cells slots : Nat) (D : va_G) (g b : Nat) (cA : Nat → ClassId) (mc ms : Nat) (Qm : State → Prop) (A : Array Slot) : Prop :=
  CallFix p m c M.2.1 M.2.2.1 s args px_tbl M.1.cls ∧ meth.name = M.1.name ∧ (d ≤ R.frames ∧ px_lc * d ≤ R.locals ∧ mc ≤ R.cells ∧ ms ≤ R.slots) ∧ pz_G D g b cA L xs s ∧ pz_P D g b cA h z H ∧ va_S (fun q => g ≤ q) s.heap H locs ∧ pz_lv g b A M.2.2.1 ls ∧ (cells + fc ≤ mc ∧ slots + fs ≤ ms) ∧
  ∀ (v : Option Value) (h' : pz_H) (z' : Nat) (H' : Heap) (locs' : List Loc) (cells' slots' pc' : Nat) (A' : Array Slot), pz_ret M pc' v → Q v h' z' → pz_P D g b cA h' z' H' → va_S (fun q => g ≤ q) s.heap H' locs' → cells' ≤ mc → slots' ≤ ms →
    W p l e R s m args below meth c H' locs' cells' slots' Qm (F0 m pc' A' (v.toList.map (pz_v g b)))
/-- method M stands at pc with these locals, this stack, these cells (z of them; fc cells of fs slots may still be made): it ends with Q -/
def pz_E (l : Launch) (L : Nat) (xs : Nat → Int32) (M : pz_M) (d fc fs pc : Nat) (ls : List (Option Value)) (st : List Value) (h : pz_H) (z : Nat) (Q : pz_Q) : Prop :=
  ∀ (p : Program) (e : Env) (s : State) (m : MethodId) (args : Array Value) (below : List Frame) (meth : Method) (c : Code) (R : Room) (H : Heap) (locs : List Loc) (cells slots : Nat) (D : va_G) (g b : Nat) (cA : Nat → ClassId) (mc ms : Nat) (Qm : State → Prop) (A : Array Slot),
    pz_X l L xs M d fc fs ls h z Q p e s m args below meth c R H locs cells slots D g b cA mc ms Qm A → W p l e R s m args below meth c H locs cells slots Qm (F0 m pc A (st.map (pz_v g b)))
def pz_ws (M : pz_M) : List Cond := .code M.1 M.2.1 M.2.2.1 M.2.2.2 :: px_tbl
def pz_rm (d mc ms : Nat) : Room := { frames := d, cells := mc, slots := ms, locals := px_lc * d }
def pz_Pc (D : va_G) (g b : Nat) (cA : Nat → ClassId) (L : Nat) (xs : Nat → Int32) (as : List Value) (h : pz_H) (z : Nat) : Array Value → State → Prop := va_Pc (as.map (pz_v g b)) (fun U => pz_G D g b cA L xs U ∧ pz_P D g b cA h z U.heap)
def pz_Qc (D : va_G) (g b : Nat) (cA : Nat → ClassId) (Q : pz_Q) : Array Value → State → Outcome → State → Prop := fun _ st o t => ∃ (v : Option Value) (h' : pz_H) (z' : Nat), o = .returned (v.map (pz_v g b)) ∧ Q v h' z' ∧ pz_P D g b cA h' z' t.heap ∧ va_F (fun q => g ≤ q) st t
/-- a contract: M, called with as over the cells h, returns v over the cells h' with Q v h' z'; at most mc cells of ms slots are new -/
def pz_K (l : Launch) (L : Nat) (xs : Nat → Int32) (M : pz_M) (d mc ms : Nat) (as : List Value) (h : pz_H) (z : Nat) (Q : pz_Q) : Prop :=
  ∀ (D : va_G) (g b : Nat) (cA : Nat → ClassId), Met l M.1 (pz_ws M) (pz_rm d mc ms) (pz_Pc D g b cA L xs as h z) (pz_Qc D g b cA Q) mc ms (fun q => g ≤ q)
def pz_c1 (ls : List (Option Value)) (i : Nat) : Bool := match i with
  | 0 => true
  | j + 1 => match ls[j]? with
    | some (some (.long _)) => false
    | some (some (.double _)) => false
    | _ => true
theorem pz_store1 {g b : Nat} {A : Array Slot} {n i : Nat} {ls : List (Option Value)} {v : Value} (h : pz_lv g b A n ls) (hi : i < n) (hc : v.category = 1) (hk : pz_c1 ls i = true) : ∃ A', storeLocals A i (pz_v g b v) = some A' ∧ pz_lv g b A' n (ls.set i (some v)) := by
  have hcv : (pz_v g b v).category = 1 := by rw [pz_cat]; exact hc
  obtain ⟨A', e1, h1⟩ := lv_store1 (v := pz_v g b v) (l := []) ⟨h.1, h.2.1, fun q hq => by cases hq⟩ hi hcv
  refine ⟨A', e1, h1.1, h1.2.1, fun j w hj => ?_⟩
  by_cases hji : j = i
  · subst hji
    rw [List.getElem?_set_self'] at hj
    cases hl : ls[j]? with
    | none => rw [hl] at hj; cases hj
    | some o =>
      rw [hl] at hj
      have hw : v = w := by simpa using hj
      subst hw
      exact h1.2.2 _ List.mem_cons_self
  · rw [List.getElem?_set_ne (Ne.symm hji)] at hj
    obtain ⟨A2, e2, h2⟩ := lv_store1 (v := pz_v g b v) (l := [(j, pz_v g b w)]) ⟨h.1, h.2.1, fun q hq => by rw [List.mem_singleton.mp hq]; exact h.2.2 j w hj⟩ hi hcv
    have : A2 = A' := Option.some.inj (e2.symm.trans e1)
    subst this
    refine h2.2.2 (j, pz_v g b w) (List.mem_cons_of_mem _ (List.mem_filter.mpr ⟨List.mem_singleton.mpr rfl, ?_⟩))
    by_cases hj1 : j + 1 = i
    · subst hj1
      have hw : (pz_v g b w).category = 1 := by
        rw [pz_cat]
        cases w <;> first | rfl | (simp [pz_c1, hj] at hk)
      simp [hw]
    · simp [hji, hj1]
theorem pz_store2 {g b : Nat} {A : Array Slot} {n i : Nat} {ls : List (Option Value)} {v : Value} (h : pz_lv g b A n ls) (hi : i + 1 < n) (hc : v.category = 2) (hk : pz_c1 ls i = true) : ∃ A', storeLocals A i (pz_v g b v) = some A' ∧ pz_lv g b A' n ((ls.set i (some v)).set (i + 1) none) := by
  have hcv : (pz_v g b v).category = 2 := by rw [pz_cat]; exact hc
  obtain ⟨A', e1, h1⟩ := lv_store2 (v := pz_v g b v) (l := []) ⟨h.1, h.2.1, fun q hq => by cases hq⟩ hi hcv
  refine ⟨A', e1, h1.1, h1.2.1, fun j w hj => ?_⟩
  by_cases hj2 : j = i + 1
  · subst hj2
    rw [List.getElem?_set_self'] at hj
    cases hl : (ls.set i (some v))[i + 1]? with
    | none => rw [hl] at hj; cases hj
    | some o => rw [hl] at hj; simp at hj
  · rw [List.getElem?_set_ne (Ne.symm hj2)] at hj
    by_cases hji : j = i
    · subst hji
      rw [List.getElem?_set_self'] at hj
      cases hl : ls[j]? with
      | none => rw [hl] at hj; cases hj
      | some o =>
        rw [hl] at hj
        have hw : v = w := by simpa using hj
        subst hw
        exact h1.2.2 _ List.mem_cons_self
    · rw [List.getElem?_set_ne (Ne.symm hji)] at hj
      obtain ⟨A2, e2, h2⟩ := lv_store2 (v := pz_v g b v) (l := [(j, pz_v g b w)]) ⟨h.1, h.2.1, fun q hq => by rw [List.mem_singleton.mp hq]; exact h.2.2 j w hj⟩ hi hcv
      have : A2 = A' := Option.some.inj (e2.symm.trans e1)
      subst this
      refine h2.2.2 (j, pz_v g b w) (List.mem_cons_of_mem _ (List.mem_filter.mpr ⟨List.mem_singleton.mpr rfl, ?_⟩))
      by_cases hj1 : j + 1 = i
      · subst hj1
        have hw : (pz_v g b w).category = 1 := by
          rw [pz_cat]
          cases w <;> first | rfl | (simp [pz_c1, hj] at hk)
        simp [hw]
        omega
      · simp [hji, hj1, hj2]
/-- the locals with which a method begins -/
def pz_in (n : Nat) : List Value → List (Option Value)
  | [] => List.replicate n none
  | v :: vs => if v.category = 2 then some v :: none :: pz_in (n - 2) vs else some v :: pz_in (n - 1) vs
theorem pz_in_at : ∀ (vs : List Value) (n k : Nat) (i : Nat) (v : Value), (pz_in n vs)[i]? = some (some v) → ∃ q ∈ lv_args k vs, q = (k + i, v)
  | [], n, k, i, v, h => by
    have := List.mem_of_getElem? h
    simp [pz_in] at this
  | w :: vs, n, k, i, v, h => by
    unfold pz_in at h
    by_cases hc : w.category = 2
    · rw [if_pos hc] at h
      match i, h with
      | 0, h =>
        have : w = v := by simpa using h
        subst this
        exact ⟨(k, w), by simp [lv_args], by simp⟩
      | 1, h => simp at h
      | j + 2, h =>
        obtain ⟨q, hq, e⟩ := pz_in_at vs (n - 2) (k + 2) j v (by simpa using h)
        exact ⟨q, by simp [lv_args, hc, hq], by rw [e]; congr 1; omega⟩
    · rw [if_neg hc] at h
      match i, h with
      | 0, h =>
        have : w = v := by simpa using h
        subst this
        exact ⟨(k, w), by simp [lv_args], by simp⟩
      | j + 1, h =>
        obtain ⟨q, hq, e⟩ := pz_in_at vs (n - 1) (k + 1) j v (by simpa using h)
        exact ⟨q, by simp [lv_args, hc, hq], by rw [e]; congr 1; omega⟩
theorem pz_in_map (g b : Nat) : ∀ (vs : List Value) (n : Nat), pz_in n (vs.map (pz_v g b)) = (pz_in n vs).map (Option.map (pz_v g b))
  | [], n => by simp [pz_in]
  | w :: vs, n => by
    simp only [List.map_cons, pz_in, pz_cat]
    by_cases hc : w.category = 2
    · rw [if_pos hc, if_pos hc, pz_in_map g b vs]
      rfl
    · rw [if_neg hc, if_neg hc, pz_in_map g b vs]
      rfl
theorem pz_entry (g b : Nat) (vs : List Value) (n : Nat) (hn : (lg_sl (vs.map (pz_v g b))).length ≤ n) : pz_lv g b ((lg_sl (vs.map (pz_v g b)) ++ List.replicate (n - (lg_sl (vs.map (pz_v g b))).length) Slot.unset).toArray) n (pz_in n vs) := by
  have h := lv_entry (vs.map (pz_v g b)) hn
  refine ⟨h.1, h.2.1, fun i v hi => ?_⟩
  have h2 : (pz_in n (vs.map (pz_v g b)))[i]? = some (some (pz_v g b v)) := by
    rw [pz_in_map, List.getElem?_map, hi]
    rfl
  obtain ⟨q, hq, e⟩ := pz_in_at _ n 0 i _ h2
  rw [Nat.zero_add] at e
  have := h.2.2 q hq
  rw [e] at this
  exact this
theorem pz_sl (g b : Nat) : ∀ vs : List Value, (lg_sl (vs.map (pz_v g b))).length = (vs.map Value.category).sum
  | [] => rfl
  | v :: vs => by
    have ih := pz_sl g b vs
    simp only [lg_sl] at ih
    simp only [lg_sl, List.map_cons, List.flatMap_cons, List.length_append, ih, List.sum_cons, pz_cat]
    rcases lv_cat v with h | h <;> simp [h]

section PE
variable {l : Launch} {L : Nat} {xs : Nat → Int32} {M : pz_M} {d fc fs pc : Nat} {ls : List (Option Value)} {st : List Value} {h : pz_H} {z : Nat} {Q : pz_Q}
theorem pe_iconst {n : Int} {v : Int32} (hd : decode M.2.1 pc = .ok (.iconst n, 1)) (hv : Int32.ofInt n = v) (kk : pz_E l L xs M d fc fs (pc + 1) ls (.int v :: st) h z Q) : pz_E l L xs M d fc fs pc ls st h z Q := by
  intro p e s m args below meth c R H locs cells slots D g b cA mc ms Qm A X
  exact lv_iconst X.1.1 X.1.2.1 hd hv (kk p e s m args below meth c R H locs cells slots D g b cA mc ms Qm A X)
theorem pe_bipush {n : Int} {v : Int32} (hd : decode M.2.1 pc = .ok (.bipush n, 2)) (hv : (Int8.ofInt n).toInt32 = v) (kk : pz_E l L xs M d fc fs (pc + 2) ls (.int v :: st) h z Q) : pz_E l L xs M d fc fs pc ls st h z Q := by
  intro p e s m args below meth c R H locs cells slots D g b cA mc ms Qm A X
  exact lv_bipush X.1.1 X.1.2.1 hd hv (kk p e s m args below meth c R H locs cells slots D g b cA mc ms Qm A X)
theorem pe_sipush {n : Int} {v : Int32} (hd : decode M.2.1 pc = .ok (.sipush n, 3)) (hv : (Int16.ofInt n).toInt32 = v) (kk : pz_E l L xs M d fc fs (pc + 3) ls (.int v :: st) h z Q) : pz_E l L xs M d fc fs pc ls st h z Q := by
  intro p e s m args below meth c R H locs cells slots D g b cA mc ms Qm A X
  exact lv_sipush X.1.1 X.1.2.1 hd hv (kk p e s m args below meth c R H locs cells slots D g b cA mc ms Qm A X)
theorem pe_lconst {n : Fin 2} {v : Int64} (hd : decode M.2.1 pc = .ok (.lconst n, 1)) (hv : Int64.ofNat (n : Nat) = v) (kk : pz_E l L xs M d fc fs (pc + 1) ls (.long v :: st) h z Q) : pz_E l L xs M d fc fs pc ls st h z Q := by
  intro p e s m args below meth c R H locs cells slots D g b cA mc ms Qm A X
  exact lv_lconst X.1.1 X.1.2.1 hd hv (kk p e s m args below meth c R H locs cells slots D g b cA mc ms Qm A X)
theorem pe_null  (hd : decode M.2.1 pc = .ok (.aconst_null, 1))  (kk : pz_E l L xs M d fc fs (pc + 1) ls (.null :: st) h z Q) : pz_E l L xs M d fc fs pc ls st h z Q := by
  intro p e s m args below meth c R H locs cells slots D g b cA mc ms Qm A X
  exact lv_null X.1.1 X.1.2.1 hd  (kk p e s m args below meth c R H locs cells slots D g b cA mc ms Qm A X)
theorem pe_iadd {x y : Int32} (hd : decode M.2.1 pc = .ok (.iadd, 1))  (kk : pz_E l L xs M d fc fs (pc + 1) ls (.int (x + y) :: st) h z Q) : pz_E l L xs M d fc fs pc ls (.int y :: .int x :: st) h z Q := by
  intro p e s m args below meth c R H locs cells slots D g b cA mc ms Qm A X
  exact lv_iadd X.1.1 X.1.2.1 hd  (kk p e s m args below meth c R H locs cells slots D g b cA mc ms Qm A X)
theorem pe_isub {x y : Int32} (hd : decode M.2.1 pc = .ok (.isub, 1))  (kk : pz_E l L xs M d fc fs (pc + 1) ls (.int (x - y) :: st) h z Q) : pz_E l L xs M d fc fs pc ls (.int y :: .int x :: st) h z Q := by
  intro p e s m args below meth c R H locs cells slots D g b cA mc ms Qm A X
  exact lv_isub X.1.1 X.1.2.1 hd  (kk p e s m args below meth c R H locs cells slots D g b cA mc ms Qm A X)
theorem pe_imul {x y : Int32} (hd : decode M.2.1 pc = .ok (.imul, 1))  (kk : pz_E l L xs M d fc fs (pc + 1) ls (.int (x * y) :: st) h z Q) : pz_E l L xs M d fc fs pc ls (.int y :: .int x :: st) h z Q := by
  intro p e s m args below meth c R H locs cells slots D g b cA mc ms Qm A X
  exact lv_imul X.1.1 X.1.2.1 hd  (kk p e s m args below meth c R H locs cells slots D g b cA mc ms Qm A X)
theorem pe_iand {x y : Int32} (hd : decode M.2.1 pc = .ok (.iand, 1))  (kk : pz_E l L xs M d fc fs (pc + 1) ls (.int (x &&& y) :: st) h z Q) : pz_E l L xs M d fc fs pc ls (.int y :: .int x :: st) h z Q := by
  intro p e s m args below meth c R H locs cells slots D g b cA mc ms Qm A X
  exact lv_iand X.1.1 X.1.2.1 hd  (kk p e s m args below meth c R H locs cells slots D g b cA mc ms Qm A X)
theorem pe_ior {x y : Int32} (hd : decode M.2.1 pc = .ok (.ior, 1))  (kk : pz_E l L xs M d fc fs (pc + 1) ls (.int (x ||| y) :: st) h z Q) : pz_E l L xs M d fc fs pc ls (.int y :: .int x :: st) h z Q := by
  intro p e s m args below meth c R H locs cells slots D g b cA mc ms Qm A X
  exact lv_ior X.1.1 X.1.2.1 hd  (kk p e s m args below meth c R H locs cells slots D g b cA mc ms Qm A X)
theorem pe_ixor {x y : Int32} (hd : decode M.2.1 pc = .ok (.ixor, 1))  (kk : pz_E l L xs M d fc fs (pc + 1) ls (.int (x ^^^ y) :: st) h z Q) : pz_E l L xs M d fc fs pc ls (.int y :: .int x :: st) h z Q := by
  intro p e s m args below meth c R H locs cells slots D g b cA mc ms Qm A X
  exact lv_ixor X.1.1 X.1.2.1 hd  (kk p e s m args below meth c R H locs cells slots D g b cA mc ms Qm A X)
theorem pe_ladd {x y : Int64} (hd : decode M.2.1 pc = .ok (.ladd, 1))  (kk : pz_E l L xs M d fc fs (pc + 1) ls (.long (x + y) :: st) h z Q) : pz_E l L xs M d fc fs pc ls (.long y :: .long x :: st) h z Q := by
  intro p e s m args below meth c R H locs cells slots D g b cA mc ms Qm A X
  exact lv_ladd X.1.1 X.1.2.1 hd  (kk p e s m args below meth c R H locs cells slots D g b cA mc ms Qm A X)
theorem pe_lsub {x y : Int64} (hd : decode M.2.1 pc = .ok (.lsub, 1))  (kk : pz_E l L xs M d fc fs (pc + 1) ls (.long (x - y) :: st) h z Q) : pz_E l L xs M d fc fs pc ls (.long y :: .long x :: st) h z Q := by
  intro p e s m args below meth c R H locs cells slots D g b cA mc ms Qm A X
  exact lv_lsub X.1.1 X.1.2.1 hd  (kk p e s m args below meth c R H locs cells slots D g b cA mc ms Qm A X)
theorem pe_lmul {x y : Int64} (hd : decode M.2.1 pc = .ok (.lmul, 1))  (kk : pz_E l L xs M d fc fs (pc + 1) ls (.long (x * y) :: st) h z Q) : pz_E l L xs M d fc fs pc ls (.long y :: .long x :: st) h z Q := by
  intro p e s m args below meth c R H locs cells slots D g b cA mc ms Qm A X
  exact lv_lmul X.1.1 X.1.2.1 hd  (kk p e s m args below meth c R H locs cells slots D g b cA mc ms Qm A X)
theorem pe_land {x y : Int64} (hd : decode M.2.1 pc = .ok (.land, 1))  (kk : pz_E l L xs M d fc fs (pc + 1) ls (.long (x &&& y) :: st) h z Q) : pz_E l L xs M d fc fs pc ls (.long y :: .long x :: st) h z Q := by
  intro p e s m args below meth c R H locs cells slots D g b cA mc ms Qm A X
  exact lv_land X.1.1 X.1.2.1 hd  (kk p e s m args below meth c R H locs cells slots D g b cA mc ms Qm A X)
theorem pe_iushr {x y v : Int32} (hd : decode M.2.1 pc = .ok (.iushr, 1)) (hv : (x.toUInt32 >>> (y.toUInt32 &&& Int32.toUInt32 31)).toInt32 = v) (kk : pz_E l L xs M d fc fs (pc + 1) ls (.int v :: st) h z Q) : pz_E l L xs M d fc fs pc ls (.int y :: .int x :: st) h z Q := by
  intro p e s m args below meth c R H locs cells slots D g b cA mc ms Qm A X
  exact lv_iushr X.1.1 X.1.2.1 hd hv (kk p e s m args below meth c R H locs cells slots D g b cA mc ms Qm A X)
theorem pe_i2l {x : Int32} (hd : decode M.2.1 pc = .ok (.i2l, 1))  (kk : pz_E l L xs M d fc fs (pc + 1) ls (.long x.toInt64 :: st) h z Q) : pz_E l L xs M d fc fs pc ls (.int x :: st) h z Q := by
  intro p e s m args below meth c R H locs cells slots D g b cA mc ms Qm A X
  exact lv_i2l X.1.1 X.1.2.1 hd rfl (kk p e s m args below meth c R H locs cells slots D g b cA mc ms Qm A X)
theorem pe_l2i {x : Int64} (hd : decode M.2.1 pc = .ok (.l2i, 1))  (kk : pz_E l L xs M d fc fs (pc + 1) ls (.int x.toInt32 :: st) h z Q) : pz_E l L xs M d fc fs pc ls (.long x :: st) h z Q := by
  intro p e s m args below meth c R H locs cells slots D g b cA mc ms Qm A X
  exact lv_l2i X.1.1 X.1.2.1 hd rfl (kk p e s m args below meth c R H locs cells slots D g b cA mc ms Qm A X)
theorem pe_lcmp {x y : Int64} (hd : decode M.2.1 pc = .ok (.lcmp, 1))  (kk : pz_E l L xs M d fc fs (pc + 1) ls (.int (lg_cmp x y) :: st) h z Q) : pz_E l L xs M d fc fs pc ls (.long y :: .long x :: st) h z Q := by
  intro p e s m args below meth c R H locs cells slots D g b cA mc ms Qm A X
  exact W.lcmp X.1.1 X.1.2.1 hd  (kk p e s m args below meth c R H locs cells slots D g b cA mc ms Qm A X)
theorem pe_idiv {x y : Int32} (hd : decode M.2.1 pc = .ok (.idiv, 1)) (hy : y ≠ 0) (kk : pz_E l L xs M d fc fs (pc + 1) ls (.int (x / y) :: st) h z Q) : pz_E l L xs M d fc fs pc ls (.int y :: .int x :: st) h z Q := by
  intro p e s m args below meth c R H locs cells slots D g b cA mc ms Qm A X
  exact lv_idiv X.1.1 X.1.2.1 hd hy (kk p e s m args below meth c R H locs cells slots D g b cA mc ms Qm A X)
theorem pe_irem {x y : Int32} (hd : decode M.2.1 pc = .ok (.irem, 1)) (hy : y ≠ 0) (kk : pz_E l L xs M d fc fs (pc + 1) ls (.int (x - x / y * y) :: st) h z Q) : pz_E l L xs M d fc fs pc ls (.int y :: .int x :: st) h z Q := by
  intro p e s m args below meth c R H locs cells slots D g b cA mc ms Qm A X
  exact lv_irem X.1.1 X.1.2.1 hd hy (kk p e s m args below meth c R H locs cells slots D g b cA mc ms Qm A X)
theorem pe_dup {w : Value} (hd : decode M.2.1 pc = .ok (.dup, 1)) (hw : w.category = 1) (kk : pz_E l L xs M d fc fs (pc + 1) ls (w :: w :: st) h z Q) : pz_E l L xs M d fc fs pc ls (w :: st) h z Q := by
  intro p e s m args below meth c R H locs cells slots D g b cA mc ms Qm A X
  exact lv_dup X.1.1 X.1.2.1 hd (by rw [pz_cat]; exact hw) (kk p e s m args below meth c R H locs cells slots D g b cA mc ms Qm A X)
theorem pe_pop {w : Value} (hd : decode M.2.1 pc = .ok (.pop, 1)) (hw : w.category = 1) (kk : pz_E l L xs M d fc fs (pc + 1) ls st h z Q) : pz_E l L xs M d fc fs pc ls (w :: st) h z Q := by
  intro p e s m args below meth c R H locs cells slots D g b cA mc ms Qm A X
  exact lv_pop X.1.1 X.1.2.1 hd (by rw [pz_cat]; exact hw) (kk p e s m args below meth c R H locs cells slots D g b cA mc ms Qm A X)
theorem pe_dup_x1 {w u : Value} (hd : decode M.2.1 pc = .ok (.dup_x1, 1)) (hw : w.category = 1) (hu : u.category = 1) (kk : pz_E l L xs M d fc fs (pc + 1) ls (w :: u :: w :: st) h z Q) : pz_E l L xs M d fc fs pc ls (w :: u :: st) h z Q := by
  intro p e s m args below meth c R H locs cells slots D g b cA mc ms Qm A X
  exact lv_dup_x1 X.1.1 X.1.2.1 hd (by rw [pz_cat]; exact hw) (by rw [pz_cat]; exact hu) (kk p e s m args below meth c R H locs cells slots D g b cA mc ms Qm A X)
theorem pe_dup_x2 {w u t : Value} (hd : decode M.2.1 pc = .ok (.dup_x2, 1)) (hw : w.category = 1) (hu : u.category = 1) (ht : t.category = 1) (kk : pz_E l L xs M d fc fs (pc + 1) ls (w :: u :: t :: w :: st) h z Q) : pz_E l L xs M d fc fs pc ls (w :: u :: t :: st) h z Q := by
  intro p e s m args below meth c R H locs cells slots D g b cA mc ms Qm A X
  exact lv_dup_x2 X.1.1 X.1.2.1 hd (by rw [pz_cat]; exact hw) (by rw [pz_cat]; exact hu) (by rw [pz_cat]; exact ht) (kk p e s m args below meth c R H locs cells slots D g b cA mc ms Qm A X)
theorem pe_dup2 {w u : Value} (hd : decode M.2.1 pc = .ok (.dup2, 1)) (hw : w.category = 1) (hu : u.category = 1) (kk : pz_E l L xs M d fc fs (pc + 1) ls (w :: u :: w :: u :: st) h z Q) : pz_E l L xs M d fc fs pc ls (w :: u :: st) h z Q := by
  intro p e s m args below meth c R H locs cells slots D g b cA mc ms Qm A X
  exact lv_dup2_11 X.1.1 X.1.2.1 hd (by rw [pz_cat]; exact hw) (by rw [pz_cat]; exact hu) (kk p e s m args below meth c R H locs cells slots D g b cA mc ms Qm A X)
theorem pe_iload_n {k : Fin 4} {x : Int32} (hd : decode M.2.1 pc = .ok (.iload_n k, 1)) (hl : ls[(k : Nat)]? = some (some (.int x))) (kk : pz_E l L xs M d fc fs (pc + 1) ls (.int x :: st) h z Q) : pz_E l L xs M d fc fs pc ls st h z Q := by
  intro p e s m args below meth c R H locs cells slots D g b cA mc ms Qm A X
  exact lv_iload_n X.1.1 X.1.2.1 hd rfl (X.2.2.2.2.2.2.1.2.2 _ _ hl) (kk p e s m args below meth c R H locs cells slots D g b cA mc ms Qm A X)
theorem pe_iload {k : Nat} {x : Int32} (hd : decode M.2.1 pc = .ok (.iload k, 2)) (hl : ls[k]? = some (some (.int x))) (kk : pz_E l L xs M d fc fs (pc + 2) ls (.int x :: st) h z Q) : pz_E l L xs M d fc fs pc ls st h z Q := by
  intro p e s m args below meth c R H locs cells slots D g b cA mc ms Qm A X
  exact lv_iload X.1.1 X.1.2.1 hd (X.2.2.2.2.2.2.1.2.2 _ _ hl) (kk p e s m args below meth c R H locs cells slots D g b cA mc ms Qm A X)
theorem pe_lload_n {k : Fin 4} {x : Int64} (hd : decode M.2.1 pc = .ok (.lload_n k, 1)) (hl : ls[(k : Nat)]? = some (some (.long x))) (kk : pz_E l L xs M d fc fs (pc + 1) ls (.long x :: st) h z Q) : pz_E l L xs M d fc fs pc ls st h z Q := by
  intro p e s m args below meth c R H locs cells slots D g b cA mc ms Qm A X
  exact lv_lload_n X.1.1 X.1.2.1 hd rfl (X.2.2.2.2.2.2.1.2.2 _ _ hl) (kk p e s m args below meth c R H locs cells slots D g b cA mc ms Qm A X)
theorem pe_lload {k : Nat} {x : Int64} (hd : decode M.2.1 pc = .ok (.lload k, 2)) (hl : ls[k]? = some (some (.long x))) (kk : pz_E l L xs M d fc fs (pc + 2) ls (.long x :: st) h z Q) : pz_E l L xs M d fc fs pc ls st h z Q := by
  intro p e s m args below meth c R H locs cells slots D g b cA mc ms Qm A X
  exact lv_lload X.1.1 X.1.2.1 hd (X.2.2.2.2.2.2.1.2.2 _ _ hl) (kk p e s m args below meth c R H locs cells slots D g b cA mc ms Qm A X)
theorem pe_aload_n {k : Fin 4} {x : Nat} (hd : decode M.2.1 pc = .ok (.aload_n k, 1)) (hl : ls[(k : Nat)]? = some (some (.ref x))) (kk : pz_E l L xs M d fc fs (pc + 1) ls (.ref x :: st) h z Q) : pz_E l L xs M d fc fs pc ls st h z Q := by
  intro p e s m args below meth c R H locs cells slots D g b cA mc ms Qm A X
  exact lv_aload_n X.1.1 X.1.2.1 hd rfl (X.2.2.2.2.2.2.1.2.2 _ _ hl) (kk p e s m args below meth c R H locs cells slots D g b cA mc ms Qm A X)
theorem pe_aload {k : Nat} {x : Nat} (hd : decode M.2.1 pc = .ok (.aload k, 2)) (hl : ls[k]? = some (some (.ref x))) (kk : pz_E l L xs M d fc fs (pc + 2) ls (.ref x :: st) h z Q) : pz_E l L xs M d fc fs pc ls st h z Q := by
  intro p e s m args below meth c R H locs cells slots D g b cA mc ms Qm A X
  exact lv_aload X.1.1 X.1.2.1 hd (X.2.2.2.2.2.2.1.2.2 _ _ hl) (kk p e s m args below meth c R H locs cells slots D g b cA mc ms Qm A X)
theorem pe_sload_n {k : Fin 4} {x : Nat} (hd : decode M.2.1 pc = .ok (.aload_n k, 1)) (hl : ls[(k : Nat)]? = some (some (.retAddr x))) (kk : pz_E l L xs M d fc fs (pc + 1) ls (.retAddr x :: st) h z Q) : pz_E l L xs M d fc fs pc ls st h z Q := by
  intro p e s m args below meth c R H locs cells slots D g b cA mc ms Qm A X
  exact lv_aload_n X.1.1 X.1.2.1 hd rfl (X.2.2.2.2.2.2.1.2.2 _ _ hl) (kk p e s m args below meth c R H locs cells slots D g b cA mc ms Qm A X)
theorem pe_istore_n {k : Fin 4} {x : Int32} (hd : decode M.2.1 pc = .ok (.istore_n k, 1)) (hn : (k : Nat) < M.2.2.1) (hc : pz_c1 ls (k : Nat) = true) (kk : pz_E l L xs M d fc fs (pc + 1) (ls.set (k : Nat) (some (.int x))) st h z Q) : pz_E l L xs M d fc fs pc ls (.int x :: st) h z Q := by
  intro p e s m args below meth c R H locs cells slots D g b cA mc ms Qm A X
  obtain ⟨A', e', hA⟩ := pz_store1 (v := .int x) X.2.2.2.2.2.2.1 hn rfl hc
  intro T hT Y
  obtain ⟨t, a1, b1⟩ := kk p e s m args below meth c R H locs cells slots D g b cA mc ms Qm A' ⟨X.1, X.2.1, X.2.2.1, X.2.2.2.1, X.2.2.2.2.1, X.2.2.2.2.2.1, hA, X.2.2.2.2.2.2.2⟩ T hT Y
  refine ⟨t, ?_, b1⟩
  simp only [pz_v] at e'
  simp only [List.map_cons, pz_v]
  jvm_step Y.here [Y.here.top, ↓top_set Y.here.top, X.1.1, X.1.2.1, hd, e', Value.isRef]
  exact a1
theorem pe_istore {k : Nat} {x : Int32} (hd : decode M.2.1 pc = .ok (.istore k, 2)) (hn : k < M.2.2.1) (hc : pz_c1 ls k = true) (kk : pz_E l L xs M d fc fs (pc + 2) (ls.set k (some (.int x))) st h z Q) : pz_E l L xs M d fc fs pc ls (.int x :: st) h z Q := by
  intro p e s m args below meth c R H locs cells slots D g b cA mc ms Qm A X
  obtain ⟨A', e', hA⟩ := pz_store1 (v := .int x) X.2.2.2.2.2.2.1 hn rfl hc
  intro T hT Y
  obtain ⟨t, a1, b1⟩ := kk p e s m args below meth c R H locs cells slots D g b cA mc ms Qm A' ⟨X.1, X.2.1, X.2.2.1, X.2.2.2.1, X.2.2.2.2.1, X.2.2.2.2.2.1, hA, X.2.2.2.2.2.2.2⟩ T hT Y
  refine ⟨t, ?_, b1⟩
  simp only [pz_v] at e'
  simp only [List.map_cons, pz_v]
  jvm_step Y.here [Y.here.top, ↓top_set Y.here.top, X.1.1, X.1.2.1, hd, e', Value.isRef]
  exact a1
theorem pe_astore_n {k : Fin 4} {x : Nat} (hd : decode M.2.1 pc = .ok (.astore_n k, 1)) (hn : (k : Nat) < M.2.2.1) (hc : pz_c1 ls (k : Nat) = true) (kk : pz_E l L xs M d fc fs (pc + 1) (ls.set (k : Nat) (some (.ref x))) st h z Q) : pz_E l L xs M d fc fs pc ls (.ref x :: st) h z Q := by
  intro p e s m args below meth c R H locs cells slots D g b cA mc ms Qm A X
  obtain ⟨A', e', hA⟩ := pz_store1 (v := .ref x) X.2.2.2.2.2.2.1 hn rfl hc
  intro T hT Y
  obtain ⟨t, a1, b1⟩ := kk p e s m args below meth c R H locs cells slots D g b cA mc ms Qm A' ⟨X.1, X.2.1, X.2.2.1, X.2.2.2.1, X.2.2.2.2.1, X.2.2.2.2.2.1, hA, X.2.2.2.2.2.2.2⟩ T hT Y
  refine ⟨t, ?_, b1⟩
  simp only [pz_v] at e'
  simp only [List.map_cons, pz_v]
  jvm_step Y.here [Y.here.top, ↓top_set Y.here.top, X.1.1, X.1.2.1, hd, e', Value.isRef]
  exact a1
theorem pe_astore {k : Nat} {x : Nat} (hd : decode M.2.1 pc = .ok (.astore k, 2)) (hn : k < M.2.2.1) (hc : pz_c1 ls k = true) (kk : pz_E l L xs M d fc fs (pc + 2) (ls.set k (some (.ref x))) st h z Q) : pz_E l L xs M d fc fs pc ls (.ref x :: st) h z Q := by
  intro p e s m args below meth c R H locs cells slots D g b cA mc ms Qm A X
  obtain ⟨A', e', hA⟩ := pz_store1 (v := .ref x) X.2.2.2.2.2.2.1 hn rfl hc
  intro T hT Y
  obtain ⟨t, a1, b1⟩ := kk p e s m args below meth c R H locs cells slots D g b cA mc ms Qm A' ⟨X.1, X.2.1, X.2.2.1, X.2.2.2.1, X.2.2.2.2.1, X.2.2.2.2.2.1, hA, X.2.2.2.2.2.2.2⟩ T hT Y
  refine ⟨t, ?_, b1⟩
  simp only [pz_v] at e'
  simp only [List.map_cons, pz_v]
  jvm_step Y.here [Y.here.top, ↓top_set Y.here.top, X.1.1, X.1.2.1, hd, e', Value.isRef]
  exact a1
theorem pe_lstore_n {k : Fin 4} {x : Int64} (hd : decode M.2.1 pc = .ok (.lstore_n k, 1)) (hn : (k : Nat) + 1 < M.2.2.1) (hc : pz_c1 ls (k : Nat) = true) (kk : pz_E l L xs M d fc fs (pc + 1) ((ls.set (k : Nat) (some (.long x))).set ((k : Nat) + 1) none) st h z Q) : pz_E l L xs M d fc fs pc ls (.long x :: st) h z Q := by
  intro p e s m args below meth c R H locs cells slots D g b cA mc ms Qm A X
  obtain ⟨A', e', hA⟩ := pz_store2 (v := .long x) X.2.2.2.2.2.2.1 hn rfl hc
  intro T hT Y
  obtain ⟨t, a1, b1⟩ := kk p e s m args below meth c R H locs cells slots D g b cA mc ms Qm A' ⟨X.1, X.2.1, X.2.2.1, X.2.2.2.1, X.2.2.2.2.1, X.2.2.2.2.2.1, hA, X.2.2.2.2.2.2.2⟩ T hT Y
  refine ⟨t, ?_, b1⟩
  simp only [pz_v] at e'
  simp only [List.map_cons, pz_v]
  jvm_step Y.here [Y.here.top, ↓top_set Y.here.top, X.1.1, X.1.2.1, hd, e']
  exact a1
theorem pe_lstore {k : Nat} {x : Int64} (hd : decode M.2.1 pc = .ok (.lstore k, 2)) (hn : k + 1 < M.2.2.1) (hc : pz_c1 ls k = true) (kk : pz_E l L xs M d fc fs (pc + 2) ((ls.set k (some (.long x))).set (k + 1) none) st h z Q) : pz_E l L xs M d fc fs pc ls (.long x :: st) h z Q := by
  intro p e s m args below meth c R H locs cells slots D g b cA mc ms Qm A X
  obtain ⟨A', e', hA⟩ := pz_store2 (v := .long x) X.2.2.2.2.2.2.1 hn rfl hc
  intro T hT Y
  obtain ⟨t, a1, b1⟩ := kk p e s m args below meth c R H locs cells slots D g b cA mc ms Qm A' ⟨X.1, X.2.1, X.2.2.1, X.2.2.2.1, X.2.2.2.2.1, X.2.2.2.2.2.1, hA, X.2.2.2.2.2.2.2⟩ T hT Y
  refine ⟨t, ?_, b1⟩
  simp only [pz_v] at e'
  simp only [List.map_cons, pz_v]
  jvm_step Y.here [Y.here.top, ↓top_set Y.here.top, X.1.1, X.1.2.1, hd, e']
  exact a1
theorem pe_iinc {k : Nat} {n : Int} {x v : Int32} (hd : decode M.2.1 pc = .ok (.iinc k n, 3)) (hl : ls[k]? = some (some (.int x))) (hv : x + Int32.ofInt n = v) (hn : k < M.2.2.1) (hc : pz_c1 ls k = true) (kk : pz_E l L xs M d fc fs (pc + 3) (ls.set k (some (.int v))) st h z Q) : pz_E l L xs M d fc fs pc ls st h z Q := by
  intro p e s m args below meth c R H locs cells slots D g b cA mc ms Qm A X
  subst hv
  obtain ⟨A', e', hA⟩ := pz_store1 (v := .int (x + Int32.ofInt n)) X.2.2.2.2.2.2.1 hn rfl hc
  have hg : A[k]? = some (.val (.int x)) := X.2.2.2.2.2.2.1.2.2 _ _ hl
  intro T hT Y
  obtain ⟨t, a1, b1⟩ := kk p e s m args below meth c R H locs cells slots D g b cA mc ms Qm A' ⟨X.1, X.2.1, X.2.2.1, X.2.2.2.1, X.2.2.2.2.1, X.2.2.2.2.2.1, hA, X.2.2.2.2.2.2.2⟩ T hT Y
  refine ⟨t, ?_, b1⟩
  simp only [pz_v] at e'
  jvm_step Y.here [Y.here.top, ↓top_set Y.here.top, X.1.1, X.1.2.1, hd, hg, e']
  exact a1
theorem pe_if_eq {x : Int32} {off : Int} {tgt : Nat} (hd : decode M.2.1 pc = .ok (.ifCond .eq off, 3)) (ht : (pc : Int) + off = (tgt : Int)) (kt : x = 0 → pz_E l L xs M d fc fs tgt ls st h z Q) (kf : ¬ x = 0 → pz_E l L xs M d fc fs (pc + 3) ls st h z Q) : pz_E l L xs M d fc fs pc ls (.int x :: st) h z Q := by
  intro p e s m args below meth c R H locs cells slots D g b cA mc ms Qm A X
  exact lv_if_eq X.1.1 X.1.2.1 hd ht (fun q => kt q p e s m args below meth c R H locs cells slots D g b cA mc ms Qm A X) (fun q => kf q p e s m args below meth c R H locs cells slots D g b cA mc ms Qm A X)
theorem pe_icmp_eq {x y : Int32} {off : Int} {tgt : Nat} (hd : decode M.2.1 pc = .ok (.if_icmp .eq off, 3)) (ht : (pc : Int) + off = (tgt : Int)) (kt : x = y → pz_E l L xs M d fc fs tgt ls st h z Q) (kf : ¬ x = y → pz_E l L xs M d fc fs (pc + 3) ls st h z Q) : pz_E l L xs M d fc fs pc ls (.int y :: .int x :: st) h z Q := by
  intro p e s m args below meth c R H locs cells slots D g b cA mc ms Qm A X
  exact lv_icmp_eq X.1.1 X.1.2.1 hd ht (fun q => kt q p e s m args below meth c R H locs cells slots D g b cA mc ms Qm A X) (fun q => kf q p e s m args below meth c R H locs cells slots D g b cA mc ms Qm A X)
theorem pe_if_ne {x : Int32} {off : Int} {tgt : Nat} (hd : decode M.2.1 pc = .ok (.ifCond .ne off, 3)) (ht : (pc : Int) + off = (tgt : Int)) (kt : ¬ x = 0 → pz_E l L xs M d fc fs tgt ls st h z Q) (kf : x = 0 → pz_E l L xs M d fc fs (pc + 3) ls st h z Q) : pz_E l L xs M d fc fs pc ls (.int x :: st) h z Q := by
  intro p e s m args below meth c R H locs cells slots D g b cA mc ms Qm A X
  exact lv_if_ne X.1.1 X.1.2.1 hd ht (fun q => kt q p e s m args below meth c R H locs cells slots D g b cA mc ms Qm A X) (fun q => kf q p e s m args below meth c R H locs cells slots D g b cA mc ms Qm A X)
theorem pe_icmp_ne {x y : Int32} {off : Int} {tgt : Nat} (hd : decode M.2.1 pc = .ok (.if_icmp .ne off, 3)) (ht : (pc : Int) + off = (tgt : Int)) (kt : ¬ x = y → pz_E l L xs M d fc fs tgt ls st h z Q) (kf : x = y → pz_E l L xs M d fc fs (pc + 3) ls st h z Q) : pz_E l L xs M d fc fs pc ls (.int y :: .int x :: st) h z Q := by
  intro p e s m args below meth c R H locs cells slots D g b cA mc ms Qm A X
  exact lv_icmp_ne X.1.1 X.1.2.1 hd ht (fun q => kt q p e s m args below meth c R H locs cells slots D g b cA mc ms Qm A X) (fun q => kf q p e s m args below meth c R H locs cells slots D g b cA mc ms Qm A X)
theorem pe_if_lt {x : Int32} {off : Int} {tgt : Nat} (hd : decode M.2.1 pc = .ok (.ifCond .lt off, 3)) (ht : (pc : Int) + off = (tgt : Int)) (kt : x < 0 → pz_E l L xs M d fc fs tgt ls st h z Q) (kf : ¬ x < 0 → pz_E l L xs M d fc fs (pc + 3) ls st h z Q) : pz_E l L xs M d fc fs pc ls (.int x :: st) h z Q := by
  intro p e s m args below meth c R H locs cells slots D g b cA mc ms Qm A X
  exact lv_if_lt X.1.1 X.1.2.1 hd ht (fun q => kt q p e s m args below meth c R H locs cells slots D g b cA mc ms Qm A X) (fun q => kf q p e s m args below meth c R H locs cells slots D g b cA mc ms Qm A X)
theorem pe_icmp_lt {x y : Int32} {off : Int} {tgt : Nat} (hd : decode M.2.1 pc = .ok (.if_icmp .lt off, 3)) (ht : (pc : Int) + off = (tgt : Int)) (kt : x < y → pz_E l L xs M d fc fs tgt ls st h z Q) (kf : ¬ x < y → pz_E l L xs M d fc fs (pc + 3) ls st h z Q) : pz_E l L xs M d fc fs pc ls (.int y :: .int x :: st) h z Q := by
  intro p e s m args below meth c R H locs cells slots D g b cA mc ms Qm A X
  exact lv_icmp_lt X.1.1 X.1.2.1 hd ht (fun q => kt q p e s m args below meth c R H locs cells slots D g b cA mc ms Qm A X) (fun q => kf q p e s m args below meth c R H locs cells slots D g b cA mc ms Qm A X)
theorem pe_if_ge {x : Int32} {off : Int} {tgt : Nat} (hd : decode M.2.1 pc = .ok (.ifCond .ge off, 3)) (ht : (pc : Int) + off = (tgt : Int)) (kt : 0 ≤ x → pz_E l L xs M d fc fs tgt ls st h z Q) (kf : ¬ 0 ≤ x → pz_E l L xs M d fc fs (pc + 3) ls st h z Q) : pz_E l L xs M d fc fs pc ls (.int x :: st) h z Q := by
  intro p e s m args below meth c R H locs cells slots D g b cA mc ms Qm A X
  exact lv_if_ge X.1.1 X.1.2.1 hd ht (fun q => kt q p e s m args below meth c R H locs cells slots D g b cA mc ms Qm A X) (fun q => kf q p e s m args below meth c R H locs cells slots D g b cA mc ms Qm A X)
theorem pe_icmp_ge {x y : Int32} {off : Int} {tgt : Nat} (hd : decode M.2.1 pc = .ok (.if_icmp .ge off, 3)) (ht : (pc : Int) + off = (tgt : Int)) (kt : y ≤ x → pz_E l L xs M d fc fs tgt ls st h z Q) (kf : ¬ y ≤ x → pz_E l L xs M d fc fs (pc + 3) ls st h z Q) : pz_E l L xs M d fc fs pc ls (.int y :: .int x :: st) h z Q := by
  intro p e s m args below meth c R H locs cells slots D g b cA mc ms Qm A X
  exact lv_icmp_ge X.1.1 X.1.2.1 hd ht (fun q => kt q p e s m args below meth c R H locs cells slots D g b cA mc ms Qm A X) (fun q => kf q p e s m args below meth c R H locs cells slots D g b cA mc ms Qm A X)
theorem pe_if_gt {x : Int32} {off : Int} {tgt : Nat} (hd : decode M.2.1 pc = .ok (.ifCond .gt off, 3)) (ht : (pc : Int) + off = (tgt : Int)) (kt : 0 < x → pz_E l L xs M d fc fs tgt ls st h z Q) (kf : ¬ 0 < x → pz_E l L xs M d fc fs (pc + 3) ls st h z Q) : pz_E l L xs M d fc fs pc ls (.int x :: st) h z Q := by
  intro p e s m args below meth c R H locs cells slots D g b cA mc ms Qm A X
  exact lv_if_gt X.1.1 X.1.2.1 hd ht (fun q => kt q p e s m args below meth c R H locs cells slots D g b cA mc ms Qm A X) (fun q => kf q p e s m args below meth c R H locs cells slots D g b cA mc ms Qm A X)
theorem pe_icmp_gt {x y : Int32} {off : Int} {tgt : Nat} (hd : decode M.2.1 pc = .ok (.if_icmp .gt off, 3)) (ht : (pc : Int) + off = (tgt : Int)) (kt : y < x → pz_E l L xs M d fc fs tgt ls st h z Q) (kf : ¬ y < x → pz_E l L xs M d fc fs (pc + 3) ls st h z Q) : pz_E l L xs M d fc fs pc ls (.int y :: .int x :: st) h z Q := by
  intro p e s m args below meth c R H locs cells slots D g b cA mc ms Qm A X
  exact lv_icmp_gt X.1.1 X.1.2.1 hd ht (fun q => kt q p e s m args below meth c R H locs cells slots D g b cA mc ms Qm A X) (fun q => kf q p e s m args below meth c R H locs cells slots D g b cA mc ms Qm A X)
theorem pe_if_le {x : Int32} {off : Int} {tgt : Nat} (hd : decode M.2.1 pc = .ok (.ifCond .le off, 3)) (ht : (pc : Int) + off = (tgt : Int)) (kt : x ≤ 0 → pz_E l L xs M d fc fs tgt ls st h z Q) (kf : ¬ x ≤ 0 → pz_E l L xs M d fc fs (pc + 3) ls st h z Q) : pz_E l L xs M d fc fs pc ls (.int x :: st) h z Q := by
  intro p e s m args below meth c R H locs cells slots D g b cA mc ms Qm A X
  exact lv_if_le X.1.1 X.1.2.1 hd ht (fun q => kt q p e s m args below meth c R H locs cells slots D g b cA mc ms Qm A X) (fun q => kf q p e s m args below meth c R H locs cells slots D g b cA mc ms Qm A X)
theorem pe_icmp_le {x y : Int32} {off : Int} {tgt : Nat} (hd : decode M.2.1 pc = .ok (.if_icmp .le off, 3)) (ht : (pc : Int) + off = (tgt : Int)) (kt : x ≤ y → pz_E l L xs M d fc fs tgt ls st h z Q) (kf : ¬ x ≤ y → pz_E l L xs M d fc fs (pc + 3) ls st h z Q) : pz_E l L xs M d fc fs pc ls (.int y :: .int x :: st) h z Q := by
  intro p e s m args below meth c R H locs cells slots D g b cA mc ms Qm A X
  exact lv_icmp_le X.1.1 X.1.2.1 hd ht (fun q => kt q p e s m args below meth c R H locs cells slots D g b cA mc ms Qm A X) (fun q => kf q p e s m args below meth c R H locs cells slots D g b cA mc ms Qm A X)
theorem pe_tableOut {dflt lo hi : Int} {offs : Array Int} {len : Nat} {x : Int32} {tgt : Nat} (hd : decode M.2.1 pc = .ok (.tableswitch dflt lo hi offs, len)) (hx : x.toInt < lo ∨ hi < x.toInt) (ht : (pc : Int) + dflt = (tgt : Int)) (kk : pz_E l L xs M d fc fs tgt ls st h z Q) : pz_E l L xs M d fc fs pc ls (.int x :: st) h z Q := by
  intro p e s m args below meth c R H locs cells slots D g b cA mc ms Qm A X
  exact lv_tableOut X.1.1 X.1.2.1 hd hx ht (kk p e s m args below meth c R H locs cells slots D g b cA mc ms Qm A X)
theorem pe_tableIn {dflt lo hi off : Int} {offs : Array Int} {len : Nat} {x : Int32} {tgt : Nat} (hd : decode M.2.1 pc = .ok (.tableswitch dflt lo hi offs, len)) (h1 : ¬ x.toInt < lo) (h2 : ¬ hi < x.toInt) (ho : offs[(x.toInt - lo).toNat]? = some off) (ht : (pc : Int) + off = (tgt : Int)) (kk : pz_E l L xs M d fc fs tgt ls st h z Q) : pz_E l L xs M d fc fs pc ls (.int x :: st) h z Q := by
  intro p e s m args below meth c R H locs cells slots D g b cA mc ms Qm A X
  exact lv_tableIn X.1.1 X.1.2.1 hd h1 h2 ho ht (kk p e s m args below meth c R H locs cells slots D g b cA mc ms Qm A X)
theorem pe_goto {off : Int} {tgt : Nat} (hd : decode M.2.1 pc = .ok (.goto off, 3)) (ht : (pc : Int) + off = (tgt : Int)) (kk : pz_E l L xs M d fc fs tgt ls st h z Q) : pz_E l L xs M d fc fs pc ls st h z Q := by
  intro p e s m args below meth c R H locs cells slots D g b cA mc ms Qm A X
  exact lv_goto X.1.1 X.1.2.1 hd ht (kk p e s m args below meth c R H locs cells slots D g b cA mc ms Qm A X)
/-- the cell a has changed, nothing else -/
theorem pz_P.upd {D : va_G} {g b : Nat} {cA : Nat → ClassId} {h : pz_H} {z a : Nat} {H H1 : Heap} {c0 c : pz_C} (hP : pz_P D g b cA h z H) (hh : h a = some c0) (hat : va_at D px_cl (g + a, pz_e g b cA (some c)) H1) (hz : H1.size = H.size) (oq : ∀ q : Nat, q ≠ g + a → H1[q]? = H[q]?) : pz_P D g b cA (pu h a c) z H1 := by
  obtain ⟨hP, hsz, hd1, hd2⟩ := hP
  have ha := hd1 a _ hh
  refine ⟨?_, hz.trans hsz, fun k c' hk => ?_, fun k hk => ?_⟩
  · have h9 := hP.set (p := a) pz_w_D (pz_w_at ha) hat oq
    rwa [pz_w_set ha] at h9
  · by_cases e : k = a
    · rw [e]; exact ha
    · rw [pu_ne e] at hk; exact hd1 k c' hk
  · by_cases e : k = a
    · subst e; exact ⟨c, pu_eq _ _ _⟩
    · rw [pu_ne e]; exact hd2 k hk
theorem pz_P.push {D : va_G} {g b : Nat} {cA : Nat → ClassId} {h : pz_H} {z : Nat} {H H1 : Heap} {c : pz_C} (hP : pz_P D g b cA h z H) (hat : va_at D px_cl (g + z, pz_e g b cA (some c)) H1) (hz : H1.size = g + z + 1) (oq : ∀ q : Nat, q < g + z → H1[q]? = H[q]?) : pz_P D g b cA (pu h z c) (z + 1) H1 := by
  obtain ⟨hP, hsz, hd1, hd2⟩ := hP
  refine ⟨?_, hz, fun k c' hk => ?_, fun k hk => ?_⟩
  · rw [← pz_w_push]
    refine (hP.kept (fun k q hq => ?_)).app (fun k q hq => ?_)
    · obtain ⟨hk, rfl⟩ := pz_w_of hq
      exact oq _ (by show g + k < g + z; omega)
    · have hz0 : k < 1 := (List.getElem?_eq_some_iff.mp hq).1
      rw [show k = 0 by omega] at hq
      cases hq
      exact hat
  · by_cases e : k = z
    · omega
    · rw [pu_ne e] at hk; exact Nat.lt_succ_of_lt (hd1 k c' hk)
  · by_cases e : k = z
    · subst e; exact ⟨c, pu_eq _ _ _⟩
    · rw [pu_ne e]; exact hd2 k (by omega)
/-- field k of the cells of number ci, as the methods of 'own' name it at idx -/
def pz_fd (own : String) (idx ci k : Nat) : Prop := ∃ (C : String) (T : u_T) (N : Nat), px_cl[ci]? = some (C, T, N) ∧ k < N ∧ (∀ w ∈ u_ws C T N, w ∈ px_tbl) ∧ (Cond.fieldLink own idx (T k).1 (T k).2.1 (T k).2.2.1 ∈ px_tbl ∨ ∃ host, Cond.fieldLinkNest own idx (T k).1 (T k).2.1 (T k).2.2.1 host ∈ px_nw)
/-- the same, with what a write needs -/
def pz_fw (own : String) (idx ci k : Nat) (ty : FieldType) (fin : Bool) : Prop := ∃ (C : String) (T : u_T) (N : Nat) (ty0 : Nat → FieldType), px_cl[ci]? = some (C, T, N) ∧ k < N ∧ (∀ w ∈ u_ws C T N, w ∈ px_tbl) ∧ (Cond.fieldLink own idx (T k).1 (T k).2.1 (T k).2.2.1 ∈ px_tbl ∨ (fin = false ∧ ∃ host, Cond.fieldLinkNest own idx (T k).1 (T k).2.1 (T k).2.2.1 host ∈ px_nw)) ∧ (∀ k, k < N → parseFieldDescriptor (T k).2.2.1 = some (ty0 k)) ∧ (∀ a, a < N → ∀ b, b < N → a ≠ b → (T a).2.1 ≠ (T b).2.1) ∧ (T k).2.2.2 = fin ∧ parseFieldDescriptor (T k).2.2.1 = some ty ∧ (fin = true → (T k).1 = own)
def pz_fits (ty : FieldType) (v : Value) : Bool := match ty, v with
  | .int, .int _ => true
  | .boolean, .int x => x == 0 || x == 1
  | .long, .long _ => true
  | .object _, .ref _ => true
  | .array _, .ref _ => true
  | _, _ => false
theorem pz_fits_ok {g b : Nat} {ty : FieldType} {v : Value} (hf : pz_fits ty v = true) : narrow ty (pz_v g b v) = pz_v g b v ∧ fits ty (pz_v g b v) = true := by
  cases ty <;> cases v <;> first | exact ⟨rfl, rfl⟩ | (simp [pz_fits] at hf; done) | (simp only [pz_fits, Bool.or_eq_true, beq_iff_eq] at hf; rcases hf with rfl | rfl <;> exact ⟨rfl, rfl⟩)
theorem pe_getf {a idx ci k : Nat} {fs0 : List Value} {w : Value} (hd : decode M.2.1 pc = .ok (.getfield idx, 3)) (hf : pz_fd M.1.cls idx ci k) (hh : h a = some (.inr (ci, fs0))) (hw : fs0[k]? = some w) (kk : pz_E l L xs M d fc fs (pc + 3) ls (w :: st) h z Q) : pz_E l L xs M d fc fs pc ls (.ref a :: st) h z Q := by
  intro p e s m args below meth c R H locs cells slots D g b cA mc ms Qm A X
  obtain ⟨C, T, N, hc, hk, hin, hl⟩ := hf
  obtain ⟨⟨hx, hb, hml, hown, hts⟩, hnm, ⟨hR1, hR2, hR3, hR4⟩, ⟨hK, hN, hbg, hgs, hX⟩, ⟨hP, hsz, hd1, hd2⟩, hS, hlv, ⟨hc1, hc2⟩, hret⟩ := id X
  have hat := pz_w_at (g := g) (b := b) (cA := cA) (h := h) (hd1 a _ hh)
  rw [hh] at hat
  have hv : (fs0.map (pz_v g b))[k]? = some (pz_v g b w) := by rw [List.getElem?_map, hw]; rfl
  rcases hl with hl | ⟨host, hl⟩
  · exact va_get (D := D) (T := T) (N := N) hx hb hts hin hown hK hP a hat hc k hk (hts _ hl) (fun _ h9 => h9) hv hd (kk p e s m args below meth c R H locs cells slots D g b cA mc ms Qm A X)
  · exact va_getN (D := D) (T := T) (N := N) hx hb hts hin hown hK hP a hat hc k hk (va_Nw.use rfl (hN.1 _ hl).2) (fun _ h9 => h9) hv hd (kk p e s m args below meth c R H locs cells slots D g b cA mc ms Qm A X)
set_option maxHeartbeats 4000000 in
theorem pe_put {a idx ci k : Nat} {ty : FieldType} {fs0 : List Value} {w : Value} (hd : decode M.2.1 pc = .ok (.putfield idx, 3)) (hf : pz_fw M.1.cls idx ci k ty false) (hh : h a = some (.inr (ci, fs0))) (hkl : k < fs0.length) (hfit : pz_fits ty w = true) (kk : pz_E l L xs M d fc fs (pc + 3) ls st (pu h a (.inr (ci, fs0.set k w))) z Q) : pz_E l L xs M d fc fs pc ls (w :: .ref a :: st) h z Q := by
  intro p e s m args below meth c R H locs cells slots D g b cA mc ms Qm A X
  obtain ⟨C, T, N, ty0, hc, hk, hin, hl, hty, hnmd, hfin, hty1, hdecl⟩ := hf
  obtain ⟨⟨hx, hb, hml, hown, hts⟩, hnm, ⟨hR1, hR2, hR3, hR4⟩, ⟨hK, hN, hbg, hgs, hX⟩, ⟨hP, hsz, hd1, hd2⟩, hS, hlv, ⟨hc1, hc2⟩, hret⟩ := id X
  have hat := pz_w_at (g := g) (b := b) (cA := cA) (h := h) (hd1 a _ hh)
  rw [hh] at hat
  have hap := va_apart (own := M.1.cls) hts hin ty0 hty hnmd hK hc
  obtain ⟨r, h1, cell, q1, q2, q3, q4⟩ := hP a _ hat
  have hr : r = (C, T, N) := Option.some.inj (h1.symm.trans hc)
  subst hr
  obtain ⟨hS2, hfc, kC, hkC, hkind⟩ := hK.1 ci _ hc
  obtain ⟨cf, kf, fi, f, hi, hsl⟩ := hS2 k hk
  have hlay := hts _ (hin _ (u_in_lay hk))
  unfold u_lay at hlay
  rw [if_neg (by rw [hfin]; decide)] at hlay
  have hst := (u_facts hfc hkC (u_lays hts hin hk) hi).1
  have h6 := u_store hfc hkC hkind hlay hi hty1 (pz_fits_ok hfit).1 (pz_fits_ok (g := g) (b := b) hfit).2
  have fin9 : ∀ H1 : Heap, H1[g + a]? = some (cell.setSlot f.slot (pz_v g b w)) → H1.size = H.size → (∀ q, q ≠ g + a → H1[q]? = H[q]?) → W p l e R s m args below meth c H1 (locs ++ [⟨g + a, f.slot⟩]) cells slots Qm (F0 m (pc + 3) A (st.map (pz_v g b))) := by
    intro H1 e1 e2 e3
    rw [hsl] at e1
    refine kk p e s m args below meth c R H1 _ cells slots D g b cA mc ms Qm A ⟨X.1, X.2.1, X.2.2.1, X.2.2.2.1, (X.2.2.2.2.1.upd hh ⟨_, hc, t_OB.to (V := updV (vp_V (fs0.map (pz_v g b))) k (pz_v g b w)) ⟨_, e1, q2, q3, t_set q4 hap hk _⟩ (fun j _ => ?_)⟩ e2 e3), (hS.put e2 e3 (Nat.le_add_right g a)), X.2.2.2.2.2.2⟩
    rw [vp_updV_set (by rw [List.length_map]; exact hkl), List.map_set]
  rcases hl with hl | ⟨-, host, hl⟩
  · exact W.putK hx hb (f := f) ⟨hown, hts _ hl, ⟨_, _, _, hi⟩, hst⟩ (by rw [q2]; exact h6) q1 q3 (by rw [hsl]; exact k2_hasslot (q4 k hk)) rfl rfl hd fin9
  · exact va_WputK hx hb (f := f) hown (va_Nw.use rfl (hN.1 _ hl).2) hi hst (by rw [q2]; exact h6) q1 q3 (by rw [hsl]; exact k2_hasslot (q4 k hk)) rfl rfl hd fin9
set_option maxHeartbeats 4000000 in
theorem pe_putF {a idx ci k : Nat} {ty : FieldType} {fs0 : List Value} {w : Value} (hd : decode M.2.1 pc = .ok (.putfield idx, 3)) (hf : pz_fw M.1.cls idx ci k ty true) (hini : M.1.name = "<init>") (hh : h a = some (.inr (ci, fs0))) (hkl : k < fs0.length) (hfit : pz_fits ty w = true) (kk : pz_E l L xs M d fc fs (pc + 3) ls st (pu h a (.inr (ci, fs0.set k w))) z Q) : pz_E l L xs M d fc fs pc ls (w :: .ref a :: st) h z Q := by
  intro p e s m args below meth c R H locs cells slots D g b cA mc ms Qm A X
  obtain ⟨C, T, N, ty0, hc, hk, hin, hl, hty, hnmd, hfin, hty1, hdecl⟩ := hf
  obtain ⟨⟨hx, hb, hml, hown, hts⟩, hnm, ⟨hR1, hR2, hR3, hR4⟩, ⟨hK, hN, hbg, hgs, hX⟩, ⟨hP, hsz, hd1, hd2⟩, hS, hlv, ⟨hc1, hc2⟩, hret⟩ := id X
  have hat := pz_w_at (g := g) (b := b) (cA := cA) (h := h) (hd1 a _ hh)
  rw [hh] at hat
  have hap := va_apart (own := M.1.cls) hts hin ty0 hty hnmd hK hc
  obtain ⟨r, h1, cell, q1, q2, q3, q4⟩ := hP a _ hat
  have hr : r = (C, T, N) := Option.some.inj (h1.symm.trans hc)
  subst hr
  obtain ⟨hS2, hfc, kC, hkC, hkind⟩ := hK.1 ci _ hc
  obtain ⟨cf, kf, fi, f, hi, hsl⟩ := hS2 k hk
  have hlay := hts _ (hin _ (u_in_lay hk))
  unfold u_lay at hlay
  rw [if_pos hfin] at hlay
  have hst := (u_facts hfc hkC (u_lays hts hin hk) hi).1
  have hcf : m.cls = cf := by
    obtain ⟨_, _, c', _, _, _, -, -, hf', -, -, -, hown2, -⟩ := Cond.laysFinal_spec hlay
    have e1 : c' = cf := by have := hi.symm.trans hf'; simp at this; exact this.1.symm
    rw [hdecl rfl] at hown2
    rw [← e1]; exact Option.some.inj (hown.symm.trans hown2)
  have h6 := u_fits hfc hkC hkind (Or.inr hlay) hi hty1 (pz_fits_ok hfit).1 (pz_fits_ok (g := g) (b := b) hfit).2
  have hl : Cond.fieldLink M.1.cls idx (T k).1 (T k).2.1 (T k).2.2.1 ∈ px_tbl := by
    rcases hl with hl | ⟨hl, -⟩
    · exact hl
    · cases hl
  refine W.putFinK hx hb hown (hts _ hl) hi hst hcf (hnm.trans hini) (by rw [q2]; exact h6) q1 q3 (by rw [hsl]; exact k2_hasslot (q4 k hk)) rfl rfl hd fun H1 e1 e2 e3 => ?_
  rw [hsl] at e1
  refine kk p e s m args below meth c R H1 _ cells slots D g b cA mc ms Qm A ⟨X.1, X.2.1, X.2.2.1, X.2.2.2.1, (X.2.2.2.2.1.upd hh ⟨_, hc, t_OB.to (V := updV (vp_V (fs0.map (pz_v g b))) k (pz_v g b w)) ⟨_, e1, q2, q3, t_set q4 hap hk _⟩ (fun j _ => ?_)⟩ e2 e3), (hS.put e2 e3 (Nat.le_add_right g a)), X.2.2.2.2.2.2⟩
  rw [vp_updV_set (by rw [List.length_map]; exact hkl), List.map_set]
theorem pe_iald {a t n : Nat} {f : Nat → Int32} {i : Int32} (hd : decode M.2.1 pc = .ok (.iaload, 1)) (ht : px_ts[t]? = some .int) (hh : h a = some (.inl (t, n, .inl f))) (hi : vp_in i n) (kk : pz_E l L xs M d fc fs (pc + 1) ls (.int (f i.toNatClampNeg) :: st) h z Q) : pz_E l L xs M d fc fs pc ls (.int i :: .ref a :: st) h z Q := by
  intro p e s m args below meth c R H locs cells slots D g b cA mc ms Qm A X
  obtain ⟨⟨hx, hb, hml, hown, hts⟩, hnm, ⟨hR1, hR2, hR3, hR4⟩, ⟨hK, hN, hbg, hgs, hX⟩, ⟨hP, hsz, hd1, hd2⟩, hS, hlv, ⟨hc1, hc2⟩, hret⟩ := id X
  have hat := pz_w_at (g := g) (b := b) (cA := cA) (h := h) (hd1 a _ hh)
  rw [hh] at hat
  exact va_iald hx hb hK hP a t hat (pz_tys_at ht) hi hd (kk p e s m args below meth c R H locs cells slots D g b cA mc ms Qm A X)
theorem pe_zald {a t n : Nat} {f : Nat → Int32} {i : Int32} (hd : decode M.2.1 pc = .ok (.baload, 1)) (ht : px_ts[t]? = some .boolean) (hh : h a = some (.inl (t, n, .inl f))) (hi : vp_in i n) (kk : pz_E l L xs M d fc fs (pc + 1) ls (.int (f i.toNatClampNeg) :: st) h z Q) : pz_E l L xs M d fc fs pc ls (.int i :: .ref a :: st) h z Q := by
  intro p e s m args below meth c R H locs cells slots D g b cA mc ms Qm A X
  obtain ⟨⟨hx, hb, hml, hown, hts⟩, hnm, ⟨hR1, hR2, hR3, hR4⟩, ⟨hK, hN, hbg, hgs, hX⟩, ⟨hP, hsz, hd1, hd2⟩, hS, hlv, ⟨hc1, hc2⟩, hret⟩ := id X
  have hat := pz_w_at (g := g) (b := b) (cA := cA) (h := h) (hd1 a _ hh)
  rw [hh] at hat
  exact va_zald hx hb hK hP a t hat (pz_tys_at ht) hi hd (kk p e s m args below meth c R H locs cells slots D g b cA mc ms Qm A X)
theorem pe_lald {a t n : Nat} {f : Nat → Int64} {i : Int32} (hd : decode M.2.1 pc = .ok (.laload, 1)) (ht : px_ts[t]? = some .long) (hh : h a = some (.inl (t, n, .inr (.inl f)))) (hi : vp_in i n) (kk : pz_E l L xs M d fc fs (pc + 1) ls (.long (f i.toNatClampNeg) :: st) h z Q) : pz_E l L xs M d fc fs pc ls (.int i :: .ref a :: st) h z Q := by
  intro p e s m args below meth c R H locs cells slots D g b cA mc ms Qm A X
  obtain ⟨⟨hx, hb, hml, hown, hts⟩, hnm, ⟨hR1, hR2, hR3, hR4⟩, ⟨hK, hN, hbg, hgs, hX⟩, ⟨hP, hsz, hd1, hd2⟩, hS, hlv, ⟨hc1, hc2⟩, hret⟩ := id X
  have hat := pz_w_at (g := g) (b := b) (cA := cA) (h := h) (hd1 a _ hh)
  rw [hh] at hat
  exact va_lald hx hb hK hP a t hat (pz_tys_at ht) hi hd (kk p e s m args below meth c R H locs cells slots D g b cA mc ms Qm A X)
theorem pe_aald {a t n w : Nat} {C : String} {f : Nat → Option Nat} {i : Int32} (hd : decode M.2.1 pc = .ok (.aaload, 1)) (ht : px_ts[t]? = some (.object C)) (hh : h a = some (.inl (t, n, .inr (.inr (.inr (.inr f)))))) (hi : vp_in i n) (hw : f i.toNatClampNeg = some w) (kk : pz_E l L xs M d fc fs (pc + 1) ls (.ref w :: st) h z Q) : pz_E l L xs M d fc fs pc ls (.int i :: .ref a :: st) h z Q := by
  intro p e s m args below meth c R H locs cells slots D g b cA mc ms Qm A X
  obtain ⟨⟨hx, hb, hml, hown, hts⟩, hnm, ⟨hR1, hR2, hR3, hR4⟩, ⟨hK, hN, hbg, hgs, hX⟩, ⟨hP, hsz, hd1, hd2⟩, hS, hlv, ⟨hc1, hc2⟩, hret⟩ := id X
  have hat := pz_w_at (g := g) (b := b) (cA := cA) (h := h) (hd1 a _ hh)
  rw [hh] at hat
  refine va_aldq hx hb hK hP a t hat (pz_tys_at ht) hi hd ?_
  show W p l e R s m args below meth c H locs cells slots Qm (F0 m (pc + 1) A (va_rf ((f i.toNatClampNeg).map (fun k => g + k)) :: _))
  rw [hw]
  exact (kk p e s m args below meth c R H locs cells slots D g b cA mc ms Qm A X)
theorem pe_slen {x : Nat} (hd : decode M.2.1 pc = .ok (.arraylength, 1)) (kk : pz_E l L xs M d fc fs (pc + 1) ls (.int (Int32.ofNat L) :: st) h z Q) : pz_E l L xs M d fc fs pc ls (.retAddr x :: st) h z Q := by
  intro p e s m args below meth c R H locs cells slots D g b cA mc ms Qm A X
  obtain ⟨⟨hx, hb, hml, hown, hts⟩, hnm, ⟨hR1, hR2, hR3, hR4⟩, ⟨hK, hN, hbg, hgs, hX⟩, ⟨hP, hsz, hd1, hd2⟩, hS, hlv, ⟨hc1, hc2⟩, hret⟩ := id X
  exact va_slen hx hb hX (Nat.lt_of_lt_of_le hbg hgs) (Nat.not_le.mpr hbg) hS hd (kk p e s m args below meth c R H locs cells slots D g b cA mc ms Qm A X)
theorem pe_sld {x : Nat} {i : Int32} (hd : decode M.2.1 pc = .ok (.iaload, 1)) (hi : vp_in i L) (kk : pz_E l L xs M d fc fs (pc + 1) ls (.int (xs i.toNatClampNeg) :: st) h z Q) : pz_E l L xs M d fc fs pc ls (.int i :: .retAddr x :: st) h z Q := by
  intro p e s m args below meth c R H locs cells slots D g b cA mc ms Qm A X
  obtain ⟨⟨hx, hb, hml, hown, hts⟩, hnm, ⟨hR1, hR2, hR3, hR4⟩, ⟨hK, hN, hbg, hgs, hX⟩, ⟨hP, hsz, hd1, hd2⟩, hS, hlv, ⟨hc1, hc2⟩, hret⟩ := id X
  exact va_sld hx hb hX (Nat.lt_of_lt_of_le hbg hgs) (Nat.not_le.mpr hbg) hS hi hd (kk p e s m args below meth c R H locs cells slots D g b cA mc ms Qm A X)
theorem pe_alen {a t : Nat} {x : vp_A} {ty : FieldType} (hd : decode M.2.1 pc = .ok (.arraylength, 1)) (ht : px_ts[t]? = some ty) (hh : h a = some (.inl (t, x))) (kk : pz_E l L xs M d fc fs (pc + 1) ls (.int (Int32.ofNat x.1) :: st) h z Q) : pz_E l L xs M d fc fs pc ls (.ref a :: st) h z Q := by
  intro p e s m args below meth c R H locs cells slots D g b cA mc ms Qm A X
  obtain ⟨⟨hx, hb, hml, hown, hts⟩, hnm, ⟨hR1, hR2, hR3, hR4⟩, ⟨hK, hN, hbg, hgs, hX⟩, ⟨hP, hsz, hd1, hd2⟩, hS, hlv, ⟨hc1, hc2⟩, hret⟩ := id X
  have hat := pz_w_at (g := g) (b := b) (cA := cA) (h := h) (hd1 a _ hh)
  rw [hh] at hat
  exact va_alen hx hb hK hP a t hat (pz_tys_at ht) rfl hd (kk p e s m args below meth c R H locs cells slots D g b cA mc ms Qm A X)
theorem pe_iast {a t n : Nat} {f : Nat → Int32} {i : Int32} {x : Int32} (hd : decode M.2.1 pc = .ok (.iastore, 1)) (ht : px_ts[t]? = some .int) (hh : h a = some (.inl (t, n, .inl f))) (hi : vp_in i n) (kk : pz_E l L xs M d fc fs (pc + 1) ls st (pu h a (.inl (t, n, .inl (upd f i.toNatClampNeg x)))) z Q) : pz_E l L xs M d fc fs pc ls (.int x :: .int i :: .ref a :: st) h z Q := by
  intro p e s m args below meth c R H locs cells slots D g b cA mc ms Qm A X
  obtain ⟨⟨hx, hb, hml, hown, hts⟩, hnm, ⟨hR1, hR2, hR3, hR4⟩, ⟨hK, hN, hbg, hgs, hX⟩, ⟨hP, hsz, hd1, hd2⟩, hS, hlv, ⟨hc1, hc2⟩, hret⟩ := id X
  have hat := pz_w_at (g := g) (b := b) (cA := cA) (h := h) (hd1 a _ hh)
  rw [hh] at hat
  refine W.iast hx hb (hP a _ hat) ((hK.2 t _ (pz_tys_at ht)).1 n (fun j => .int (f j))) (fun q => by cases q) (by show ¬ (i < 0 ∨ (arrV _ _ _).slots.size ≤ _); rw [arrV_size]; exact hi) rfl rfl hd fun H1 e1 e2 e3 => ?_
  refine kk p e s m args below meth c R H1 _ cells slots D g b cA mc ms Qm A ⟨X.1, X.2.1, X.2.2.1, X.2.2.2.1, (X.2.2.2.2.1.upd hh ?_ e2 e3), (hS.put e2 e3 (Nat.le_add_right g a)), X.2.2.2.2.2.2⟩
  show H1[g + a]? = some (vp_cell _ _)
  rw [e1]
  show some ((vp_cell (cA t) (n, .inl f)).setSlot _ _) = some (vp_cell (cA t) (n, .inl (upd f i.toNatClampNeg x)))
  rw [vp_cell_i, vp_cell_i, arrV_store]
  congr 2
  funext q
  by_cases hq : q = i.toNatClampNeg
  · subst hq
    simp [updV, upd]
    try rfl
  · simp [updV, upd, hq]
theorem pe_zast {a t n : Nat} {f : Nat → Int32} {i : Int32} {x : Int32} (hd : decode M.2.1 pc = .ok (.bastore, 1)) (ht : px_ts[t]? = some .boolean) (hh : h a = some (.inl (t, n, .inl f))) (hi : vp_in i n) (kk : pz_E l L xs M d fc fs (pc + 1) ls st (pu h a (.inl (t, n, .inl (upd f i.toNatClampNeg (vp_nar .boolean x))))) z Q) : pz_E l L xs M d fc fs pc ls (.int x :: .int i :: .ref a :: st) h z Q := by
  intro p e s m args below meth c R H locs cells slots D g b cA mc ms Qm A X
  obtain ⟨⟨hx, hb, hml, hown, hts⟩, hnm, ⟨hR1, hR2, hR3, hR4⟩, ⟨hK, hN, hbg, hgs, hX⟩, ⟨hP, hsz, hd1, hd2⟩, hS, hlv, ⟨hc1, hc2⟩, hret⟩ := id X
  have hat := pz_w_at (g := g) (b := b) (cA := cA) (h := h) (hd1 a _ hh)
  rw [hh] at hat
  refine W.zast hx hb (hP a _ hat) ((hK.2 t _ (pz_tys_at ht)).1 n (fun j => .int (f j))) (fun q => by cases q) (by show ¬ (i < 0 ∨ (arrV _ _ _).slots.size ≤ _); rw [arrV_size]; exact hi) rfl rfl hd fun H1 e1 e2 e3 => ?_
  refine kk p e s m args below meth c R H1 _ cells slots D g b cA mc ms Qm A ⟨X.1, X.2.1, X.2.2.1, X.2.2.2.1, (X.2.2.2.2.1.upd hh ?_ e2 e3), (hS.put e2 e3 (Nat.le_add_right g a)), X.2.2.2.2.2.2⟩
  show H1[g + a]? = some (vp_cell _ _)
  rw [e1]
  show some ((vp_cell (cA t) (n, .inl f)).setSlot _ _) = some (vp_cell (cA t) (n, .inl (upd f i.toNatClampNeg (vp_nar .boolean x))))
  rw [vp_cell_i, vp_cell_i, arrV_store]
  congr 2
  funext q
  by_cases hq : q = i.toNatClampNeg
  · subst hq
    simp [updV, upd, vp_nar]
    try rfl
  · simp [updV, upd, vp_nar, hq]
theorem pe_last {a t n : Nat} {f : Nat → Int64} {i : Int32} {x : Int64} (hd : decode M.2.1 pc = .ok (.lastore, 1)) (ht : px_ts[t]? = some .long) (hh : h a = some (.inl (t, n, .inr (.inl f)))) (hi : vp_in i n) (kk : pz_E l L xs M d fc fs (pc + 1) ls st (pu h a (.inl (t, n, .inr (.inl (vp_updL f i.toNatClampNeg x))))) z Q) : pz_E l L xs M d fc fs pc ls (.long x :: .int i :: .ref a :: st) h z Q := by
  intro p e s m args below meth c R H locs cells slots D g b cA mc ms Qm A X
  obtain ⟨⟨hx, hb, hml, hown, hts⟩, hnm, ⟨hR1, hR2, hR3, hR4⟩, ⟨hK, hN, hbg, hgs, hX⟩, ⟨hP, hsz, hd1, hd2⟩, hS, hlv, ⟨hc1, hc2⟩, hret⟩ := id X
  have hat := pz_w_at (g := g) (b := b) (cA := cA) (h := h) (hd1 a _ hh)
  rw [hh] at hat
  refine W.last hx hb (hP a _ hat) ((hK.2 t _ (pz_tys_at ht)).1 n (fun j => .long (f j))) (fun q => by cases q) (by show ¬ (i < 0 ∨ (arrV _ _ _).slots.size ≤ _); rw [arrV_size]; exact hi) rfl rfl hd fun H1 e1 e2 e3 => ?_
  refine kk p e s m args below meth c R H1 _ cells slots D g b cA mc ms Qm A ⟨X.1, X.2.1, X.2.2.1, X.2.2.2.1, (X.2.2.2.2.1.upd hh ?_ e2 e3), (hS.put e2 e3 (Nat.le_add_right g a)), X.2.2.2.2.2.2⟩
  show H1[g + a]? = some (vp_cell _ _)
  rw [e1]
  show some ((vp_cell (cA t) (n, .inr (.inl f))).setSlot _ _) = some (vp_cell (cA t) (n, .inr (.inl (vp_updL f i.toNatClampNeg x))))
  rw [vp_cell_l, vp_cell_l, arrV_store]
  congr 2
  funext q
  by_cases hq : q = i.toNatClampNeg
  · subst hq
    simp [updV, vp_updL]
    try rfl
  · simp [updV, vp_updL, hq]
theorem pe_aast {a t n v ci : Nat} {f : Nat → Option Nat} {i : Int32} {r : vw_C} {vs : List Value} (hd : decode M.2.1 pc = .ok (.aastore, 1)) (ht : px_ts[t]? = some (.object r.1)) (hh : h a = some (.inl (t, n, .inr (.inr (.inr (.inr f)))))) (hv : h v = some (.inr (ci, vs))) (hc : px_cl[ci]? = some r) (hi : vp_in i n) (kk : pz_E l L xs M d fc fs (pc + 1) ls st (pu h a (.inl (t, n, .inr (.inr (.inr (.inr (va_up f i.toNatClampNeg (some v)))))))) z Q) : pz_E l L xs M d fc fs pc ls (.ref v :: .int i :: .ref a :: st) h z Q := by
  intro p e s m args below meth c R H locs cells slots D g b cA mc ms Qm A X
  obtain ⟨⟨hx, hb, hml, hown, hts⟩, hnm, ⟨hR1, hR2, hR3, hR4⟩, ⟨hK, hN, hbg, hgs, hX⟩, ⟨hP, hsz, hd1, hd2⟩, hS, hlv, ⟨hc1, hc2⟩, hret⟩ := id X
  have hat := pz_w_at (g := g) (b := b) (cA := cA) (h := h) (hd1 a _ hh)
  rw [hh] at hat
  have hav := pz_w_at (g := g) (b := b) (cA := cA) (h := h) (hd1 v _ hv)
  rw [hv] at hav
  have hlt : i.toNatClampNeg < n := Nat.not_le.mp fun q => hi (Or.inr q)
  have h0 : ¬ i < 0 := fun q => hi (Or.inl q)
  obtain ⟨r', hr', cellV, g1, g2, g3, -⟩ := hP v _ hav
  have hcls := (hK.1 ci r hc).2
  obtain ⟨kA, comp, k1, k2, k3, -⟩ := (hK.2 t _ (pz_tys_at ht)).2
  have hcomp : comp = D.1 ci := Option.some.inj (k3.symm.trans hcls.1)
  subst hcomp
  obtain ⟨kC, hkC, -⟩ := hcls.2
  refine W.aast hx hb (hP a _ hat) (fun q h => by cases h) (fun h => by cases h) k1 k2 rfl hkC ⟨h0, by show _ < (arrV _ _ _).slots.size; rw [arrV_size]; exact hlt⟩ g1 (fun q h => by rw [g3] at h; cases h) (by rw [g2]; exact hkC) (by rw [g2]; exact va_assign hcls) rfl rfl hd fun H1 e1 e2 e3 => ?_
  refine kk p e s m args below meth c R H1 _ cells slots D g b cA mc ms Qm A ⟨X.1, X.2.1, X.2.2.1, X.2.2.2.1, (X.2.2.2.2.1.upd hh ?_ e2 e3), (hS.put e2 e3 (Nat.le_add_right g a)), X.2.2.2.2.2.2⟩
  show H1[g + a]? = some (vp_cell _ _)
  rw [e1]
  show some ((vp_cell (cA t) (n, .inr (.inr (.inr (.inr (fun j => (f j).map (fun k => g + k))))))).setSlot _ _) = some (vp_cell (cA t) (n, .inr (.inr (.inr (.inr (fun j => (va_up f i.toNatClampNeg (some v) j).map (fun k => g + k)))))))
  rw [vp_cell_q, vp_cell_q, arrV_store]
  congr 2
  funext q
  by_cases hq : q = i.toNatClampNeg
  · subst hq
    simp [updV, va_up, va_rf]
  · simp [updV, va_up, hq]
/-- the number ci can be made: its words, its N fields' types -/
def pz_mk (own : String) (idx ci N : Nat) (fs0 : List Value) : Prop := ∃ (C : String) (T : u_T) (ty : Nat → FieldType), px_cl[ci]? = some (C, T, N) ∧ (∀ w ∈ u_ws C T N, w ∈ px_tbl) ∧ (∀ k, k < N → parseFieldDescriptor (T k).2.2.1 = some (ty k)) ∧ Cond.classLink own idx C ∈ px_tbl ∧ Cond.instantiable C N ∈ px_tbl ∧ Cond.initialized C ∈ px_tbl ∧ (∀ j, j < N → defaultValue (ty j) = vp_V fs0 j) ∧ ∀ g b, fs0.map (pz_v g b) = fs0
set_option maxHeartbeats 4000000 in
theorem pe_new {idx ci N : Nat} {fs0 : List Value} (hd : decode M.2.1 pc = .ok (.new idx, 3)) (hf : pz_mk M.1.cls idx ci N fs0) (kk : pz_E l L xs M d fc fs (pc + 3) ls (.ref z :: st) (pu h z (.inr (ci, fs0))) (z + 1) Q) : pz_E l L xs M d (fc + 1) (fs + N) pc ls st h z Q := by
  intro p e s m args below meth c R H locs cells slots D g b cA mc ms Qm A X
  obtain ⟨C, T, ty, hc, hin, hty, hl1, hl2, hl3, hfs, hmp⟩ := hf
  obtain ⟨⟨hx, hb, hml, hown, hts⟩, hnm, ⟨hR1, hR2, hR3, hR4⟩, ⟨hK, hN, hbg, hgs, hX⟩, ⟨hP, hsz, hd1, hd2⟩, hS, hlv, ⟨hc1, hc2⟩, hret⟩ := id X
  have hKn := hK.1 ci _ hc
  refine W.newcK hx hb hown (hts _ hl1) (hts _ hl2) (hts _ hl3) rfl hd (by omega) (by omega) hKn.2.1 hsz fun H1 kC hkC e1 z1 o1 => ?_
  refine kk p e s m args below meth c R H1 locs (cells + 1) (slots + N) D g b cA mc ms Qm A ⟨X.1, X.2.1, X.2.2.1, X.2.2.2.1, (X.2.2.2.2.1.push ⟨_, hc, ?_⟩ z1 o1), ⟨by have := hS.1; omega, fun q h1 h2 => (o1 q (by have := hS.1; omega)).trans (hS.2.1 q h1 h2), hS.2.2⟩, X.2.2.2.2.2.2.1, ⟨by omega, by omega⟩, X.2.2.2.2.2.2.2.2⟩
  rw [hmp]
  exact (u_born ty hts hin hKn hkC e1 hty).to hfs
set_option maxHeartbeats 4000000 in
theorem pe_newa {atype : ArrayType} {t N : Nat} {n : Int32} {a0 : vp_A} (hd : decode M.2.1 pc = .ok (.newarray atype, 2)) (ht : px_ts[t]? = some (newarray.typeOf atype)) (hw : Cond.arrayClass (newarray.typeOf atype) ∈ px_tbl) (hn : ¬ n < 0) (hNn : n.toNatClampNeg = N) (hbytes : N * componentBytes (newarray.typeOf atype) ≤ 536870912) (ha : ∀ (g : Nat) (cA : ClassId), vp_cell cA (pz_q g a0) = arrV cA N (fun _ => defaultValue (newarray.typeOf atype)))
    (kk : pz_E l L xs M d fc fs (pc + 2) ls (.ref z :: st) (pu h z (.inl (t, a0))) (z + 1) Q) : pz_E l L xs M d (fc + 1) (fs + N) pc ls (.int n :: st) h z Q := by
  intro p e s m args below meth c R H locs cells slots D g b cA mc ms Qm A X
  obtain ⟨⟨hx, hb, hml, hown, hts⟩, hnm, ⟨hR1, hR2, hR3, hR4⟩, ⟨hK, hN, hbg, hgs, hX⟩, ⟨hP, hsz, hd1, hd2⟩, hS, hlv, ⟨hc1, hc2⟩, hret⟩ := id X
  refine va_newaK hx hb (hts _ hw) rfl hd rfl hn hNn hbytes (by omega) (by omega) hsz fun H1 cA' e1 z1 o1 hAr hNm => ?_
  have hca : cA' = cA t := by
    have h9 := (hK.2 t _ (pz_tys_at ht)).2
    have h8 : s.vm.findClass ("[" ++ (newarray.typeOf atype).toString) = some (cA t) := by cases atype <;> exact h9
    exact Option.some.inj (hNm.symm.trans h8)
  subst hca
  refine kk p e s m args below meth c R H1 locs (cells + 1) (slots + N) D g b cA mc ms Qm A ⟨X.1, X.2.1, X.2.2.1, X.2.2.2.1, (X.2.2.2.2.1.push ?_ z1 o1), ⟨by have := hS.1; omega, fun q h1 h2 => (o1 q (by have := hS.1; omega)).trans (hS.2.1 q h1 h2), hS.2.2⟩, X.2.2.2.2.2.2.1, ⟨by omega, by omega⟩, X.2.2.2.2.2.2.2.2⟩
  show H1[g + z]? = some (vp_cell _ _)
  rw [ha]
  exact e1
set_option maxHeartbeats 4000000 in
theorem pe_newq {idx t N : Nat} {n : Int32} {C : String} (hd : decode M.2.1 pc = .ok (.anewarray idx, 3)) (ht : px_ts[t]? = some (.object C)) (hw : Cond.classLink M.1.cls idx C ∈ px_tbl) (hao : C ∈ px_ao) (hn : ¬ n < 0) (hNn : n.toNatClampNeg = N) (hbytes : N * 4 ≤ 536870912)
    (kk : pz_E l L xs M d fc fs (pc + 3) ls (.ref z :: st) (pu h z (.inl (t, N, .inr (.inr (.inr (.inr (fun _ => none))))))) (z + 1) Q) : pz_E l L xs M d (fc + 1) (fs + N) pc ls (.int n :: st) h z Q := by
  intro p e s m args below meth c R H locs cells slots D g b cA mc ms Qm A X
  obtain ⟨⟨hx, hb, hml, hown, hts⟩, hnm, ⟨hR1, hR2, hR3, hR4⟩, ⟨hK, hN, hbg, hgs, hX⟩, ⟨hP, hsz, hd1, hd2⟩, hS, hlv, ⟨hc1, hc2⟩, hret⟩ := id X
  subst hNn
  refine W.anew hx hb hown (hts _ hw) (va_AO.use (hN.2 C hao)) rfl hd rfl hn hbytes (by omega) (by omega) fun cA' kA comp f1 f2 f3 f4 => ?_
  generalize hH1 : H.push ({ cls := cA', slots := Array.replicate n.toNatClampNeg .null, vm := .none } : Cell) = H1
  have z1 : H1.size = g + z + 1 := by rw [← hH1, Array.size_push, hsz]
  have e1 : H1[g + z]? = some (arrV cA' n.toNatClampNeg (fun _ => .null)) := by rw [← hH1, ← hsz, Array.getElem?_push_size, ← arrV_new]
  have o1 : ∀ q : Nat, q < g + z → H1[q]? = H[q]? := fun q hq => by rw [← hH1, Array.getElem?_push, if_neg (by omega)]
  have hca : cA' = cA t := by
    obtain ⟨_, _, _, _, _, h8⟩ := (hK.2 t _ (pz_tys_at ht)).2
    exact Option.some.inj (f1.symm.trans h8)
  subst hca
  rw [hsz]
  refine kk p e s m args below meth c R H1 locs (cells + 1) (slots + n.toNatClampNeg) D g b cA mc ms Qm A ⟨X.1, X.2.1, X.2.2.1, X.2.2.2.1, (X.2.2.2.2.1.push ?_ z1 o1), ⟨by have := hS.1; omega, fun q h1 h2 => (o1 q (by have := hS.1; omega)).trans (hS.2.1 q h1 h2), hS.2.2⟩, X.2.2.2.2.2.2.1, ⟨by omega, by omega⟩, X.2.2.2.2.2.2.2.2⟩
  show H1[g + z]? = some (vp_cell (cA t) (n.toNatClampNeg, .inr (.inr (.inr (.inr (fun _ => (none : Option Nat).map (fun k => g + k)))))))
  rw [vp_cell_q]
  exact e1
theorem pe_objInit {a idx : Nat} (hd : decode M.2.1 pc = .ok (.invokespecial idx, 3)) (hw : Cond.methodLink M.1.cls idx Lib.objectInit ∈ px_tbl) (hw2 : Cond.instanceMethod Lib.objectInit ∈ px_tbl) (hw3 : Cond.code Lib.objectInit ⟨#[0xb1]⟩ 1 none ∈ px_tbl) (hst : (st.map Value.category).sum ≤ 8) (hdd : 1 ≤ d) (kk : pz_E l L xs M d fc fs (pc + 3) ls st h z Q) : pz_E l L xs M d fc fs pc ls (.ref a :: st) h z Q := by
  intro p e s m args below meth c R H locs cells slots D g b cA mc ms Qm A X
  obtain ⟨⟨hx, hb, hml, hown, hts⟩, hnm, ⟨hR1, hR2, hR3, hR4⟩, ⟨hK, hN, hbg, hgs, hX⟩, ⟨hP, hsz, hd1, hd2⟩, hS, hlv, ⟨hc1, hc2⟩, hret⟩ := id X
  have hrm : ((st.map (pz_v g b)).map fun v => v.category).sum ≤ 8 := by
    rw [List.map_map, show ((fun v => v.category) ∘ pz_v g b) = Value.category from funext (fun v => pz_cat g b v)]
    exact hst
  refine W.objInit hx hb hown (hts _ hw) (hts _ hw2) (hts _ hw3) rfl (by rw [hml]; exact hlv.1) rfl hd (by omega) ?_ (kk p e s m args below meth c R H locs cells slots D g b cA mc ms Qm A X)
  have h9 := lv_room (m := m) (pc := pc) (ls := A) (rest := List.map (pz_v g b) (.ref a :: st)) hrm
  have h8 : px_lc * 1 ≤ px_lc * d := Nat.mul_le_mul_left _ hdd
  have h7 : 20 ≤ px_lc := by decide
  omega
theorem pe_ldc2 {idx : Nat} {v : Int64} (hd : decode M.2.1 pc = .ok (.ldc2_w idx, 3)) (hw : Cond.constantLong M.1.cls idx v ∈ px_tbl) (kk : pz_E l L xs M d fc fs (pc + 3) ls (.long v :: st) h z Q) : pz_E l L xs M d fc fs pc ls st h z Q := by
  intro p e s m args below meth c R H locs cells slots D g b cA mc ms Qm A X
  exact lv_ldc2 X.1.1 X.1.2.1 X.1.2.2.2.1 (X.1.2.2.2.2 _ hw) hd (kk p e s m args below meth c R H locs cells slots D g b cA mc ms Qm A X)
theorem pe_ldc {idx : Nat} {v : Int32} (hd : decode M.2.1 pc = .ok (.ldc idx, 2)) (hw : Cond.constant M.1.cls idx v ∈ px_tbl) (kk : pz_E l L xs M d fc fs (pc + 2) ls (.int v :: st) h z Q) : pz_E l L xs M d fc fs pc ls st h z Q := by
  intro p e s m args below meth c R H locs cells slots D g b cA mc ms Qm A X
  exact lv_ldc X.1.1 X.1.2.1 X.1.2.2.2.1 (X.1.2.2.2.2 _ hw) hd (kk p e s m args below meth c R H locs cells slots D g b cA mc ms Qm A X)
theorem pe_ret {v : Option Value} (hr : pz_ret M pc v) (hq : Q v h z) : pz_E l L xs M d fc fs pc ls v.toList h z Q := by
  intro p e s m args below meth c R H locs cells slots D g b cA mc ms Qm A X
  obtain ⟨⟨hx, hb, hml, hown, hts⟩, hnm, ⟨hR1, hR2, hR3, hR4⟩, ⟨hK, hN, hbg, hgs, hX⟩, ⟨hP, hsz, hd1, hd2⟩, hS, hlv, ⟨hc1, hc2⟩, hret⟩ := id X
  exact hret v h z H locs cells slots pc A hr hq X.2.2.2.2.1 hS (by omega) (by omega)
theorem pe_iret {x : Int32} (hd : decode M.2.1 pc = .ok (.ireturn, 1)) (hr : M.2.2.2 = some .int) (hq : Q (some (.int x)) h z) : pz_E l L xs M d fc fs pc ls [.int x] h z Q := pe_ret (v := some (.int x)) ⟨hd, _, hr, rfl⟩ hq
theorem pe_zret {x : Int32} (hd : decode M.2.1 pc = .ok (.ireturn, 1)) (hr : M.2.2.2 = some .boolean) (hx : x &&& 1 = x) (hq : Q (some (.int x)) h z) : pz_E l L xs M d fc fs pc ls [.int x] h z Q := pe_ret (v := some (.int x)) ⟨hd, _, hr, by show Value.int (x &&& 1) = _; rw [hx]⟩ hq
theorem pe_lret {x : Int64} (hd : decode M.2.1 pc = .ok (.lreturn, 1)) (hr : M.2.2.2 = some .long) (hq : Q (some (.long x)) h z) : pz_E l L xs M d fc fs pc ls [.long x] h z Q := pe_ret (v := some (.long x)) ⟨hd, hr⟩ hq
theorem pe_aret {x : Nat} {C : String} (hd : decode M.2.1 pc = .ok (.areturn, 1)) (hr : M.2.2.2 = some (.object C)) (hq : Q (some (.ref x)) h z) : pz_E l L xs M d fc fs pc ls [.ref x] h z Q := pe_ret (v := some (.ref x)) ⟨hd, _, hr⟩ hq
theorem pe_vret (hd : decode M.2.1 pc = .ok (.return_, 1)) (hr : M.2.2.2 = none) (hq : Q none h z) : pz_E l L xs M d fc fs pc ls [] h z Q := pe_ret (v := none) ⟨hd, hr⟩ hq
/-- fewer locals are known -/
theorem pe_ls {ls' : List (Option Value)} (hl : ∀ (i : Nat) (v : Value), ls'[i]? = some (some v) → ls[i]? = some (some v)) (kk : pz_E l L xs M d fc fs pc ls' st h z Q) : pz_E l L xs M d fc fs pc ls st h z Q := by
  intro p e s m args below meth c R H locs cells slots D g b cA mc ms Qm A X
  exact kk p e s m args below meth c R H locs cells slots D g b cA mc ms Qm A ⟨X.1, X.2.1, X.2.2.1, X.2.2.2.1, X.2.2.2.2.1, X.2.2.2.2.2.1, ⟨X.2.2.2.2.2.2.1.1, X.2.2.2.2.2.2.1.2.1, fun i v hi => X.2.2.2.2.2.2.1.2.2 i v (hl i v hi)⟩, X.2.2.2.2.2.2.2⟩
/-- fewer makings -/
theorem pe_less {fc' fs' : Nat} (h1 : fc' ≤ fc) (h2 : fs' ≤ fs) (kk : pz_E l L xs M d fc' fs' pc ls st h z Q) : pz_E l L xs M d fc fs pc ls st h z Q := by
  intro p e s m args below meth c R H locs cells slots D g b cA mc ms Qm A X
  obtain ⟨x1, x2, x3, x4, x5, x6, x7, ⟨x8, x9⟩, x10⟩ := X
  exact kk p e s m args below meth c R H locs cells slots D g b cA mc ms Qm A ⟨x1, x2, x3, x4, x5, x6, x7, ⟨by omega, by omega⟩, x10⟩
end PE
/-- a contract out of a walk -/
theorem pz_K.of {l : Launch} {L : Nat} {xs : Nat → Int32} {M : pz_M} {d mc ms : Nat} {as : List Value} {h : pz_H} {z : Nat} {Q : pz_Q} (hy : plainName M.1.cls = true) (hn : (as.map Value.category).sum ≤ M.2.2.1) (kk : pz_E l L xs M d mc ms 0 (pz_in M.2.2.1 as) [] h z Q) : pz_K l L xs M d mc ms as h z Q := by
  intro D g b cA
  refine Met.ofW (cc := M.2.1) (maxL := M.2.2.1) (ret := M.2.2.2) hy rfl ?_
  intro p e s m args below meth c s₁ B hml hv
  obtain ⟨rfl, hG, hP⟩ := hv
  have hx := B.exec
  have hb := B.bytes
  have hr := B.returns
  have hts := atoms_spec (ws := pz_ws M) B.pre
  have hown : s.vm.findClass M.1.cls = some m.cls := findClass_of_methodNamed B.named
  have hlocks := B.notSynchronized
  have hin : meth.name = M.1.name := (name_of_methodNamed B.named B.method).1
  have hl := pz_entry g b as M.2.2.1 (by rw [pz_sl]; exact hn)
  rw [lg_entry_eq]
  refine kk p e s m _ below meth c (pz_rm d mc ms) s.heap [] 0 0 D g b cA mc ms _ _ ⟨⟨hx, hb, hml, hown, fun w hw => hts w (List.mem_cons_of_mem _ hw)⟩, hin, ⟨Nat.le_refl _, Nat.le_refl _, Nat.le_refl _, Nat.le_refl _⟩, hG, hP, va_S.rf, hl, ⟨by omega, by omega⟩, ?_⟩
  intro v h' z' H' locs' cells' slots' pc' A' hret hq hP' hS' hc1 hc2
  refine W.widen hc1 hc2 ?_
  have hQ : ∀ t : State, t.heap = H' → pz_Qc D g b cA Q (as.map (pz_v g b)).toArray s (.returned (v.map (pz_v g b))) t := fun t ht => ⟨v, h', z', rfl, hq, by rw [ht]; exact hP', hS'.F ht⟩
  match v, hret, hQ with
  | none, hret, hQ => exact W.vret hx hb (hr.trans hret.2) (fun t ht _ => hQ t ht) hS'.2.2 hret.1
  | some (.int x), hret, hQ =>
    obtain ⟨h1, ty, h2, h3⟩ := hret
    exact W.zret hx hb (hr.trans h2) h3 (fun t ht _ => hQ t ht) hS'.2.2 h1
  | some (.long x), hret, hQ => exact W.lret hx hb (hr.trans hret.2) (fun t ht _ => hQ t ht) hS'.2.2 hret.1
  | some (.ref x), hret, hQ =>
    obtain ⟨h1, C, h2⟩ := hret
    exact W.aret hx hb (hr.trans h2) (Or.inl ⟨C, rfl⟩) (Or.inr ⟨_, rfl⟩) (fun t ht _ => hQ t ht) hS'.2.2 h1
theorem pz_K.mono {l : Launch} {L : Nat} {xs : Nat → Int32} {M : pz_M} {d mc ms : Nat} {as : List Value} {h : pz_H} {z : Nat} {Q Q' : pz_Q} (hK : pz_K l L xs M d mc ms as h z Q) (hQ : ∀ v h' z', Q v h' z' → Q' v h' z') : pz_K l L xs M d mc ms as h z Q' := by
  intro D g b cA p e ha hc hk s m args below hf hpre hP hK'
  obtain ⟨k, o, h1, h2, h3, ⟨v, h', z', e1, e2, e3, e4⟩, h5⟩ := hK D g b cA p e ha hc hk s m args below hf hpre hP hK'
  exact ⟨k, o, h1, h2, h3, ⟨v, h', z', e1, hQ _ _ _ e2, e3, e4⟩, h5⟩
section PEC
variable {l : Launch} {L : Nat} {xs : Nat → Int32} {M : pz_M} {d fc fs pc : Nat} {ls : List (Option Value)} {st : List Value} {h : pz_H} {z : Nat} {Q : pz_Q}
theorem pz_blind {D : va_G} {g b : Nat} {cA : Nat → ClassId} {as : List Value} : FrameBlind (pz_Pc D g b cA L xs as h z) := by
  intro a U gf mk q
  obtain ⟨q1, ⟨k1, k2, k3, k4, k5⟩, q3⟩ := q
  refine ⟨q1, ⟨va_K.moved (u := U) (U := U.calling gf mk a) (Vm.Alike.refl U.vm) k1, ⟨fun w hw => ⟨(k2.1 w hw).1, ?_⟩, fun C hC => (k2.2 C hC).moved (u := U) (U := U.calling gf mk a) (Vm.Alike.refl U.vm)⟩, k3, k4, va_X.moved (u := U) (U := U.calling gf mk a) (Vm.Alike.refl U.vm) k5⟩, q3⟩
  obtain ⟨h1, h2⟩ := k2.1 w hw
  exact va_Nw.same (by cases w <;> first | rfl | exact absurd h1 (by simp [pz_nest])) (u := U) (U := U.calling gf mk a) rfl h2
theorem pz_pre {D : va_G} {g b : Nat} {cA : Nat → ClassId} {as : List Value} {s : State} {H : Heap} {locs : List Loc} (hG : pz_G D g b cA L xs s) (hP : pz_P D g b cA h z H) (hS : va_S (fun q => g ≤ q) s.heap H locs) (U : State) (hU : U.heap = H) (hW : s.WarmedH U.vm) : pz_Pc D g b cA L xs as h z (as.map (pz_v g b)).toArray U := by
  obtain ⟨hK, hN, hbg, hgs, hX⟩ := hG
  refine ⟨rfl, ⟨va_K.moved hW.alike hK, hN.moved hW, hbg, by rw [hU]; exact Nat.le_trans hgs hS.1, ?_⟩, by rw [hU]; exact hP⟩
  rw [hU]
  exact va_X.moved hW.alike (hX.kept (hS.2.1 b (Nat.lt_of_lt_of_le hbg hgs) (Nat.not_le.mpr hbg)))
theorem pz_after {p : Program} {e : Env} {R : Room} {s : State} {m : MethodId} {args : Array Value} {below : List Frame} {meth : Method} {c : Code} {H : Heap} {locs : List Loc} {cells slots mc' ms' pc : Nat} {A : Array Slot} {st0 rest : List Value} {D : va_G} {g b : Nat} {cA : Nat → ClassId} {Q' : pz_Q} {a : Array Value} {Qm : State → Prop}
    (hr : va_Run p l e R s m args below meth c H locs cells slots mc' ms' (F0 m pc A st0) rest (pz_Qc D g b cA Q' a) (fun q => g ≤ q)) (hS : va_S (fun q => g ≤ q) s.heap H locs)
    (kk : ∀ (v : Option Value) (h' : pz_H) (z' : Nat) (H1 : Heap) (locs1 : List Loc), Q' v h' z' → pz_P D g b cA h' z' H1 → va_S (fun q => g ≤ q) s.heap H1 locs1 → W p l e R s m args below meth c H1 locs1 (cells + mc') (slots + ms') Qm (F0 m (pc + 3) A ((v.map (pz_v g b)).toList ++ rest))) : W p l e R s m args below meth c H locs cells slots Qm (F0 m pc A st0) := by
  intro T hT X
  obtain ⟨v, st₀, t, T', L', h0, X', hL, e1, e2, ⟨v', h', z', hv, hq, hP, hz, hk⟩, st⟩ := hr T hT X
  cases hv
  rw [h0] at hz hk
  obtain ⟨t2, a1, b1⟩ := kk v' h' z' T'.heap (locs ++ L') hq (by rw [e1]; exact hP)
    ⟨Nat.le_trans hS.1 (by rw [e1]; exact hz), fun q h1 h2 => by rw [e1, hk q (Nat.lt_of_lt_of_le h1 hS.1) h2]; exact hS.2.1 q h1 h2, fun q hq => by
      rcases List.mem_append.mp hq with h | h
      · exact hS.2.2 q h
      · exact hL q h⟩ T' rfl X'
  exact ⟨t2, st t2 a1, b1⟩
/-- what a call of M' by the methods of 'own' rests on: n arguments beside the receiver -/
def pz_mo (own : String) (idx : Nat) (M' : pz_M) (n : Nat) : Prop := (Cond.methodLink own idx M'.1 ∈ px_tbl ∨ ∃ host, Cond.methodLinkNest own idx M'.1 host ∈ px_nw) ∧ Cond.code M'.1 M'.2.1 M'.2.2.1 M'.2.2.2 ∈ px_tbl ∧ Cond.initialized M'.1.cls ∈ px_tbl ∧ (M'.1.cls ≠ "java/lang/invoke/MethodHandle" ∧ M'.1.cls ≠ "java/lang/invoke/VarHandle") ∧ (parseMethodDescriptor M'.1.desc).map (fun d => d.parameters.length) = some n ∧ 19 + M'.2.2.1 ≤ px_lc
theorem pz_good {M' : pz_M} (h : Cond.code M'.1 M'.2.1 M'.2.2.1 M'.2.2.2 ∈ px_tbl) : GoodIn px_tbl (pz_ws M') := by
  intro w hw
  rcases List.mem_cons.mp hw with rfl | hw
  · exact px_good _ h
  · exact px_good w hw
set_option maxHeartbeats 4000000 in
theorem pe_callV {M' : pz_M} {Q' : pz_Q} {idx n d' mc' ms' : Nat} {as st0 : List Value} {a : Nat} (hd : decode M.2.1 pc = .ok (.invokevirtual idx, 3)) (hm : pz_mo M.1.cls idx M' n) (hw1 : Cond.instanceMethod M'.1 ∈ px_tbl) (hw2 : Cond.selects M'.1.cls M'.1 M'.1 ∈ px_tbl) (hM : pz_K l L xs M' d' mc' ms' (.ref a :: as) h z Q') (hn : as.length = n) (hs0 : st0 = as.reverse ++ .ref a :: st) (hst : (st.map Value.category).sum ≤ 8) (hdd : d' + 1 ≤ d) {ci : Nat} {fs0 : List Value} {r : vw_C} (hh : h a = some (.inr (ci, fs0))) (hci : px_cl[ci]? = some r) (hrn : r.1 = M'.1.cls)
    (kk : ∀ v h' z', Q' v h' z' → pz_E l L xs M d fc fs (pc + 3) ls (v.toList ++ st) h' z' Q) : pz_E l L xs M d (fc + mc') (fs + ms') pc ls st0 h z Q := by
  intro p e s m args below meth c R H locs cells slots D g b cA mc ms Qm A X
  obtain ⟨hlk, hcd, hini, hne, hpar, hlc⟩ := hm
  obtain ⟨⟨hx, hb, hml, hown, hts⟩, hnm, ⟨hR1, hR2, hR3, hR4⟩, ⟨hK, hN, hbg, hgs, hX⟩, ⟨hP, hsz, hd1, hd2⟩, hS, hlv, ⟨hc1, hc2⟩, hret⟩ := id X
  have hlo : 8 + (M'.2.2.1 + 11) + px_lc * d' ≤ R.locals := by
    have h8 : px_lc * (d' + 1) ≤ px_lc * d := Nat.mul_le_mul_left _ hdd
    rw [Nat.mul_succ] at h8
    omega
  have hrm : ((st.map (pz_v g b)).map fun v => v.category).sum ≤ 8 := by
    rw [List.map_map, show ((fun v => v.category) ∘ pz_v g b) = Value.category from funext (fun v => pz_cat g b v)]
    exact hst
  have hst' : List.map (pz_v g b) st0 = (as.map (pz_v g b)).reverse ++ .ref (g + a) :: st.map (pz_v g b) := by rw [hs0]; simp [List.map_reverse]; rfl
  rw [hst']
  have hfin : ∀ (v : Option Value) (h' : pz_H) (z' : Nat) (H1 : Heap) (locs1 : List Loc), Q' v h' z' → pz_P D g b cA h' z' H1 → va_S (fun q => g ≤ q) s.heap H1 locs1 → W p l e R s m args below meth c H1 locs1 (cells + mc') (slots + ms') Qm (F0 m (pc + 3) A ((v.map (pz_v g b)).toList ++ st.map (pz_v g b))) := by
    intro v h' z' H1 locs1 hq hP1 hS1
    have h9 := kk v h' z' hq p e s m args below meth c R H1 locs1 (cells + mc') (slots + ms') D g b cA mc ms Qm A ⟨X.1, X.2.1, X.2.2.1, X.2.2.2.1, hP1, hS1, X.2.2.2.2.2.2.1, ⟨by omega, by omega⟩, X.2.2.2.2.2.2.2.2⟩
    rw [List.map_append] at h9
    cases v <;> exact h9
  have hrc : ∃ cellB : Cell, H[g + a]? = some cellB ∧ cellB.vm.isStatics = false ∧ s.vm.findClass M'.1.cls = some cellB.cls := by
    have hat := pz_w_at (g := g) (b := b) (cA := cA) (h := h) (hd1 a _ hh)
    rw [hh] at hat
    have h9 := va_recv hK hP hci hat
    rw [hrn] at h9
    exact h9
  rcases hlk with hlk | ⟨host, hlk⟩
  · exact pz_after (va_runV (C := M'.1.cls) (As := as.map (pz_v g b)) (rest := st.map (pz_v g b)) X.1 (hM D g b cA) ⟨callB_of n hts (pz_good hcd) rfl rfl rfl (hts _ hini) (hts _ hlk) ⟨hne.1, hne.2, hpar⟩ ⟨by show d' + 1 ≤ R.frames; omega, hlo⟩, hts _ hw1, hts _ hw2⟩ ⟨pz_blind, hrc, pz_pre (as := .ref a :: as) X.2.2.2.1 X.2.2.2.2.1 hS⟩ rfl (by rw [List.length_map]; exact hn) hlv.1 rfl (lv_room hrm) hd ⟨by omega, by omega⟩) hS hfin
  · exact pz_after (va_runVN (C := M'.1.cls) (As := as.map (pz_v g b)) (rest := st.map (pz_v g b)) X.1 (hM D g b cA) ⟨va_cnB n hts (pz_good hcd) rfl rfl rfl (hN.1 _ hlk).2 (hts _ hini) ⟨hne.1, hne.2, hpar⟩ ⟨by show d' + 1 ≤ R.frames; omega, hlo⟩, hts _ hw1, hts _ hw2⟩ ⟨pz_blind, hrc, pz_pre (as := .ref a :: as) X.2.2.2.1 X.2.2.2.2.1 hS⟩ rfl (by rw [List.length_map]; exact hn) hlv.1 rfl (lv_room hrm) hd ⟨by omega, by omega⟩) hS hfin
set_option maxHeartbeats 4000000 in
theorem pe_callI {M' : pz_M} {Q' : pz_Q} {idx n d' mc' ms' : Nat} {as st0 : List Value} {a : Nat} (hd : decode M.2.1 pc = .ok (.invokespecial idx, 3)) (hm : pz_mo M.1.cls idx M' n) (hw1 : Cond.instanceMethod M'.1 ∈ px_tbl) (hw2 : M'.1.name = "<init>") (hw3 : M'.2.2.2 = none) (hM : pz_K l L xs M' d' mc' ms' (.ref a :: as) h z Q') (hn : as.length = n) (hs0 : st0 = as.reverse ++ .ref a :: st) (hst : (st.map Value.category).sum ≤ 8) (hdd : d' + 1 ≤ d) 
    (kk : ∀ v h' z', Q' v h' z' → pz_E l L xs M d fc fs (pc + 3) ls (v.toList ++ st) h' z' Q) : pz_E l L xs M d (fc + mc') (fs + ms') pc ls st0 h z Q := by
  intro p e s m args below meth c R H locs cells slots D g b cA mc ms Qm A X
  obtain ⟨hlk, hcd, hini, hne, hpar, hlc⟩ := hm
  obtain ⟨⟨hx, hb, hml, hown, hts⟩, hnm, ⟨hR1, hR2, hR3, hR4⟩, ⟨hK, hN, hbg, hgs, hX⟩, ⟨hP, hsz, hd1, hd2⟩, hS, hlv, ⟨hc1, hc2⟩, hret⟩ := id X
  have hlo : 8 + (M'.2.2.1 + 11) + px_lc * d' ≤ R.locals := by
    have h8 : px_lc * (d' + 1) ≤ px_lc * d := Nat.mul_le_mul_left _ hdd
    rw [Nat.mul_succ] at h8
    omega
  have hrm : ((st.map (pz_v g b)).map fun v => v.category).sum ≤ 8 := by
    rw [List.map_map, show ((fun v => v.category) ∘ pz_v g b) = Value.category from funext (fun v => pz_cat g b v)]
    exact hst
  have hst' : List.map (pz_v g b) st0 = (as.map (pz_v g b)).reverse ++ .ref (g + a) :: st.map (pz_v g b) := by rw [hs0]; simp [List.map_reverse]; rfl
  rw [hst']
  have hfin : ∀ (v : Option Value) (h' : pz_H) (z' : Nat) (H1 : Heap) (locs1 : List Loc), Q' v h' z' → pz_P D g b cA h' z' H1 → va_S (fun q => g ≤ q) s.heap H1 locs1 → W p l e R s m args below meth c H1 locs1 (cells + mc') (slots + ms') Qm (F0 m (pc + 3) A ((v.map (pz_v g b)).toList ++ st.map (pz_v g b))) := by
    intro v h' z' H1 locs1 hq hP1 hS1
    have h9 := kk v h' z' hq p e s m args below meth c R H1 locs1 (cells + mc') (slots + ms') D g b cA mc ms Qm A ⟨X.1, X.2.1, X.2.2.1, X.2.2.2.1, hP1, hS1, X.2.2.2.2.2.2.1, ⟨by omega, by omega⟩, X.2.2.2.2.2.2.2.2⟩
    rw [List.map_append] at h9
    cases v <;> exact h9
  rcases hlk with hlk | ⟨host, hlk⟩
  · exact pz_after (va_runI (As := as.map (pz_v g b)) (rest := st.map (pz_v g b)) X.1 (hM D g b cA) ⟨by have h9 := callB_of (own := M.1.cls) (index := idx) (args := args) (s := s) (R := R) (mc := mc') (ms := ms') n hts (pz_good hcd) rfl rfl rfl (hts _ hini) (hts _ hlk) ⟨hne.1, hne.2, hpar⟩ (rm := pz_rm d' mc' ms') ⟨by show d' + 1 ≤ R.frames; omega, hlo⟩; rw [hw3] at h9; exact h9, hw2, hts _ hw1⟩ ⟨pz_blind, pz_pre (as := .ref a :: as) X.2.2.2.1 X.2.2.2.2.1 hS⟩ rfl (by rw [List.length_map]; exact hn) hlv.1 rfl (lv_room hrm) hd ⟨by omega, by omega⟩) hS hfin
  · exact pz_after (va_runIN (As := as.map (pz_v g b)) (rest := st.map (pz_v g b)) X.1 (hM D g b cA) ⟨by have h9 := va_cnB (own := M.1.cls) (index := idx) (args := args) (s := s) (R := R) (mc := mc') (ms := ms') n hts (pz_good hcd) rfl rfl rfl (hN.1 _ hlk).2 (hts _ hini) ⟨hne.1, hne.2, hpar⟩ (rm := pz_rm d' mc' ms') ⟨by show d' + 1 ≤ R.frames; omega, hlo⟩; rw [hw3] at h9; exact h9, hw2, hts _ hw1⟩ ⟨pz_blind, pz_pre (as := .ref a :: as) X.2.2.2.1 X.2.2.2.2.1 hS⟩ rfl (by rw [List.length_map]; exact hn) hlv.1 rfl (lv_room hrm) hd ⟨by omega, by omega⟩) hS hfin
set_option maxHeartbeats 4000000 in
theorem pe_callS {M' : pz_M} {Q' : pz_Q} {idx n d' mc' ms' : Nat} {as st0 : List Value} (hd : decode M.2.1 pc = .ok (.invokestatic idx, 3)) (hm : pz_mo M.1.cls idx M' n) (hw1 : Cond.static M'.1 ∈ px_tbl) (hM : pz_K l L xs M' d' mc' ms' as h z Q') (hn : as.length = n) (hs0 : st0 = as.reverse ++ st) (hst : (st.map Value.category).sum ≤ 8) (hdd : d' + 1 ≤ d) 
    (kk : ∀ v h' z', Q' v h' z' → pz_E l L xs M d fc fs (pc + 3) ls (v.toList ++ st) h' z' Q) : pz_E l L xs M d (fc + mc') (fs + ms') pc ls st0 h z Q := by
  intro p e s m args below meth c R H locs cells slots D g b cA mc ms Qm A X
  obtain ⟨hlk, hcd, hini, hne, hpar, hlc⟩ := hm
  obtain ⟨⟨hx, hb, hml, hown, hts⟩, hnm, ⟨hR1, hR2, hR3, hR4⟩, ⟨hK, hN, hbg, hgs, hX⟩, ⟨hP, hsz, hd1, hd2⟩, hS, hlv, ⟨hc1, hc2⟩, hret⟩ := id X
  have hlo : 8 + (M'.2.2.1 + 11) + px_lc * d' ≤ R.locals := by
    have h8 : px_lc * (d' + 1) ≤ px_lc * d := Nat.mul_le_mul_left _ hdd
    rw [Nat.mul_succ] at h8
    omega
  have hrm : ((st.map (pz_v g b)).map fun v => v.category).sum ≤ 8 := by
    rw [List.map_map, show ((fun v => v.category) ∘ pz_v g b) = Value.category from funext (fun v => pz_cat g b v)]
    exact hst
  have hst' : List.map (pz_v g b) st0 = (as.map (pz_v g b)).reverse ++ st.map (pz_v g b) := by rw [hs0]; simp [List.map_reverse]
  rw [hst']
  have hfin : ∀ (v : Option Value) (h' : pz_H) (z' : Nat) (H1 : Heap) (locs1 : List Loc), Q' v h' z' → pz_P D g b cA h' z' H1 → va_S (fun q => g ≤ q) s.heap H1 locs1 → W p l e R s m args below meth c H1 locs1 (cells + mc') (slots + ms') Qm (F0 m (pc + 3) A ((v.map (pz_v g b)).toList ++ st.map (pz_v g b))) := by
    intro v h' z' H1 locs1 hq hP1 hS1
    have h9 := kk v h' z' hq p e s m args below meth c R H1 locs1 (cells + mc') (slots + ms') D g b cA mc ms Qm A ⟨X.1, X.2.1, X.2.2.1, X.2.2.2.1, hP1, hS1, X.2.2.2.2.2.2.1, ⟨by omega, by omega⟩, X.2.2.2.2.2.2.2.2⟩
    rw [List.map_append] at h9
    cases v <;> exact h9
  rcases hlk with hlk | ⟨host, hlk⟩
  · exact pz_after (va_runS (As := as.map (pz_v g b)) (rest := st.map (pz_v g b)) X.1 (hM D g b cA) ⟨callB_of n hts (pz_good hcd) rfl rfl rfl (hts _ hini) (hts _ hlk) ⟨hne.1, hne.2, hpar⟩ ⟨by show d' + 1 ≤ R.frames; omega, hlo⟩, hts _ hw1⟩ ⟨pz_blind, pz_pre X.2.2.2.1 X.2.2.2.2.1 hS⟩ rfl (by rw [List.length_map]; exact hn) hlv.1 rfl (lv_room hrm) hd ⟨by omega, by omega⟩) hS hfin
  · exact pz_after (va_runSN (As := as.map (pz_v g b)) (rest := st.map (pz_v g b)) X.1 (hM D g b cA) ⟨va_cnB n hts (pz_good hcd) rfl rfl rfl (hN.1 _ hlk).2 (hts _ hini) ⟨hne.1, hne.2, hpar⟩ ⟨by show d' + 1 ≤ R.frames; omega, hlo⟩, hts _ hw1, trivial⟩ ⟨pz_blind, pz_pre X.2.2.2.1 X.2.2.2.2.1 hS⟩ rfl (by rw [List.length_map]; exact hn) hlv.1 rfl (lv_room hrm) hd ⟨by omega, by omega⟩) hS hfin
end PEC
end
section
/-! what the instructions link -/
theorem l_Memory_9 : Cond.fieldLink "BindingKernel$Memory" 9 "BindingKernel$Memory" "size" "I" ∈ px_tbl := px_in 37 (by decide +kernel) rfl
theorem f_Memory_9 : pz_fd "BindingKernel$Memory" 9 1 0 := ⟨_, pT_1, 9, rfl, by decide, pI_1, Or.inl l_Memory_9⟩
theorem g_Memory_9 : pz_fw "BindingKernel$Memory" 9 1 0 (.int) true := ⟨_, pT_1, 9, pY_1, rfl, by decide, pI_1, Or.inl l_Memory_9, pO_1, pN_1, rfl, by decide +kernel, fun _ => rfl⟩
theorem l_Memory_15 : Cond.fieldLink "BindingKernel$Memory" 15 "BindingKernel$Memory" "words" "[I" ∈ px_tbl := px_in 39 (by decide +kernel) rfl
theorem f_Memory_15 : pz_fd "BindingKernel$Memory" 15 1 1 := ⟨_, pT_1, 9, rfl, by decide, pI_1, Or.inl l_Memory_15⟩
theorem g_Memory_15 : pz_fw "BindingKernel$Memory" 15 1 1 (.array .int) true := ⟨_, pT_1, 9, pY_1, rfl, by decide, pI_1, Or.inl l_Memory_15, pO_1, pN_1, rfl, by decide +kernel, fun _ => rfl⟩
theorem l_Memory_19 : Cond.fieldLink "BindingKernel$Memory" 19 "BindingKernel$Memory" "owners" "[I" ∈ px_tbl := px_in 40 (by decide +kernel) rfl
theorem f_Memory_19 : pz_fd "BindingKernel$Memory" 19 1 2 := ⟨_, pT_1, 9, rfl, by decide, pI_1, Or.inl l_Memory_19⟩
theorem g_Memory_19 : pz_fw "BindingKernel$Memory" 19 1 2 (.array .int) true := ⟨_, pT_1, 9, pY_1, rfl, by decide, pI_1, Or.inl l_Memory_19, pO_1, pN_1, rfl, by decide +kernel, fun _ => rfl⟩
theorem l_Memory_22 : Cond.fieldLink "BindingKernel$Memory" 22 "BindingKernel$Memory" "rights" "[I" ∈ px_tbl := px_in 41 (by decide +kernel) rfl
theorem f_Memory_22 : pz_fd "BindingKernel$Memory" 22 1 3 := ⟨_, pT_1, 9, rfl, by decide, pI_1, Or.inl l_Memory_22⟩
theorem g_Memory_22 : pz_fw "BindingKernel$Memory" 22 1 3 (.array .int) true := ⟨_, pT_1, 9, pY_1, rfl, by decide, pI_1, Or.inl l_Memory_22, pO_1, pN_1, rfl, by decide +kernel, fun _ => rfl⟩
theorem l_Memory_25 : Cond.fieldLink "BindingKernel$Memory" 25 "BindingKernel$Memory" "takings" "[I" ∈ px_tbl := px_in 42 (by decide +kernel) rfl
theorem f_Memory_25 : pz_fd "BindingKernel$Memory" 25 1 4 := ⟨_, pT_1, 9, rfl, by decide, pI_1, Or.inl l_Memory_25⟩
theorem g_Memory_25 : pz_fw "BindingKernel$Memory" 25 1 4 (.array .int) true := ⟨_, pT_1, 9, pY_1, rfl, by decide, pI_1, Or.inl l_Memory_25, pO_1, pN_1, rfl, by decide +kernel, fun _ => rfl⟩
theorem l_Memory_28 : Cond.fieldLink "BindingKernel$Memory" 28 "BindingKernel$Memory" "named" "[Z" ∈ px_tbl := px_in 43 (by decide +kernel) rfl
theorem f_Memory_28 : pz_fd "BindingKernel$Memory" 28 1 5 := ⟨_, pT_1, 9, rfl, by decide, pI_1, Or.inl l_Memory_28⟩
theorem g_Memory_28 : pz_fw "BindingKernel$Memory" 28 1 5 (.array .boolean) true := ⟨_, pT_1, 9, pY_1, rfl, by decide, pI_1, Or.inl l_Memory_28, pO_1, pN_1, rfl, by decide +kernel, fun _ => rfl⟩
theorem l_Memory_32 : Cond.fieldLink "BindingKernel$Memory" 32 "BindingKernel$Memory" "deadlines" "[I" ∈ px_tbl := px_in 44 (by decide +kernel) rfl
theorem f_Memory_32 : pz_fd "BindingKernel$Memory" 32 1 6 := ⟨_, pT_1, 9, rfl, by decide, pI_1, Or.inl l_Memory_32⟩
theorem g_Memory_32 : pz_fw "BindingKernel$Memory" 32 1 6 (.array .int) true := ⟨_, pT_1, 9, pY_1, rfl, by decide, pI_1, Or.inl l_Memory_32, pO_1, pN_1, rfl, by decide +kernel, fun _ => rfl⟩
theorem l_Memory_35 : Cond.fieldLink "BindingKernel$Memory" 35 "BindingKernel$Memory" "takingsSoFar" "I" ∈ px_tbl := px_in 45 (by decide +kernel) rfl
theorem f_Memory_35 : pz_fd "BindingKernel$Memory" 35 1 7 := ⟨_, pT_1, 9, rfl, by decide, pI_1, Or.inl l_Memory_35⟩
theorem g_Memory_35 : pz_fw "BindingKernel$Memory" 35 1 7 (.int) false := ⟨_, pT_1, 9, pY_1, rfl, by decide, pI_1, Or.inl l_Memory_35, pO_1, pN_1, rfl, by decide +kernel, fun h => by cases h⟩
theorem l_Memory_38 : Cond.fieldLink "BindingKernel$Memory" 38 "BindingKernel$Memory" "clock" "I" ∈ px_tbl := px_in 46 (by decide +kernel) rfl
theorem f_Memory_38 : pz_fd "BindingKernel$Memory" 38 1 8 := ⟨_, pT_1, 9, rfl, by decide, pI_1, Or.inl l_Memory_38⟩
theorem g_Memory_38 : pz_fw "BindingKernel$Memory" 38 1 8 (.int) false := ⟨_, pT_1, 9, pY_1, rfl, by decide, pI_1, Or.inl l_Memory_38, pO_1, pN_1, rfl, by decide +kernel, fun h => by cases h⟩
theorem l_Disk_9 : Cond.fieldLink "BindingKernel$Disk" 9 "BindingKernel$Disk" "size" "I" ∈ px_tbl := px_in 74 (by decide +kernel) rfl
theorem f_Disk_9 : pz_fd "BindingKernel$Disk" 9 2 0 := ⟨_, pT_2, 3, rfl, by decide, pI_2, Or.inl l_Disk_9⟩
theorem g_Disk_9 : pz_fw "BindingKernel$Disk" 9 2 0 (.int) true := ⟨_, pT_2, 3, pY_2, rfl, by decide, pI_2, Or.inl l_Disk_9, pO_2, pN_2, rfl, by decide +kernel, fun _ => rfl⟩
theorem l_Disk_15 : Cond.fieldLink "BindingKernel$Disk" 15 "BindingKernel$Disk" "words" "[I" ∈ px_tbl := px_in 75 (by decide +kernel) rfl
theorem f_Disk_15 : pz_fd "BindingKernel$Disk" 15 2 1 := ⟨_, pT_2, 3, rfl, by decide, pI_2, Or.inl l_Disk_15⟩
theorem g_Disk_15 : pz_fw "BindingKernel$Disk" 15 2 1 (.array .int) true := ⟨_, pT_2, 3, pY_2, rfl, by decide, pI_2, Or.inl l_Disk_15, pO_2, pN_2, rfl, by decide +kernel, fun _ => rfl⟩
theorem l_Disk_19 : Cond.fieldLink "BindingKernel$Disk" 19 "BindingKernel$Disk" "owners" "[I" ∈ px_tbl := px_in 76 (by decide +kernel) rfl
theorem f_Disk_19 : pz_fd "BindingKernel$Disk" 19 2 2 := ⟨_, pT_2, 3, rfl, by decide, pI_2, Or.inl l_Disk_19⟩
theorem g_Disk_19 : pz_fw "BindingKernel$Disk" 19 2 2 (.array .int) true := ⟨_, pT_2, 3, pY_2, rfl, by decide, pI_2, Or.inl l_Disk_19, pO_2, pN_2, rfl, by decide +kernel, fun _ => rfl⟩
theorem l_FilterOrder_9 : Cond.fieldLink "BindingKernel$FilterOrder" 9 "BindingKernel$FilterOrder" "appsInOrder" "[I" ∈ px_tbl := px_in 90 (by decide +kernel) rfl
theorem f_FilterOrder_9 : pz_fd "BindingKernel$FilterOrder" 9 3 0 := ⟨_, pT_3, 2, rfl, by decide, pI_3, Or.inl l_FilterOrder_9⟩
theorem g_FilterOrder_9 : pz_fw "BindingKernel$FilterOrder" 9 3 0 (.array .int) true := ⟨_, pT_3, 2, pY_3, rfl, by decide, pI_3, Or.inl l_FilterOrder_9, pO_3, pN_3, rfl, by decide +kernel, fun _ => rfl⟩
theorem l_FilterOrder_15 : Cond.fieldLink "BindingKernel$FilterOrder" 15 "BindingKernel$FilterOrder" "length" "I" ∈ px_tbl := px_in 91 (by decide +kernel) rfl
theorem f_FilterOrder_15 : pz_fd "BindingKernel$FilterOrder" 15 3 1 := ⟨_, pT_3, 2, rfl, by decide, pI_3, Or.inl l_FilterOrder_15⟩
theorem g_FilterOrder_15 : pz_fw "BindingKernel$FilterOrder" 15 3 1 (.int) false := ⟨_, pT_3, 2, pY_3, rfl, by decide, pI_3, Or.inl l_FilterOrder_15, pO_3, pN_3, rfl, by decide +kernel, fun h => by cases h⟩
theorem l_Frame_9 : Cond.fieldLink "BindingKernel$Frame" 9 "BindingKernel$Frame" "bytes" "[I" ∈ px_tbl := px_in 104 (by decide +kernel) rfl
theorem f_Frame_9 : pz_fd "BindingKernel$Frame" 9 4 0 := ⟨_, pT_4, 2, rfl, by decide, pI_4, Or.inl l_Frame_9⟩
theorem g_Frame_9 : pz_fw "BindingKernel$Frame" 9 4 0 (.array .int) true := ⟨_, pT_4, 2, pY_4, rfl, by decide, pI_4, Or.inl l_Frame_9, pO_4, pN_4, rfl, by decide +kernel, fun _ => rfl⟩
theorem l_Frame_13 : Cond.fieldLink "BindingKernel$Frame" 13 "BindingKernel$Frame" "length" "I" ∈ px_tbl := px_in 105 (by decide +kernel) rfl
theorem f_Frame_13 : pz_fd "BindingKernel$Frame" 13 4 1 := ⟨_, pT_4, 2, rfl, by decide, pI_4, Or.inl l_Frame_13⟩
theorem g_Frame_13 : pz_fw "BindingKernel$Frame" 13 4 1 (.int) false := ⟨_, pT_4, 2, pY_4, rfl, by decide, pI_4, Or.inl l_Frame_13, pO_4, pN_4, rfl, by decide +kernel, fun h => by cases h⟩
theorem l_PageList_9 : Cond.fieldLink "BindingKernel$PageList" 9 "BindingKernel$PageList" "pages" "[I" ∈ px_tbl := px_in 126 (by decide +kernel) rfl
theorem f_PageList_9 : pz_fd "BindingKernel$PageList" 9 6 0 := ⟨_, pT_6, 3, rfl, by decide, pI_6, Or.inl l_PageList_9⟩
theorem g_PageList_9 : pz_fw "BindingKernel$PageList" 9 6 0 (.array .int) true := ⟨_, pT_6, 3, pY_6, rfl, by decide, pI_6, Or.inl l_PageList_9, pO_6, pN_6, rfl, by decide +kernel, fun _ => rfl⟩
theorem l_PageList_13 : Cond.fieldLink "BindingKernel$PageList" 13 "BindingKernel$PageList" "length" "I" ∈ px_tbl := px_in 127 (by decide +kernel) rfl
theorem f_PageList_13 : pz_fd "BindingKernel$PageList" 13 6 1 := ⟨_, pT_6, 3, rfl, by decide, pI_6, Or.inl l_PageList_13⟩
theorem g_PageList_13 : pz_fw "BindingKernel$PageList" 13 6 1 (.int) false := ⟨_, pT_6, 3, pY_6, rfl, by decide, pI_6, Or.inl l_PageList_13, pO_6, pN_6, rfl, by decide +kernel, fun h => by cases h⟩
theorem l_PageList_17 : Cond.fieldLink "BindingKernel$PageList" 17 "BindingKernel$PageList" "end" "I" ∈ px_tbl := px_in 128 (by decide +kernel) rfl
theorem f_PageList_17 : pz_fd "BindingKernel$PageList" 17 6 2 := ⟨_, pT_6, 3, rfl, by decide, pI_6, Or.inl l_PageList_17⟩
theorem g_PageList_17 : pz_fw "BindingKernel$PageList" 17 6 2 (.int) false := ⟨_, pT_6, 3, pY_6, rfl, by decide, pI_6, Or.inl l_PageList_17, pO_6, pN_6, rfl, by decide +kernel, fun h => by cases h⟩
theorem l_FrameQueue_11 : Cond.fieldLink "BindingKernel$FrameQueue" 11 "BindingKernel$FrameQueue" "frames" "[LBindingKernel$Frame;" ∈ px_tbl := px_in 145 (by decide +kernel) rfl
theorem f_FrameQueue_11 : pz_fd "BindingKernel$FrameQueue" 11 7 0 := ⟨_, pT_7, 3, rfl, by decide, pI_7, Or.inl l_FrameQueue_11⟩
theorem g_FrameQueue_11 : pz_fw "BindingKernel$FrameQueue" 11 7 0 (.array (.object "BindingKernel$Frame")) true := ⟨_, pT_7, 3, pY_7, rfl, by decide, pI_7, Or.inl l_FrameQueue_11, pO_7, pN_7, rfl, by decide +kernel, fun _ => rfl⟩
theorem l_FrameQueue_15 : Cond.fieldLink "BindingKernel$FrameQueue" 15 "BindingKernel$FrameQueue" "first" "I" ∈ px_tbl := px_in 146 (by decide +kernel) rfl
theorem f_FrameQueue_15 : pz_fd "BindingKernel$FrameQueue" 15 7 1 := ⟨_, pT_7, 3, rfl, by decide, pI_7, Or.inl l_FrameQueue_15⟩
theorem g_FrameQueue_15 : pz_fw "BindingKernel$FrameQueue" 15 7 1 (.int) false := ⟨_, pT_7, 3, pY_7, rfl, by decide, pI_7, Or.inl l_FrameQueue_15, pO_7, pN_7, rfl, by decide +kernel, fun h => by cases h⟩
theorem l_FrameQueue_19 : Cond.fieldLink "BindingKernel$FrameQueue" 19 "BindingKernel$FrameQueue" "length" "I" ∈ px_tbl := px_in 147 (by decide +kernel) rfl
theorem f_FrameQueue_19 : pz_fd "BindingKernel$FrameQueue" 19 7 2 := ⟨_, pT_7, 3, rfl, by decide, pI_7, Or.inl l_FrameQueue_19⟩
theorem g_FrameQueue_19 : pz_fw "BindingKernel$FrameQueue" 19 7 2 (.int) false := ⟨_, pT_7, 3, pY_7, rfl, by decide, pI_7, Or.inl l_FrameQueue_19, pO_7, pN_7, rfl, by decide +kernel, fun h => by cases h⟩
theorem l_EntryTable_11 : Cond.fieldLink "BindingKernel$EntryTable" 11 "BindingKernel$EntryTable" "dataBlocks" "[I" ∈ px_tbl := px_in 162 (by decide +kernel) rfl
theorem f_EntryTable_11 : pz_fd "BindingKernel$EntryTable" 11 8 0 := ⟨_, pT_8, 2, rfl, by decide, pI_8, Or.inl l_EntryTable_11⟩
theorem g_EntryTable_11 : pz_fw "BindingKernel$EntryTable" 11 8 0 (.array .int) true := ⟨_, pT_8, 2, pY_8, rfl, by decide, pI_8, Or.inl l_EntryTable_11, pO_8, pN_8, rfl, by decide +kernel, fun _ => rfl⟩
theorem l_EntryTable_15 : Cond.fieldLink "BindingKernel$EntryTable" 15 "BindingKernel$EntryTable" "length" "I" ∈ px_tbl := px_in 163 (by decide +kernel) rfl
theorem f_EntryTable_15 : pz_fd "BindingKernel$EntryTable" 15 8 1 := ⟨_, pT_8, 2, rfl, by decide, pI_8, Or.inl l_EntryTable_15⟩
theorem g_EntryTable_15 : pz_fw "BindingKernel$EntryTable" 15 8 1 (.int) false := ⟨_, pT_8, 2, pY_8, rfl, by decide, pI_8, Or.inl l_EntryTable_15, pO_8, pN_8, rfl, by decide +kernel, fun h => by cases h⟩
theorem l_Program_9 : Cond.fieldLink "BindingKernel$Program" 9 "BindingKernel$Program" "codes" "[I" ∈ px_tbl := px_in 176 (by decide +kernel) rfl
theorem f_Program_9 : pz_fd "BindingKernel$Program" 9 9 0 := ⟨_, pT_9, 5, rfl, by decide, pI_9, Or.inl l_Program_9⟩
theorem g_Program_9 : pz_fw "BindingKernel$Program" 9 9 0 (.array .int) true := ⟨_, pT_9, 5, pY_9, rfl, by decide, pI_9, Or.inl l_Program_9, pO_9, pN_9, rfl, by decide +kernel, fun _ => rfl⟩
theorem l_Program_13 : Cond.fieldLink "BindingKernel$Program" 13 "BindingKernel$Program" "operands" "[I" ∈ px_tbl := px_in 177 (by decide +kernel) rfl
theorem f_Program_13 : pz_fd "BindingKernel$Program" 13 9 1 := ⟨_, pT_9, 5, rfl, by decide, pI_9, Or.inl l_Program_13⟩
theorem g_Program_13 : pz_fw "BindingKernel$Program" 13 9 1 (.array .int) true := ⟨_, pT_9, 5, pY_9, rfl, by decide, pI_9, Or.inl l_Program_13, pO_9, pN_9, rfl, by decide +kernel, fun _ => rfl⟩
theorem l_Program_16 : Cond.fieldLink "BindingKernel$Program" 16 "BindingKernel$Program" "yeses" "[I" ∈ px_tbl := px_in 178 (by decide +kernel) rfl
theorem f_Program_16 : pz_fd "BindingKernel$Program" 16 9 2 := ⟨_, pT_9, 5, rfl, by decide, pI_9, Or.inl l_Program_16⟩
theorem g_Program_16 : pz_fw "BindingKernel$Program" 16 9 2 (.array .int) true := ⟨_, pT_9, 5, pY_9, rfl, by decide, pI_9, Or.inl l_Program_16, pO_9, pN_9, rfl, by decide +kernel, fun _ => rfl⟩
theorem l_Program_19 : Cond.fieldLink "BindingKernel$Program" 19 "BindingKernel$Program" "noes" "[I" ∈ px_tbl := px_in 179 (by decide +kernel) rfl
theorem f_Program_19 : pz_fd "BindingKernel$Program" 19 9 3 := ⟨_, pT_9, 5, rfl, by decide, pI_9, Or.inl l_Program_19⟩
theorem g_Program_19 : pz_fw "BindingKernel$Program" 19 9 3 (.array .int) true := ⟨_, pT_9, 5, pY_9, rfl, by decide, pI_9, Or.inl l_Program_19, pO_9, pN_9, rfl, by decide +kernel, fun _ => rfl⟩
theorem l_Program_22 : Cond.fieldLink "BindingKernel$Program" 22 "BindingKernel$Program" "length" "I" ∈ px_tbl := px_in 180 (by decide +kernel) rfl
theorem f_Program_22 : pz_fd "BindingKernel$Program" 22 9 4 := ⟨_, pT_9, 5, rfl, by decide, pI_9, Or.inl l_Program_22⟩
theorem g_Program_22 : pz_fw "BindingKernel$Program" 22 9 4 (.int) false := ⟨_, pT_9, 5, pY_9, rfl, by decide, pI_9, Or.inl l_Program_22, pO_9, pN_9, rfl, by decide +kernel, fun h => by cases h⟩
theorem l_Application_10 : Cond.fieldLink "BindingKernel$Application" 10 "BindingKernel$Application" "pagesTakenAway" "LBindingKernel$PageList;" ∈ px_tbl := px_in 193 (by decide +kernel) rfl
theorem f_Application_10 : pz_fd "BindingKernel$Application" 10 5 0 := ⟨_, pT_5, 9, rfl, by decide, pI_5, Or.inl l_Application_10⟩
theorem g_Application_10 : pz_fw "BindingKernel$Application" 10 5 0 (.object "BindingKernel$PageList") true := ⟨_, pT_5, 9, pY_5, rfl, by decide, pI_5, Or.inl l_Application_10, pO_5, pN_5, rfl, by decide +kernel, fun _ => rfl⟩
theorem l_Application_19 : Cond.fieldLink "BindingKernel$Application" 19 "BindingKernel$Application" "frames" "LBindingKernel$FrameQueue;" ∈ px_tbl := px_in 195 (by decide +kernel) rfl
theorem f_Application_19 : pz_fd "BindingKernel$Application" 19 5 1 := ⟨_, pT_5, 9, rfl, by decide, pI_5, Or.inl l_Application_19⟩
theorem g_Application_19 : pz_fw "BindingKernel$Application" 19 5 1 (.object "BindingKernel$FrameQueue") true := ⟨_, pT_5, 9, pY_5, rfl, by decide, pI_5, Or.inl l_Application_19, pO_5, pN_5, rfl, by decide +kernel, fun _ => rfl⟩
theorem l_Application_26 : Cond.fieldLink "BindingKernel$Application" 26 "BindingKernel$Application" "table" "LBindingKernel$EntryTable;" ∈ px_tbl := px_in 197 (by decide +kernel) rfl
theorem f_Application_26 : pz_fd "BindingKernel$Application" 26 5 2 := ⟨_, pT_5, 9, rfl, by decide, pI_5, Or.inl l_Application_26⟩
theorem g_Application_26 : pz_fw "BindingKernel$Application" 26 5 2 (.object "BindingKernel$EntryTable") true := ⟨_, pT_5, 9, pY_5, rfl, by decide, pI_5, Or.inl l_Application_26, pO_5, pN_5, rfl, by decide +kernel, fun _ => rfl⟩
theorem l_Application_33 : Cond.fieldLink "BindingKernel$Application" 33 "BindingKernel$Application" "draft" "LBindingKernel$Program;" ∈ px_tbl := px_in 199 (by decide +kernel) rfl
theorem f_Application_33 : pz_fd "BindingKernel$Application" 33 5 3 := ⟨_, pT_5, 9, rfl, by decide, pI_5, Or.inl l_Application_33⟩
theorem g_Application_33 : pz_fw "BindingKernel$Application" 33 5 3 (.object "BindingKernel$Program") false := ⟨_, pT_5, 9, pY_5, rfl, by decide, pI_5, Or.inl l_Application_33, pO_5, pN_5, rfl, by decide +kernel, fun h => by cases h⟩
theorem l_Application_37 : Cond.fieldLink "BindingKernel$Application" 37 "BindingKernel$Application" "filter" "LBindingKernel$Program;" ∈ px_tbl := px_in 201 (by decide +kernel) rfl
theorem f_Application_37 : pz_fd "BindingKernel$Application" 37 5 4 := ⟨_, pT_5, 9, rfl, by decide, pI_5, Or.inl l_Application_37⟩
theorem g_Application_37 : pz_fw "BindingKernel$Application" 37 5 4 (.object "BindingKernel$Program") false := ⟨_, pT_5, 9, pY_5, rfl, by decide, pI_5, Or.inl l_Application_37, pO_5, pN_5, rfl, by decide +kernel, fun h => by cases h⟩
theorem l_Application_40 : Cond.fieldLink "BindingKernel$Application" 40 "BindingKernel$Application" "isOpen" "Z" ∈ px_tbl := px_in 203 (by decide +kernel) rfl
theorem f_Application_40 : pz_fd "BindingKernel$Application" 40 5 5 := ⟨_, pT_5, 9, rfl, by decide, pI_5, Or.inl l_Application_40⟩
theorem g_Application_40 : pz_fw "BindingKernel$Application" 40 5 5 (.boolean) false := ⟨_, pT_5, 9, pY_5, rfl, by decide, pI_5, Or.inl l_Application_40, pO_5, pN_5, rfl, by decide +kernel, fun h => by cases h⟩
theorem l_Application_44 : Cond.fieldLink "BindingKernel$Application" 44 "BindingKernel$Application" "isMap" "Z" ∈ px_tbl := px_in 205 (by decide +kernel) rfl
theorem f_Application_44 : pz_fd "BindingKernel$Application" 44 5 6 := ⟨_, pT_5, 9, rfl, by decide, pI_5, Or.inl l_Application_44⟩
theorem g_Application_44 : pz_fw "BindingKernel$Application" 44 5 6 (.boolean) false := ⟨_, pT_5, 9, pY_5, rfl, by decide, pI_5, Or.inl l_Application_44, pO_5, pN_5, rfl, by decide +kernel, fun h => by cases h⟩
theorem l_Application_47 : Cond.fieldLink "BindingKernel$Application" 47 "BindingKernel$Application" "firstLink" "I" ∈ px_tbl := px_in 207 (by decide +kernel) rfl
theorem f_Application_47 : pz_fd "BindingKernel$Application" 47 5 7 := ⟨_, pT_5, 9, rfl, by decide, pI_5, Or.inl l_Application_47⟩
theorem g_Application_47 : pz_fw "BindingKernel$Application" 47 5 7 (.int) false := ⟨_, pT_5, 9, pY_5, rfl, by decide, pI_5, Or.inl l_Application_47, pO_5, pN_5, rfl, by decide +kernel, fun h => by cases h⟩
theorem l_Application_51 : Cond.fieldLink "BindingKernel$Application" 51 "BindingKernel$Application" "links" "I" ∈ px_tbl := px_in 209 (by decide +kernel) rfl
theorem f_Application_51 : pz_fd "BindingKernel$Application" 51 5 8 := ⟨_, pT_5, 9, rfl, by decide, pI_5, Or.inl l_Application_51⟩
theorem g_Application_51 : pz_fw "BindingKernel$Application" 51 5 8 (.int) false := ⟨_, pT_5, 9, pY_5, rfl, by decide, pI_5, Or.inl l_Application_51, pO_5, pN_5, rfl, by decide +kernel, fun h => by cases h⟩
theorem l_K_49 : Cond.fieldLink "BindingKernel" 49 "BindingKernel" "apps" "[LBindingKernel$Application;" ∈ px_tbl := px_in 230 (by decide +kernel) rfl
theorem f_K_49 : pz_fd "BindingKernel" 49 0 0 := ⟨_, pT_0, 6, rfl, by decide, pI_0, Or.inl l_K_49⟩
theorem g_K_49 : pz_fw "BindingKernel" 49 0 0 (.array (.object "BindingKernel$Application")) true := ⟨_, pT_0, 6, pY_0, rfl, by decide, pI_0, Or.inl l_K_49, pO_0, pN_0, rfl, by decide +kernel, fun _ => rfl⟩
theorem l_K_18 : Cond.fieldLink "BindingKernel" 18 "BindingKernel" "memory" "LBindingKernel$Memory;" ∈ px_tbl := px_in 231 (by decide +kernel) rfl
theorem f_K_18 : pz_fd "BindingKernel" 18 0 1 := ⟨_, pT_0, 6, rfl, by decide, pI_0, Or.inl l_K_18⟩
theorem g_K_18 : pz_fw "BindingKernel" 18 0 1 (.object "BindingKernel$Memory") true := ⟨_, pT_0, 6, pY_0, rfl, by decide, pI_0, Or.inl l_K_18, pO_0, pN_0, rfl, by decide +kernel, fun _ => rfl⟩
theorem l_K_32 : Cond.fieldLink "BindingKernel" 32 "BindingKernel" "filterOrder" "LBindingKernel$FilterOrder;" ∈ px_tbl := px_in 232 (by decide +kernel) rfl
theorem f_K_32 : pz_fd "BindingKernel" 32 0 2 := ⟨_, pT_0, 6, rfl, by decide, pI_0, Or.inl l_K_32⟩
theorem g_K_32 : pz_fw "BindingKernel" 32 0 2 (.object "BindingKernel$FilterOrder") true := ⟨_, pT_0, 6, pY_0, rfl, by decide, pI_0, Or.inl l_K_32, pO_0, pN_0, rfl, by decide +kernel, fun _ => rfl⟩
theorem l_K_39 : Cond.fieldLink "BindingKernel" 39 "BindingKernel" "arriving" "LBindingKernel$Frame;" ∈ px_tbl := px_in 233 (by decide +kernel) rfl
theorem f_K_39 : pz_fd "BindingKernel" 39 0 3 := ⟨_, pT_0, 6, rfl, by decide, pI_0, Or.inl l_K_39⟩
theorem g_K_39 : pz_fw "BindingKernel" 39 0 3 (.object "BindingKernel$Frame") true := ⟨_, pT_0, 6, pY_0, rfl, by decide, pI_0, Or.inl l_K_39, pO_0, pN_0, rfl, by decide +kernel, fun _ => rfl⟩
theorem l_K_25 : Cond.fieldLink "BindingKernel" 25 "BindingKernel" "disk" "LBindingKernel$Disk;" ∈ px_tbl := px_in 234 (by decide +kernel) rfl
theorem f_K_25 : pz_fd "BindingKernel" 25 0 4 := ⟨_, pT_0, 6, rfl, by decide, pI_0, Or.inl l_K_25⟩
theorem g_K_25 : pz_fw "BindingKernel" 25 0 4 (.object "BindingKernel$Disk") true := ⟨_, pT_0, 6, pY_0, rfl, by decide, pI_0, Or.inl l_K_25, pO_0, pN_0, rfl, by decide +kernel, fun _ => rfl⟩
theorem l_K_43 : Cond.fieldLink "BindingKernel" 43 "BindingKernel" "framesLost" "I" ∈ px_tbl := px_in 235 (by decide +kernel) rfl
theorem f_K_43 : pz_fd "BindingKernel" 43 0 5 := ⟨_, pT_0, 6, rfl, by decide, pI_0, Or.inl l_K_43⟩
theorem g_K_43 : pz_fw "BindingKernel" 43 0 5 (.int) false := ⟨_, pT_0, 6, pY_0, rfl, by decide, pI_0, Or.inl l_K_43, pO_0, pN_0, rfl, by decide +kernel, fun h => by cases h⟩
theorem l_Mo_105 : Cond.fieldLink "BindingKernelModel" 105 "BindingKernelModel" "pages" "I" ∈ px_tbl := px_in 673 (by decide +kernel) rfl
theorem f_Mo_105 : pz_fd "BindingKernelModel" 105 10 0 := ⟨_, pT_10, 33, rfl, by decide, pI_10, Or.inl l_Mo_105⟩
theorem g_Mo_105 : pz_fw "BindingKernelModel" 105 10 0 (.int) true := ⟨_, pT_10, 33, pY_10, rfl, by decide, pI_10, Or.inl l_Mo_105, pO_10, pN_10, rfl, by decide +kernel, fun _ => rfl⟩
theorem l_Mo_108 : Cond.fieldLink "BindingKernelModel" 108 "BindingKernelModel" "blocks" "I" ∈ px_tbl := px_in 674 (by decide +kernel) rfl
theorem f_Mo_108 : pz_fd "BindingKernelModel" 108 10 1 := ⟨_, pT_10, 33, rfl, by decide, pI_10, Or.inl l_Mo_108⟩
theorem g_Mo_108 : pz_fw "BindingKernelModel" 108 10 1 (.int) true := ⟨_, pT_10, 33, pY_10, rfl, by decide, pI_10, Or.inl l_Mo_108, pO_10, pN_10, rfl, by decide +kernel, fun _ => rfl⟩
theorem l_Mo_7 : Cond.fieldLink "BindingKernelModel" 7 "BindingKernelModel" "open" "[Z" ∈ px_tbl := px_in 675 (by decide +kernel) rfl
theorem f_Mo_7 : pz_fd "BindingKernelModel" 7 10 2 := ⟨_, pT_10, 33, rfl, by decide, pI_10, Or.inl l_Mo_7⟩
theorem g_Mo_7 : pz_fw "BindingKernelModel" 7 10 2 (.array .boolean) true := ⟨_, pT_10, 33, pY_10, rfl, by decide, pI_10, Or.inl l_Mo_7, pO_10, pN_10, rfl, by decide +kernel, fun _ => rfl⟩
theorem l_Mo_13 : Cond.fieldLink "BindingKernelModel" 13 "BindingKernelModel" "isMap" "[Z" ∈ px_tbl := px_in 676 (by decide +kernel) rfl
theorem f_Mo_13 : pz_fd "BindingKernelModel" 13 10 3 := ⟨_, pT_10, 33, rfl, by decide, pI_10, Or.inl l_Mo_13⟩
theorem g_Mo_13 : pz_fw "BindingKernelModel" 13 10 3 (.array .boolean) true := ⟨_, pT_10, 33, pY_10, rfl, by decide, pI_10, Or.inl l_Mo_13, pO_10, pN_10, rfl, by decide +kernel, fun _ => rfl⟩
theorem l_Mo_16 : Cond.fieldLink "BindingKernelModel" 16 "BindingKernelModel" "first" "[I" ∈ px_tbl := px_in 677 (by decide +kernel) rfl
theorem f_Mo_16 : pz_fd "BindingKernelModel" 16 10 4 := ⟨_, pT_10, 33, rfl, by decide, pI_10, Or.inl l_Mo_16⟩
theorem g_Mo_16 : pz_fw "BindingKernelModel" 16 10 4 (.array .int) true := ⟨_, pT_10, 33, pY_10, rfl, by decide, pI_10, Or.inl l_Mo_16, pO_10, pN_10, rfl, by decide +kernel, fun _ => rfl⟩
theorem l_Mo_20 : Cond.fieldLink "BindingKernelModel" 20 "BindingKernelModel" "links" "[I" ∈ px_tbl := px_in 678 (by decide +kernel) rfl
theorem f_Mo_20 : pz_fd "BindingKernelModel" 20 10 5 := ⟨_, pT_10, 33, rfl, by decide, pI_10, Or.inl l_Mo_20⟩
theorem g_Mo_20 : pz_fw "BindingKernelModel" 20 10 5 (.array .int) true := ⟨_, pT_10, 33, pY_10, rfl, by decide, pI_10, Or.inl l_Mo_20, pO_10, pN_10, rfl, by decide +kernel, fun _ => rfl⟩
theorem l_Mo_23 : Cond.fieldLink "BindingKernelModel" 23 "BindingKernelModel" "now" "I" ∈ px_tbl := px_in 679 (by decide +kernel) rfl
theorem f_Mo_23 : pz_fd "BindingKernelModel" 23 10 6 := ⟨_, pT_10, 33, rfl, by decide, pI_10, Or.inl l_Mo_23⟩
theorem g_Mo_23 : pz_fw "BindingKernelModel" 23 10 6 (.int) false := ⟨_, pT_10, 33, pY_10, rfl, by decide, pI_10, Or.inl l_Mo_23, pO_10, pN_10, rfl, by decide +kernel, fun h => by cases h⟩
theorem l_Mo_27 : Cond.fieldLink "BindingKernelModel" 27 "BindingKernelModel" "taking" "I" ∈ px_tbl := px_in 680 (by decide +kernel) rfl
theorem f_Mo_27 : pz_fd "BindingKernelModel" 27 10 7 := ⟨_, pT_10, 33, rfl, by decide, pI_10, Or.inl l_Mo_27⟩
theorem g_Mo_27 : pz_fw "BindingKernelModel" 27 10 7 (.int) false := ⟨_, pT_10, 33, pY_10, rfl, by decide, pI_10, Or.inl l_Mo_27, pO_10, pN_10, rfl, by decide +kernel, fun h => by cases h⟩
theorem l_Mo_30 : Cond.fieldLink "BindingKernelModel" 30 "BindingKernelModel" "lost" "I" ∈ px_tbl := px_in 681 (by decide +kernel) rfl
theorem f_Mo_30 : pz_fd "BindingKernelModel" 30 10 8 := ⟨_, pT_10, 33, rfl, by decide, pI_10, Or.inl l_Mo_30⟩
theorem g_Mo_30 : pz_fw "BindingKernelModel" 30 10 8 (.int) false := ⟨_, pT_10, 33, pY_10, rfl, by decide, pI_10, Or.inl l_Mo_30, pO_10, pN_10, rfl, by decide +kernel, fun h => by cases h⟩
theorem l_Mo_33 : Cond.fieldLink "BindingKernelModel" 33 "BindingKernelModel" "owner" "[I" ∈ px_tbl := px_in 682 (by decide +kernel) rfl
theorem f_Mo_33 : pz_fd "BindingKernelModel" 33 10 9 := ⟨_, pT_10, 33, rfl, by decide, pI_10, Or.inl l_Mo_33⟩
theorem g_Mo_33 : pz_fw "BindingKernelModel" 33 10 9 (.array .int) true := ⟨_, pT_10, 33, pY_10, rfl, by decide, pI_10, Or.inl l_Mo_33, pO_10, pN_10, rfl, by decide +kernel, fun _ => rfl⟩
theorem l_Mo_36 : Cond.fieldLink "BindingKernelModel" 36 "BindingKernelModel" "took" "[I" ∈ px_tbl := px_in 683 (by decide +kernel) rfl
theorem f_Mo_36 : pz_fd "BindingKernelModel" 36 10 10 := ⟨_, pT_10, 33, rfl, by decide, pI_10, Or.inl l_Mo_36⟩
theorem g_Mo_36 : pz_fw "BindingKernelModel" 36 10 10 (.array .int) true := ⟨_, pT_10, 33, pY_10, rfl, by decide, pI_10, Or.inl l_Mo_36, pO_10, pN_10, rfl, by decide +kernel, fun _ => rfl⟩
theorem l_Mo_39 : Cond.fieldLink "BindingKernelModel" 39 "BindingKernelModel" "deadline" "[I" ∈ px_tbl := px_in 684 (by decide +kernel) rfl
theorem f_Mo_39 : pz_fd "BindingKernelModel" 39 10 11 := ⟨_, pT_10, 33, rfl, by decide, pI_10, Or.inl l_Mo_39⟩
theorem g_Mo_39 : pz_fw "BindingKernelModel" 39 10 11 (.array .int) true := ⟨_, pT_10, 33, pY_10, rfl, by decide, pI_10, Or.inl l_Mo_39, pO_10, pN_10, rfl, by decide +kernel, fun _ => rfl⟩
theorem l_Mo_42 : Cond.fieldLink "BindingKernelModel" 42 "BindingKernelModel" "right" "[I" ∈ px_tbl := px_in 685 (by decide +kernel) rfl
theorem f_Mo_42 : pz_fd "BindingKernelModel" 42 10 12 := ⟨_, pT_10, 33, rfl, by decide, pI_10, Or.inl l_Mo_42⟩
theorem g_Mo_42 : pz_fw "BindingKernelModel" 42 10 12 (.array .int) true := ⟨_, pT_10, 33, pY_10, rfl, by decide, pI_10, Or.inl l_Mo_42, pO_10, pN_10, rfl, by decide +kernel, fun _ => rfl⟩
theorem l_Mo_45 : Cond.fieldLink "BindingKernelModel" 45 "BindingKernelModel" "words" "[I" ∈ px_tbl := px_in 686 (by decide +kernel) rfl
theorem f_Mo_45 : pz_fd "BindingKernelModel" 45 10 13 := ⟨_, pT_10, 33, rfl, by decide, pI_10, Or.inl l_Mo_45⟩
theorem g_Mo_45 : pz_fw "BindingKernelModel" 45 10 13 (.array .int) true := ⟨_, pT_10, 33, pY_10, rfl, by decide, pI_10, Or.inl l_Mo_45, pO_10, pN_10, rfl, by decide +kernel, fun _ => rfl⟩
theorem l_Mo_48 : Cond.fieldLink "BindingKernelModel" 48 "BindingKernelModel" "gone" "[I" ∈ px_tbl := px_in 687 (by decide +kernel) rfl
theorem f_Mo_48 : pz_fd "BindingKernelModel" 48 10 14 := ⟨_, pT_10, 33, rfl, by decide, pI_10, Or.inl l_Mo_48⟩
theorem g_Mo_48 : pz_fw "BindingKernelModel" 48 10 14 (.array .int) true := ⟨_, pT_10, 33, pY_10, rfl, by decide, pI_10, Or.inl l_Mo_48, pO_10, pN_10, rfl, by decide +kernel, fun _ => rfl⟩
theorem l_Mo_51 : Cond.fieldLink "BindingKernelModel" 51 "BindingKernelModel" "goneMany" "[I" ∈ px_tbl := px_in 688 (by decide +kernel) rfl
theorem f_Mo_51 : pz_fd "BindingKernelModel" 51 10 15 := ⟨_, pT_10, 33, rfl, by decide, pI_10, Or.inl l_Mo_51⟩
theorem g_Mo_51 : pz_fw "BindingKernelModel" 51 10 15 (.array .int) true := ⟨_, pT_10, 33, pY_10, rfl, by decide, pI_10, Or.inl l_Mo_51, pO_10, pN_10, rfl, by decide +kernel, fun _ => rfl⟩
theorem l_Mo_54 : Cond.fieldLink "BindingKernelModel" 54 "BindingKernelModel" "length" "[I" ∈ px_tbl := px_in 689 (by decide +kernel) rfl
theorem f_Mo_54 : pz_fd "BindingKernelModel" 54 10 16 := ⟨_, pT_10, 33, rfl, by decide, pI_10, Or.inl l_Mo_54⟩
theorem g_Mo_54 : pz_fw "BindingKernelModel" 54 10 16 (.array .int) true := ⟨_, pT_10, 33, pY_10, rfl, by decide, pI_10, Or.inl l_Mo_54, pO_10, pN_10, rfl, by decide +kernel, fun _ => rfl⟩
theorem l_Mo_57 : Cond.fieldLink "BindingKernelModel" 57 "BindingKernelModel" "code" "[I" ∈ px_tbl := px_in 690 (by decide +kernel) rfl
theorem f_Mo_57 : pz_fd "BindingKernelModel" 57 10 17 := ⟨_, pT_10, 33, rfl, by decide, pI_10, Or.inl l_Mo_57⟩
theorem g_Mo_57 : pz_fw "BindingKernelModel" 57 10 17 (.array .int) true := ⟨_, pT_10, 33, pY_10, rfl, by decide, pI_10, Or.inl l_Mo_57, pO_10, pN_10, rfl, by decide +kernel, fun _ => rfl⟩
theorem l_Mo_60 : Cond.fieldLink "BindingKernelModel" 60 "BindingKernelModel" "standing" "[I" ∈ px_tbl := px_in 691 (by decide +kernel) rfl
theorem f_Mo_60 : pz_fd "BindingKernelModel" 60 10 18 := ⟨_, pT_10, 33, rfl, by decide, pI_10, Or.inl l_Mo_60⟩
theorem g_Mo_60 : pz_fw "BindingKernelModel" 60 10 18 (.array .int) true := ⟨_, pT_10, 33, pY_10, rfl, by decide, pI_10, Or.inl l_Mo_60, pO_10, pN_10, rfl, by decide +kernel, fun _ => rfl⟩
theorem l_Mo_63 : Cond.fieldLink "BindingKernelModel" 63 "BindingKernelModel" "filters" "I" ∈ px_tbl := px_in 692 (by decide +kernel) rfl
theorem f_Mo_63 : pz_fd "BindingKernelModel" 63 10 19 := ⟨_, pT_10, 33, rfl, by decide, pI_10, Or.inl l_Mo_63⟩
theorem g_Mo_63 : pz_fw "BindingKernelModel" 63 10 19 (.int) false := ⟨_, pT_10, 33, pY_10, rfl, by decide, pI_10, Or.inl l_Mo_63, pO_10, pN_10, rfl, by decide +kernel, fun h => by cases h⟩
theorem l_Mo_66 : Cond.fieldLink "BindingKernelModel" 66 "BindingKernelModel" "bytes" "I" ∈ px_tbl := px_in 693 (by decide +kernel) rfl
theorem f_Mo_66 : pz_fd "BindingKernelModel" 66 10 20 := ⟨_, pT_10, 33, rfl, by decide, pI_10, Or.inl l_Mo_66⟩
theorem g_Mo_66 : pz_fw "BindingKernelModel" 66 10 20 (.int) false := ⟨_, pT_10, 33, pY_10, rfl, by decide, pI_10, Or.inl l_Mo_66, pO_10, pN_10, rfl, by decide +kernel, fun h => by cases h⟩
theorem l_Mo_69 : Cond.fieldLink "BindingKernelModel" 69 "BindingKernelModel" "frame" "[I" ∈ px_tbl := px_in 694 (by decide +kernel) rfl
theorem f_Mo_69 : pz_fd "BindingKernelModel" 69 10 21 := ⟨_, pT_10, 33, rfl, by decide, pI_10, Or.inl l_Mo_69⟩
theorem g_Mo_69 : pz_fw "BindingKernelModel" 69 10 21 (.array .int) true := ⟨_, pT_10, 33, pY_10, rfl, by decide, pI_10, Or.inl l_Mo_69, pO_10, pN_10, rfl, by decide +kernel, fun _ => rfl⟩
theorem l_Mo_72 : Cond.fieldLink "BindingKernelModel" 72 "BindingKernelModel" "frames" "[I" ∈ px_tbl := px_in 695 (by decide +kernel) rfl
theorem f_Mo_72 : pz_fd "BindingKernelModel" 72 10 22 := ⟨_, pT_10, 33, rfl, by decide, pI_10, Or.inl l_Mo_72⟩
theorem g_Mo_72 : pz_fw "BindingKernelModel" 72 10 22 (.array .int) true := ⟨_, pT_10, 33, pY_10, rfl, by decide, pI_10, Or.inl l_Mo_72, pO_10, pN_10, rfl, by decide +kernel, fun _ => rfl⟩
theorem l_Mo_75 : Cond.fieldLink "BindingKernelModel" 75 "BindingKernelModel" "frameLength" "[I" ∈ px_tbl := px_in 696 (by decide +kernel) rfl
theorem f_Mo_75 : pz_fd "BindingKernelModel" 75 10 23 := ⟨_, pT_10, 33, rfl, by decide, pI_10, Or.inl l_Mo_75⟩
theorem g_Mo_75 : pz_fw "BindingKernelModel" 75 10 23 (.array .int) true := ⟨_, pT_10, 33, pY_10, rfl, by decide, pI_10, Or.inl l_Mo_75, pO_10, pN_10, rfl, by decide +kernel, fun _ => rfl⟩
theorem l_Mo_78 : Cond.fieldLink "BindingKernelModel" 78 "BindingKernelModel" "frameByte" "[I" ∈ px_tbl := px_in 697 (by decide +kernel) rfl
theorem f_Mo_78 : pz_fd "BindingKernelModel" 78 10 24 := ⟨_, pT_10, 33, rfl, by decide, pI_10, Or.inl l_Mo_78⟩
theorem g_Mo_78 : pz_fw "BindingKernelModel" 78 10 24 (.array .int) true := ⟨_, pT_10, 33, pY_10, rfl, by decide, pI_10, Or.inl l_Mo_78, pO_10, pN_10, rfl, by decide +kernel, fun _ => rfl⟩
theorem l_Mo_81 : Cond.fieldLink "BindingKernelModel" 81 "BindingKernelModel" "a" "I" ∈ px_tbl := px_in 698 (by decide +kernel) rfl
theorem f_Mo_81 : pz_fd "BindingKernelModel" 81 10 25 := ⟨_, pT_10, 33, rfl, by decide, pI_10, Or.inl l_Mo_81⟩
theorem g_Mo_81 : pz_fw "BindingKernelModel" 81 10 25 (.int) false := ⟨_, pT_10, 33, pY_10, rfl, by decide, pI_10, Or.inl l_Mo_81, pO_10, pN_10, rfl, by decide +kernel, fun h => by cases h⟩
theorem l_Mo_84 : Cond.fieldLink "BindingKernelModel" 84 "BindingKernelModel" "x" "I" ∈ px_tbl := px_in 699 (by decide +kernel) rfl
theorem f_Mo_84 : pz_fd "BindingKernelModel" 84 10 26 := ⟨_, pT_10, 33, rfl, by decide, pI_10, Or.inl l_Mo_84⟩
theorem g_Mo_84 : pz_fw "BindingKernelModel" 84 10 26 (.int) false := ⟨_, pT_10, 33, pY_10, rfl, by decide, pI_10, Or.inl l_Mo_84, pO_10, pN_10, rfl, by decide +kernel, fun h => by cases h⟩
theorem l_Mo_87 : Cond.fieldLink "BindingKernelModel" 87 "BindingKernelModel" "holds" "[I" ∈ px_tbl := px_in 700 (by decide +kernel) rfl
theorem f_Mo_87 : pz_fd "BindingKernelModel" 87 10 27 := ⟨_, pT_10, 33, rfl, by decide, pI_10, Or.inl l_Mo_87⟩
theorem g_Mo_87 : pz_fw "BindingKernelModel" 87 10 27 (.array .int) true := ⟨_, pT_10, 33, pY_10, rfl, by decide, pI_10, Or.inl l_Mo_87, pO_10, pN_10, rfl, by decide +kernel, fun _ => rfl⟩
theorem l_Mo_90 : Cond.fieldLink "BindingKernelModel" 90 "BindingKernelModel" "word" "[I" ∈ px_tbl := px_in 701 (by decide +kernel) rfl
theorem f_Mo_90 : pz_fd "BindingKernelModel" 90 10 28 := ⟨_, pT_10, 33, rfl, by decide, pI_10, Or.inl l_Mo_90⟩
theorem g_Mo_90 : pz_fw "BindingKernelModel" 90 10 28 (.array .int) true := ⟨_, pT_10, 33, pY_10, rfl, by decide, pI_10, Or.inl l_Mo_90, pO_10, pN_10, rfl, by decide +kernel, fun _ => rfl⟩
theorem l_Mo_93 : Cond.fieldLink "BindingKernelModel" 93 "BindingKernelModel" "data" "[I" ∈ px_tbl := px_in 702 (by decide +kernel) rfl
theorem f_Mo_93 : pz_fd "BindingKernelModel" 93 10 29 := ⟨_, pT_10, 33, rfl, by decide, pI_10, Or.inl l_Mo_93⟩
theorem g_Mo_93 : pz_fw "BindingKernelModel" 93 10 29 (.array .int) true := ⟨_, pT_10, 33, pY_10, rfl, by decide, pI_10, Or.inl l_Mo_93, pO_10, pN_10, rfl, by decide +kernel, fun _ => rfl⟩
theorem l_Mo_96 : Cond.fieldLink "BindingKernelModel" 96 "BindingKernelModel" "entries" "[I" ∈ px_tbl := px_in 703 (by decide +kernel) rfl
theorem f_Mo_96 : pz_fd "BindingKernelModel" 96 10 30 := ⟨_, pT_10, 33, rfl, by decide, pI_10, Or.inl l_Mo_96⟩
theorem g_Mo_96 : pz_fw "BindingKernelModel" 96 10 30 (.array .int) true := ⟨_, pT_10, 33, pY_10, rfl, by decide, pI_10, Or.inl l_Mo_96, pO_10, pN_10, rfl, by decide +kernel, fun _ => rfl⟩
theorem l_Mo_99 : Cond.fieldLink "BindingKernelModel" 99 "BindingKernelModel" "keys" "[I" ∈ px_tbl := px_in 704 (by decide +kernel) rfl
theorem f_Mo_99 : pz_fd "BindingKernelModel" 99 10 31 := ⟨_, pT_10, 33, rfl, by decide, pI_10, Or.inl l_Mo_99⟩
theorem g_Mo_99 : pz_fw "BindingKernelModel" 99 10 31 (.array .int) true := ⟨_, pT_10, 33, pY_10, rfl, by decide, pI_10, Or.inl l_Mo_99, pO_10, pN_10, rfl, by decide +kernel, fun _ => rfl⟩
theorem l_Mo_102 : Cond.fieldLink "BindingKernelModel" 102 "BindingKernelModel" "values" "[I" ∈ px_tbl := px_in 705 (by decide +kernel) rfl
theorem f_Mo_102 : pz_fd "BindingKernelModel" 102 10 32 := ⟨_, pT_10, 33, rfl, by decide, pI_10, Or.inl l_Mo_102⟩
theorem g_Mo_102 : pz_fw "BindingKernelModel" 102 10 32 (.array .int) true := ⟨_, pT_10, 33, pY_10, rfl, by decide, pI_10, Or.inl l_Mo_102, pO_10, pN_10, rfl, by decide +kernel, fun _ => rfl⟩
theorem l_K_138 : Cond.fieldLinkNest "BindingKernel" 138 "BindingKernel$Memory" "size" "I" "BindingKernel" ∈ px_nw := List.mem_of_getElem? (i := 0) rfl
theorem f_K_138 : pz_fd "BindingKernel" 138 1 0 := ⟨_, pT_1, 9, rfl, by decide, pI_1, Or.inr ⟨_, l_K_138⟩⟩
theorem l_K_296 : Cond.fieldLinkNest "BindingKernel" 296 "BindingKernel$FilterOrder" "length" "I" "BindingKernel" ∈ px_nw := List.mem_of_getElem? (i := 1) rfl
theorem f_K_296 : pz_fd "BindingKernel" 296 3 1 := ⟨_, pT_3, 2, rfl, by decide, pI_3, Or.inr ⟨_, l_K_296⟩⟩
theorem g_K_296 : pz_fw "BindingKernel" 296 3 1 (.int) false := ⟨_, pT_3, 2, pY_3, rfl, by decide, pI_3, Or.inr ⟨rfl, _, l_K_296⟩, pO_3, pN_3, rfl, by decide +kernel, fun h => by cases h⟩
theorem l_Program_52 : Cond.fieldLinkNest "BindingKernel$Program" 52 "BindingKernel$Frame" "length" "I" "BindingKernel" ∈ px_nw := List.mem_of_getElem? (i := 2) rfl
theorem f_Program_52 : pz_fd "BindingKernel$Program" 52 4 1 := ⟨_, pT_4, 2, rfl, by decide, pI_4, Or.inr ⟨_, l_Program_52⟩⟩
theorem g_Program_52 : pz_fw "BindingKernel$Program" 52 4 1 (.int) false := ⟨_, pT_4, 2, pY_4, rfl, by decide, pI_4, Or.inr ⟨rfl, _, l_Program_52⟩, pO_4, pN_4, rfl, by decide +kernel, fun h => by cases h⟩
theorem l_K_186 : Cond.fieldLinkNest "BindingKernel" 186 "BindingKernel$Frame" "length" "I" "BindingKernel" ∈ px_nw := List.mem_of_getElem? (i := 3) rfl
theorem f_K_186 : pz_fd "BindingKernel" 186 4 1 := ⟨_, pT_4, 2, rfl, by decide, pI_4, Or.inr ⟨_, l_K_186⟩⟩
theorem g_K_186 : pz_fw "BindingKernel" 186 4 1 (.int) false := ⟨_, pT_4, 2, pY_4, rfl, by decide, pI_4, Or.inr ⟨rfl, _, l_K_186⟩, pO_4, pN_4, rfl, by decide +kernel, fun h => by cases h⟩
theorem l_K_198 : Cond.fieldLinkNest "BindingKernel" 198 "BindingKernel$FrameQueue" "length" "I" "BindingKernel" ∈ px_nw := List.mem_of_getElem? (i := 4) rfl
theorem f_K_198 : pz_fd "BindingKernel" 198 7 2 := ⟨_, pT_7, 3, rfl, by decide, pI_7, Or.inr ⟨_, l_K_198⟩⟩
theorem g_K_198 : pz_fw "BindingKernel" 198 7 2 (.int) false := ⟨_, pT_7, 3, pY_7, rfl, by decide, pI_7, Or.inr ⟨rfl, _, l_K_198⟩, pO_7, pN_7, rfl, by decide +kernel, fun h => by cases h⟩
theorem l_K_286 : Cond.fieldLinkNest "BindingKernel" 286 "BindingKernel$EntryTable" "length" "I" "BindingKernel" ∈ px_nw := List.mem_of_getElem? (i := 5) rfl
theorem f_K_286 : pz_fd "BindingKernel" 286 8 1 := ⟨_, pT_8, 2, rfl, by decide, pI_8, Or.inr ⟨_, l_K_286⟩⟩
theorem g_K_286 : pz_fw "BindingKernel" 286 8 1 (.int) false := ⟨_, pT_8, 2, pY_8, rfl, by decide, pI_8, Or.inr ⟨rfl, _, l_K_286⟩, pO_8, pN_8, rfl, by decide +kernel, fun h => by cases h⟩
theorem l_K_171 : Cond.fieldLinkNest "BindingKernel" 171 "BindingKernel$Program" "length" "I" "BindingKernel" ∈ px_nw := List.mem_of_getElem? (i := 6) rfl
theorem f_K_171 : pz_fd "BindingKernel" 171 9 4 := ⟨_, pT_9, 5, rfl, by decide, pI_9, Or.inr ⟨_, l_K_171⟩⟩
theorem g_K_171 : pz_fw "BindingKernel" 171 9 4 (.int) false := ⟨_, pT_9, 5, pY_9, rfl, by decide, pI_9, Or.inr ⟨rfl, _, l_K_171⟩, pO_9, pN_9, rfl, by decide +kernel, fun h => by cases h⟩
theorem l_K_147 : Cond.fieldLinkNest "BindingKernel" 147 "BindingKernel$Application" "pagesTakenAway" "LBindingKernel$PageList;" "BindingKernel" ∈ px_nw := List.mem_of_getElem? (i := 7) rfl
theorem f_K_147 : pz_fd "BindingKernel" 147 5 0 := ⟨_, pT_5, 9, rfl, by decide, pI_5, Or.inr ⟨_, l_K_147⟩⟩
theorem l_K_194 : Cond.fieldLinkNest "BindingKernel" 194 "BindingKernel$Application" "frames" "LBindingKernel$FrameQueue;" "BindingKernel" ∈ px_nw := List.mem_of_getElem? (i := 8) rfl
theorem f_K_194 : pz_fd "BindingKernel" 194 5 1 := ⟨_, pT_5, 9, rfl, by decide, pI_5, Or.inr ⟨_, l_K_194⟩⟩
theorem l_K_230 : Cond.fieldLinkNest "BindingKernel" 230 "BindingKernel$Application" "table" "LBindingKernel$EntryTable;" "BindingKernel" ∈ px_nw := List.mem_of_getElem? (i := 9) rfl
theorem f_K_230 : pz_fd "BindingKernel" 230 5 2 := ⟨_, pT_5, 9, rfl, by decide, pI_5, Or.inr ⟨_, l_K_230⟩⟩
theorem l_K_161 : Cond.fieldLinkNest "BindingKernel" 161 "BindingKernel$Application" "draft" "LBindingKernel$Program;" "BindingKernel" ∈ px_nw := List.mem_of_getElem? (i := 10) rfl
theorem f_K_161 : pz_fd "BindingKernel" 161 5 3 := ⟨_, pT_5, 9, rfl, by decide, pI_5, Or.inr ⟨_, l_K_161⟩⟩
theorem g_K_161 : pz_fw "BindingKernel" 161 5 3 (.object "BindingKernel$Program") false := ⟨_, pT_5, 9, pY_5, rfl, by decide, pI_5, Or.inr ⟨rfl, _, l_K_161⟩, pO_5, pN_5, rfl, by decide +kernel, fun h => by cases h⟩
theorem l_K_300 : Cond.fieldLinkNest "BindingKernel" 300 "BindingKernel$Application" "filter" "LBindingKernel$Program;" "BindingKernel" ∈ px_nw := List.mem_of_getElem? (i := 11) rfl
theorem f_K_300 : pz_fd "BindingKernel" 300 5 4 := ⟨_, pT_5, 9, rfl, by decide, pI_5, Or.inr ⟨_, l_K_300⟩⟩
theorem g_K_300 : pz_fw "BindingKernel" 300 5 4 (.object "BindingKernel$Program") false := ⟨_, pT_5, 9, pY_5, rfl, by decide, pI_5, Or.inr ⟨rfl, _, l_K_300⟩, pO_5, pN_5, rfl, by decide +kernel, fun h => by cases h⟩
theorem l_K_62 : Cond.fieldLinkNest "BindingKernel" 62 "BindingKernel$Application" "isOpen" "Z" "BindingKernel" ∈ px_nw := List.mem_of_getElem? (i := 12) rfl
theorem f_K_62 : pz_fd "BindingKernel" 62 5 5 := ⟨_, pT_5, 9, rfl, by decide, pI_5, Or.inr ⟨_, l_K_62⟩⟩
theorem g_K_62 : pz_fw "BindingKernel" 62 5 5 (.boolean) false := ⟨_, pT_5, 9, pY_5, rfl, by decide, pI_5, Or.inr ⟨rfl, _, l_K_62⟩, pO_5, pN_5, rfl, by decide +kernel, fun h => by cases h⟩
theorem l_K_218 : Cond.fieldLinkNest "BindingKernel" 218 "BindingKernel$Application" "isMap" "Z" "BindingKernel" ∈ px_nw := List.mem_of_getElem? (i := 13) rfl
theorem f_K_218 : pz_fd "BindingKernel" 218 5 6 := ⟨_, pT_5, 9, rfl, by decide, pI_5, Or.inr ⟨_, l_K_218⟩⟩
theorem g_K_218 : pz_fw "BindingKernel" 218 5 6 (.boolean) false := ⟨_, pT_5, 9, pY_5, rfl, by decide, pI_5, Or.inr ⟨rfl, _, l_K_218⟩, pO_5, pN_5, rfl, by decide +kernel, fun h => by cases h⟩
theorem l_K_74 : Cond.fieldLinkNest "BindingKernel" 74 "BindingKernel$Application" "firstLink" "I" "BindingKernel" ∈ px_nw := List.mem_of_getElem? (i := 14) rfl
theorem f_K_74 : pz_fd "BindingKernel" 74 5 7 := ⟨_, pT_5, 9, rfl, by decide, pI_5, Or.inr ⟨_, l_K_74⟩⟩
theorem g_K_74 : pz_fw "BindingKernel" 74 5 7 (.int) false := ⟨_, pT_5, 9, pY_5, rfl, by decide, pI_5, Or.inr ⟨rfl, _, l_K_74⟩, pO_5, pN_5, rfl, by decide +kernel, fun h => by cases h⟩
theorem l_K_77 : Cond.fieldLinkNest "BindingKernel" 77 "BindingKernel$Application" "links" "I" "BindingKernel" ∈ px_nw := List.mem_of_getElem? (i := 15) rfl
theorem f_K_77 : pz_fd "BindingKernel" 77 5 8 := ⟨_, pT_5, 9, rfl, by decide, pI_5, Or.inr ⟨_, l_K_77⟩⟩
theorem g_K_77 : pz_fw "BindingKernel" 77 5 8 (.int) false := ⟨_, pT_5, 9, pY_5, rfl, by decide, pI_5, Or.inr ⟨rfl, _, l_K_77⟩, pO_5, pN_5, rfl, by decide +kernel, fun h => by cases h⟩
theorem k_K_init : Cond.code M_K_init.1 M_K_init.2.1 M_K_init.2.2.1 M_K_init.2.2.2 ∈ px_tbl := px_in 18 (by decide +kernel) rfl
theorem i_K_init : Cond.initialized M_K_init.1.cls ∈ px_tbl := px_in 1 (by decide +kernel) rfl
theorem j_K_init : Cond.instanceMethod M_K_init.1 ∈ px_tbl := px_in 17 (by decide +kernel) rfl
theorem k_K_clampSize : Cond.code M_K_clampSize.1 M_K_clampSize.2.1 M_K_clampSize.2.2.1 M_K_clampSize.2.2.2 ∈ px_tbl := px_in 26 (by decide +kernel) rfl
theorem i_K_clampSize : Cond.initialized M_K_clampSize.1.cls ∈ px_tbl := px_in 1 (by decide +kernel) rfl
theorem s_K_clampSize : Cond.static M_K_clampSize.1 ∈ px_tbl := px_in 25 (by decide +kernel) rfl
theorem k_Math_min : Cond.code M_Math_min.1 M_Math_min.2.1 M_Math_min.2.2.1 M_Math_min.2.2.2 ∈ px_tbl := px_in 29 (by decide +kernel) rfl
theorem i_Math_min : Cond.initialized M_Math_min.1.cls ∈ px_tbl := px_in 3 (by decide +kernel) rfl
theorem s_Math_min : Cond.static M_Math_min.1 ∈ px_tbl := px_in 28 (by decide +kernel) rfl
theorem k_Math_max : Cond.code M_Math_max.1 M_Math_max.2.1 M_Math_max.2.2.1 M_Math_max.2.2.2 ∈ px_tbl := px_in 32 (by decide +kernel) rfl
theorem i_Math_max : Cond.initialized M_Math_max.1.cls ∈ px_tbl := px_in 3 (by decide +kernel) rfl
theorem s_Math_max : Cond.static M_Math_max.1 ∈ px_tbl := px_in 31 (by decide +kernel) rfl
theorem k_Memory_init : Cond.code M_Memory_init.1 M_Memory_init.2.1 M_Memory_init.2.2.1 M_Memory_init.2.2.2 ∈ px_tbl := px_in 35 (by decide +kernel) rfl
theorem i_Memory_init : Cond.initialized M_Memory_init.1.cls ∈ px_tbl := px_in 2 (by decide +kernel) rfl
theorem j_Memory_init : Cond.instanceMethod M_Memory_init.1 ∈ px_tbl := px_in 34 (by decide +kernel) rfl
theorem k_Disk_init : Cond.code M_Disk_init.1 M_Disk_init.2.1 M_Disk_init.2.2.1 M_Disk_init.2.2.2 ∈ px_tbl := px_in 72 (by decide +kernel) rfl
theorem i_Disk_init : Cond.initialized M_Disk_init.1.cls ∈ px_tbl := px_in 4 (by decide +kernel) rfl
theorem j_Disk_init : Cond.instanceMethod M_Disk_init.1 ∈ px_tbl := px_in 71 (by decide +kernel) rfl
theorem k_FilterOrder_init : Cond.code M_FilterOrder_init.1 M_FilterOrder_init.2.1 M_FilterOrder_init.2.2.1 M_FilterOrder_init.2.2.2 ∈ px_tbl := px_in 88 (by decide +kernel) rfl
theorem i_FilterOrder_init : Cond.initialized M_FilterOrder_init.1.cls ∈ px_tbl := px_in 5 (by decide +kernel) rfl
theorem j_FilterOrder_init : Cond.instanceMethod M_FilterOrder_init.1 ∈ px_tbl := px_in 87 (by decide +kernel) rfl
theorem k_Frame_init : Cond.code M_Frame_init.1 M_Frame_init.2.1 M_Frame_init.2.2.1 M_Frame_init.2.2.2 ∈ px_tbl := px_in 102 (by decide +kernel) rfl
theorem i_Frame_init : Cond.initialized M_Frame_init.1.cls ∈ px_tbl := px_in 6 (by decide +kernel) rfl
theorem j_Frame_init : Cond.instanceMethod M_Frame_init.1 ∈ px_tbl := px_in 101 (by decide +kernel) rfl
theorem k_Application_init : Cond.code M_Application_init.1 M_Application_init.2.1 M_Application_init.2.2.1 M_Application_init.2.2.2 ∈ px_tbl := px_in 118 (by decide +kernel) rfl
theorem i_Application_init : Cond.initialized M_Application_init.1.cls ∈ px_tbl := px_in 7 (by decide +kernel) rfl
theorem j_Application_init : Cond.instanceMethod M_Application_init.1 ∈ px_tbl := px_in 117 (by decide +kernel) rfl
theorem k_PageList_init : Cond.code M_PageList_init.1 M_PageList_init.2.1 M_PageList_init.2.2.1 M_PageList_init.2.2.2 ∈ px_tbl := px_in 124 (by decide +kernel) rfl
theorem i_PageList_init : Cond.initialized M_PageList_init.1.cls ∈ px_tbl := px_in 8 (by decide +kernel) rfl
theorem j_PageList_init : Cond.instanceMethod M_PageList_init.1 ∈ px_tbl := px_in 123 (by decide +kernel) rfl
theorem k_FrameQueue_init : Cond.code M_FrameQueue_init.1 M_FrameQueue_init.2.1 M_FrameQueue_init.2.2.1 M_FrameQueue_init.2.2.2 ∈ px_tbl := px_in 140 (by decide +kernel) rfl
theorem i_FrameQueue_init : Cond.initialized M_FrameQueue_init.1.cls ∈ px_tbl := px_in 9 (by decide +kernel) rfl
theorem j_FrameQueue_init : Cond.instanceMethod M_FrameQueue_init.1 ∈ px_tbl := px_in 139 (by decide +kernel) rfl
theorem k_EntryTable_init : Cond.code M_EntryTable_init.1 M_EntryTable_init.2.1 M_EntryTable_init.2.2.1 M_EntryTable_init.2.2.2 ∈ px_tbl := px_in 160 (by decide +kernel) rfl
theorem i_EntryTable_init : Cond.initialized M_EntryTable_init.1.cls ∈ px_tbl := px_in 10 (by decide +kernel) rfl
theorem j_EntryTable_init : Cond.instanceMethod M_EntryTable_init.1 ∈ px_tbl := px_in 159 (by decide +kernel) rfl
theorem k_Program_init : Cond.code M_Program_init.1 M_Program_init.2.1 M_Program_init.2.2.1 M_Program_init.2.2.2 ∈ px_tbl := px_in 174 (by decide +kernel) rfl
theorem i_Program_init : Cond.initialized M_Program_init.1.cls ∈ px_tbl := px_in 11 (by decide +kernel) rfl
theorem j_Program_init : Cond.instanceMethod M_Program_init.1 ∈ px_tbl := px_in 173 (by decide +kernel) rfl
theorem k_K_open : Cond.code M_K_open.1 M_K_open.2.1 M_K_open.2.2.1 M_K_open.2.2.2 ∈ px_tbl := px_in 252 (by decide +kernel) rfl
theorem i_K_open : Cond.initialized M_K_open.1.cls ∈ px_tbl := px_in 1 (by decide +kernel) rfl
theorem j_K_open : Cond.instanceMethod M_K_open.1 ∈ px_tbl := px_in 250 (by decide +kernel) rfl
theorem v_K_open : Cond.selects M_K_open.1.cls M_K_open.1 M_K_open.1 ∈ px_tbl := px_in 251 (by decide +kernel) rfl
theorem k_K_isApp : Cond.code M_K_isApp.1 M_K_isApp.2.1 M_K_isApp.2.2.1 M_K_isApp.2.2.2 ∈ px_tbl := px_in 255 (by decide +kernel) rfl
theorem i_K_isApp : Cond.initialized M_K_isApp.1.cls ∈ px_tbl := px_in 1 (by decide +kernel) rfl
theorem s_K_isApp : Cond.static M_K_isApp.1 ∈ px_tbl := px_in 254 (by decide +kernel) rfl
theorem k_K_isIn : Cond.code M_K_isIn.1 M_K_isIn.2.1 M_K_isIn.2.2.1 M_K_isIn.2.2.2 ∈ px_tbl := px_in 258 (by decide +kernel) rfl
theorem i_K_isIn : Cond.initialized M_K_isIn.1.cls ∈ px_tbl := px_in 1 (by decide +kernel) rfl
theorem s_K_isIn : Cond.static M_K_isIn.1 ∈ px_tbl := px_in 257 (by decide +kernel) rfl
theorem k_K_isLayout : Cond.code M_K_isLayout.1 M_K_isLayout.2.1 M_K_isLayout.2.2.1 M_K_isLayout.2.2.2 ∈ px_tbl := px_in 261 (by decide +kernel) rfl
theorem i_K_isLayout : Cond.initialized M_K_isLayout.1.cls ∈ px_tbl := px_in 1 (by decide +kernel) rfl
theorem s_K_isLayout : Cond.static M_K_isLayout.1 ∈ px_tbl := px_in 260 (by decide +kernel) rfl
theorem k_Disk_leastFree : Cond.code M_Disk_leastFree.1 M_Disk_leastFree.2.1 M_Disk_leastFree.2.2.1 M_Disk_leastFree.2.2.2 ∈ px_tbl := px_in 265 (by decide +kernel) rfl
theorem i_Disk_leastFree : Cond.initialized M_Disk_leastFree.1.cls ∈ px_tbl := px_in 4 (by decide +kernel) rfl
theorem j_Disk_leastFree : Cond.instanceMethod M_Disk_leastFree.1 ∈ px_tbl := px_in 263 (by decide +kernel) rfl
theorem v_Disk_leastFree : Cond.selects M_Disk_leastFree.1.cls M_Disk_leastFree.1 M_Disk_leastFree.1 ∈ px_tbl := px_in 264 (by decide +kernel) rfl
theorem k_Disk_isFree : Cond.code M_Disk_isFree.1 M_Disk_isFree.2.1 M_Disk_isFree.2.2.1 M_Disk_isFree.2.2.2 ∈ px_tbl := px_in 269 (by decide +kernel) rfl
theorem i_Disk_isFree : Cond.initialized M_Disk_isFree.1.cls ∈ px_tbl := px_in 4 (by decide +kernel) rfl
theorem j_Disk_isFree : Cond.instanceMethod M_Disk_isFree.1 ∈ px_tbl := px_in 267 (by decide +kernel) rfl
theorem v_Disk_isFree : Cond.selects M_Disk_isFree.1.cls M_Disk_isFree.1 M_Disk_isFree.1 ∈ px_tbl := px_in 268 (by decide +kernel) rfl
theorem k_Application_begin : Cond.code M_Application_begin.1 M_Application_begin.2.1 M_Application_begin.2.2.1 M_Application_begin.2.2.2 ∈ px_tbl := px_in 273 (by decide +kernel) rfl
theorem i_Application_begin : Cond.initialized M_Application_begin.1.cls ∈ px_tbl := px_in 7 (by decide +kernel) rfl
theorem j_Application_begin : Cond.instanceMethod M_Application_begin.1 ∈ px_tbl := px_in 271 (by decide +kernel) rfl
theorem v_Application_begin : Cond.selects M_Application_begin.1.cls M_Application_begin.1 M_Application_begin.1 ∈ px_tbl := px_in 272 (by decide +kernel) rfl
theorem k_PageList_clear : Cond.code M_PageList_clear.1 M_PageList_clear.2.1 M_PageList_clear.2.2.1 M_PageList_clear.2.2.2 ∈ px_tbl := px_in 277 (by decide +kernel) rfl
theorem i_PageList_clear : Cond.initialized M_PageList_clear.1.cls ∈ px_tbl := px_in 8 (by decide +kernel) rfl
theorem j_PageList_clear : Cond.instanceMethod M_PageList_clear.1 ∈ px_tbl := px_in 275 (by decide +kernel) rfl
theorem v_PageList_clear : Cond.selects M_PageList_clear.1.cls M_PageList_clear.1 M_PageList_clear.1 ∈ px_tbl := px_in 276 (by decide +kernel) rfl
theorem k_Disk_bind : Cond.code M_Disk_bind.1 M_Disk_bind.2.1 M_Disk_bind.2.2.1 M_Disk_bind.2.2.2 ∈ px_tbl := px_in 281 (by decide +kernel) rfl
theorem i_Disk_bind : Cond.initialized M_Disk_bind.1.cls ∈ px_tbl := px_in 4 (by decide +kernel) rfl
theorem j_Disk_bind : Cond.instanceMethod M_Disk_bind.1 ∈ px_tbl := px_in 279 (by decide +kernel) rfl
theorem v_Disk_bind : Cond.selects M_Disk_bind.1.cls M_Disk_bind.1 M_Disk_bind.1 ∈ px_tbl := px_in 280 (by decide +kernel) rfl
theorem k_Disk_setWord : Cond.code M_Disk_setWord.1 M_Disk_setWord.2.1 M_Disk_setWord.2.2.1 M_Disk_setWord.2.2.2 ∈ px_tbl := px_in 285 (by decide +kernel) rfl
theorem i_Disk_setWord : Cond.initialized M_Disk_setWord.1.cls ∈ px_tbl := px_in 4 (by decide +kernel) rfl
theorem j_Disk_setWord : Cond.instanceMethod M_Disk_setWord.1 ∈ px_tbl := px_in 283 (by decide +kernel) rfl
theorem v_Disk_setWord : Cond.selects M_Disk_setWord.1.cls M_Disk_setWord.1 M_Disk_setWord.1 ∈ px_tbl := px_in 284 (by decide +kernel) rfl
theorem k_K_close : Cond.code M_K_close.1 M_K_close.2.1 M_K_close.2.2.1 M_K_close.2.2.2 ∈ px_tbl := px_in 289 (by decide +kernel) rfl
theorem i_K_close : Cond.initialized M_K_close.1.cls ∈ px_tbl := px_in 1 (by decide +kernel) rfl
theorem j_K_close : Cond.instanceMethod M_K_close.1 ∈ px_tbl := px_in 287 (by decide +kernel) rfl
theorem v_K_close : Cond.selects M_K_close.1.cls M_K_close.1 M_K_close.1 ∈ px_tbl := px_in 288 (by decide +kernel) rfl
theorem k_K_isOpen : Cond.code M_K_isOpen.1 M_K_isOpen.2.1 M_K_isOpen.2.2.1 M_K_isOpen.2.2.2 ∈ px_tbl := px_in 293 (by decide +kernel) rfl
theorem i_K_isOpen : Cond.initialized M_K_isOpen.1.cls ∈ px_tbl := px_in 1 (by decide +kernel) rfl
theorem j_K_isOpen : Cond.instanceMethod M_K_isOpen.1 ∈ px_tbl := px_in 292 (by decide +kernel) rfl
theorem v_K_isOpen : Cond.selects M_K_isOpen.1.cls M_K_isOpen.1 M_K_isOpen.1 ∈ px_tbl := px_inp 0 (by decide +kernel) rfl
theorem k_Memory_forget : Cond.code M_Memory_forget.1 M_Memory_forget.2.1 M_Memory_forget.2.2.1 M_Memory_forget.2.2.2 ∈ px_tbl := px_in 297 (by decide +kernel) rfl
theorem i_Memory_forget : Cond.initialized M_Memory_forget.1.cls ∈ px_tbl := px_in 2 (by decide +kernel) rfl
theorem j_Memory_forget : Cond.instanceMethod M_Memory_forget.1 ∈ px_tbl := px_in 295 (by decide +kernel) rfl
theorem v_Memory_forget : Cond.selects M_Memory_forget.1.cls M_Memory_forget.1 M_Memory_forget.1 ∈ px_tbl := px_in 296 (by decide +kernel) rfl
theorem k_Memory_setRight : Cond.code M_Memory_setRight.1 M_Memory_setRight.2.1 M_Memory_setRight.2.2.1 M_Memory_setRight.2.2.2 ∈ px_tbl := px_in 301 (by decide +kernel) rfl
theorem i_Memory_setRight : Cond.initialized M_Memory_setRight.1.cls ∈ px_tbl := px_in 2 (by decide +kernel) rfl
theorem j_Memory_setRight : Cond.instanceMethod M_Memory_setRight.1 ∈ px_tbl := px_in 299 (by decide +kernel) rfl
theorem v_Memory_setRight : Cond.selects M_Memory_setRight.1.cls M_Memory_setRight.1 M_Memory_setRight.1 ∈ px_tbl := px_in 300 (by decide +kernel) rfl
theorem k_Memory_free : Cond.code M_Memory_free.1 M_Memory_free.2.1 M_Memory_free.2.2.1 M_Memory_free.2.2.2 ∈ px_tbl := px_in 305 (by decide +kernel) rfl
theorem i_Memory_free : Cond.initialized M_Memory_free.1.cls ∈ px_tbl := px_in 2 (by decide +kernel) rfl
theorem j_Memory_free : Cond.instanceMethod M_Memory_free.1 ∈ px_tbl := px_in 303 (by decide +kernel) rfl
theorem v_Memory_free : Cond.selects M_Memory_free.1.cls M_Memory_free.1 M_Memory_free.1 ∈ px_tbl := px_in 304 (by decide +kernel) rfl
theorem k_Disk_freeAllOf : Cond.code M_Disk_freeAllOf.1 M_Disk_freeAllOf.2.1 M_Disk_freeAllOf.2.2.1 M_Disk_freeAllOf.2.2.2 ∈ px_tbl := px_in 309 (by decide +kernel) rfl
theorem i_Disk_freeAllOf : Cond.initialized M_Disk_freeAllOf.1.cls ∈ px_tbl := px_in 4 (by decide +kernel) rfl
theorem j_Disk_freeAllOf : Cond.instanceMethod M_Disk_freeAllOf.1 ∈ px_tbl := px_in 307 (by decide +kernel) rfl
theorem v_Disk_freeAllOf : Cond.selects M_Disk_freeAllOf.1.cls M_Disk_freeAllOf.1 M_Disk_freeAllOf.1 ∈ px_tbl := px_in 308 (by decide +kernel) rfl
theorem k_Disk_free : Cond.code M_Disk_free.1 M_Disk_free.2.1 M_Disk_free.2.2.1 M_Disk_free.2.2.2 ∈ px_tbl := px_in 313 (by decide +kernel) rfl
theorem i_Disk_free : Cond.initialized M_Disk_free.1.cls ∈ px_tbl := px_in 4 (by decide +kernel) rfl
theorem j_Disk_free : Cond.instanceMethod M_Disk_free.1 ∈ px_tbl := px_in 311 (by decide +kernel) rfl
theorem v_Disk_free : Cond.selects M_Disk_free.1.cls M_Disk_free.1 M_Disk_free.1 ∈ px_tbl := px_in 312 (by decide +kernel) rfl
theorem k_FilterOrder_drop : Cond.code M_FilterOrder_drop.1 M_FilterOrder_drop.2.1 M_FilterOrder_drop.2.2.1 M_FilterOrder_drop.2.2.2 ∈ px_tbl := px_in 317 (by decide +kernel) rfl
theorem i_FilterOrder_drop : Cond.initialized M_FilterOrder_drop.1.cls ∈ px_tbl := px_in 5 (by decide +kernel) rfl
theorem j_FilterOrder_drop : Cond.instanceMethod M_FilterOrder_drop.1 ∈ px_tbl := px_in 315 (by decide +kernel) rfl
theorem v_FilterOrder_drop : Cond.selects M_FilterOrder_drop.1.cls M_FilterOrder_drop.1 M_FilterOrder_drop.1 ∈ px_tbl := px_in 316 (by decide +kernel) rfl
theorem k_FilterOrder_placeOf : Cond.code M_FilterOrder_placeOf.1 M_FilterOrder_placeOf.2.1 M_FilterOrder_placeOf.2.2.1 M_FilterOrder_placeOf.2.2.2 ∈ px_tbl := px_in 321 (by decide +kernel) rfl
theorem i_FilterOrder_placeOf : Cond.initialized M_FilterOrder_placeOf.1.cls ∈ px_tbl := px_in 5 (by decide +kernel) rfl
theorem j_FilterOrder_placeOf : Cond.instanceMethod M_FilterOrder_placeOf.1 ∈ px_tbl := px_in 319 (by decide +kernel) rfl
theorem v_FilterOrder_placeOf : Cond.selects M_FilterOrder_placeOf.1.cls M_FilterOrder_placeOf.1 M_FilterOrder_placeOf.1 ∈ px_tbl := px_in 320 (by decide +kernel) rfl
theorem k_Application_end : Cond.code M_Application_end.1 M_Application_end.2.1 M_Application_end.2.2.1 M_Application_end.2.2.2 ∈ px_tbl := px_in 325 (by decide +kernel) rfl
theorem i_Application_end : Cond.initialized M_Application_end.1.cls ∈ px_tbl := px_in 7 (by decide +kernel) rfl
theorem j_Application_end : Cond.instanceMethod M_Application_end.1 ∈ px_tbl := px_in 323 (by decide +kernel) rfl
theorem v_Application_end : Cond.selects M_Application_end.1.cls M_Application_end.1 M_Application_end.1 ∈ px_tbl := px_in 324 (by decide +kernel) rfl
theorem k_Program_clear : Cond.code M_Program_clear.1 M_Program_clear.2.1 M_Program_clear.2.2.1 M_Program_clear.2.2.2 ∈ px_tbl := px_in 329 (by decide +kernel) rfl
theorem i_Program_clear : Cond.initialized M_Program_clear.1.cls ∈ px_tbl := px_in 11 (by decide +kernel) rfl
theorem j_Program_clear : Cond.instanceMethod M_Program_clear.1 ∈ px_tbl := px_in 327 (by decide +kernel) rfl
theorem v_Program_clear : Cond.selects M_Program_clear.1.cls M_Program_clear.1 M_Program_clear.1 ∈ px_tbl := px_in 328 (by decide +kernel) rfl
theorem k_FrameQueue_clear : Cond.code M_FrameQueue_clear.1 M_FrameQueue_clear.2.1 M_FrameQueue_clear.2.2.1 M_FrameQueue_clear.2.2.2 ∈ px_tbl := px_in 333 (by decide +kernel) rfl
theorem i_FrameQueue_clear : Cond.initialized M_FrameQueue_clear.1.cls ∈ px_tbl := px_in 9 (by decide +kernel) rfl
theorem j_FrameQueue_clear : Cond.instanceMethod M_FrameQueue_clear.1 ∈ px_tbl := px_in 331 (by decide +kernel) rfl
theorem v_FrameQueue_clear : Cond.selects M_FrameQueue_clear.1.cls M_FrameQueue_clear.1 M_FrameQueue_clear.1 ∈ px_tbl := px_in 332 (by decide +kernel) rfl
theorem k_EntryTable_clear : Cond.code M_EntryTable_clear.1 M_EntryTable_clear.2.1 M_EntryTable_clear.2.2.1 M_EntryTable_clear.2.2.2 ∈ px_tbl := px_in 337 (by decide +kernel) rfl
theorem i_EntryTable_clear : Cond.initialized M_EntryTable_clear.1.cls ∈ px_tbl := px_in 10 (by decide +kernel) rfl
theorem j_EntryTable_clear : Cond.instanceMethod M_EntryTable_clear.1 ∈ px_tbl := px_in 335 (by decide +kernel) rfl
theorem v_EntryTable_clear : Cond.selects M_EntryTable_clear.1.cls M_EntryTable_clear.1 M_EntryTable_clear.1 ∈ px_tbl := px_in 336 (by decide +kernel) rfl
theorem k_K_take : Cond.code M_K_take.1 M_K_take.2.1 M_K_take.2.2.1 M_K_take.2.2.2 ∈ px_tbl := px_in 341 (by decide +kernel) rfl
theorem i_K_take : Cond.initialized M_K_take.1.cls ∈ px_tbl := px_in 1 (by decide +kernel) rfl
theorem j_K_take : Cond.instanceMethod M_K_take.1 ∈ px_tbl := px_in 339 (by decide +kernel) rfl
theorem v_K_take : Cond.selects M_K_take.1.cls M_K_take.1 M_K_take.1 ∈ px_tbl := px_in 340 (by decide +kernel) rfl
theorem k_Memory_leastFree : Cond.code M_Memory_leastFree.1 M_Memory_leastFree.2.1 M_Memory_leastFree.2.2.1 M_Memory_leastFree.2.2.2 ∈ px_tbl := px_in 345 (by decide +kernel) rfl
theorem i_Memory_leastFree : Cond.initialized M_Memory_leastFree.1.cls ∈ px_tbl := px_in 2 (by decide +kernel) rfl
theorem j_Memory_leastFree : Cond.instanceMethod M_Memory_leastFree.1 ∈ px_tbl := px_in 343 (by decide +kernel) rfl
theorem v_Memory_leastFree : Cond.selects M_Memory_leastFree.1.cls M_Memory_leastFree.1 M_Memory_leastFree.1 ∈ px_tbl := px_in 344 (by decide +kernel) rfl
theorem k_Memory_bind : Cond.code M_Memory_bind.1 M_Memory_bind.2.1 M_Memory_bind.2.2.1 M_Memory_bind.2.2.2 ∈ px_tbl := px_in 349 (by decide +kernel) rfl
theorem i_Memory_bind : Cond.initialized M_Memory_bind.1.cls ∈ px_tbl := px_in 2 (by decide +kernel) rfl
theorem j_Memory_bind : Cond.instanceMethod M_Memory_bind.1 ∈ px_tbl := px_in 347 (by decide +kernel) rfl
theorem v_Memory_bind : Cond.selects M_Memory_bind.1.cls M_Memory_bind.1 M_Memory_bind.1 ∈ px_tbl := px_in 348 (by decide +kernel) rfl
theorem k_Memory_setWord : Cond.code M_Memory_setWord.1 M_Memory_setWord.2.1 M_Memory_setWord.2.2.1 M_Memory_setWord.2.2.2 ∈ px_tbl := px_in 353 (by decide +kernel) rfl
theorem i_Memory_setWord : Cond.initialized M_Memory_setWord.1.cls ∈ px_tbl := px_in 2 (by decide +kernel) rfl
theorem j_Memory_setWord : Cond.instanceMethod M_Memory_setWord.1 ∈ px_tbl := px_in 351 (by decide +kernel) rfl
theorem v_Memory_setWord : Cond.selects M_Memory_setWord.1.cls M_Memory_setWord.1 M_Memory_setWord.1 ∈ px_tbl := px_in 352 (by decide +kernel) rfl
theorem k_K_release : Cond.code M_K_release.1 M_K_release.2.1 M_K_release.2.2.1 M_K_release.2.2.2 ∈ px_tbl := px_in 357 (by decide +kernel) rfl
theorem i_K_release : Cond.initialized M_K_release.1.cls ∈ px_tbl := px_in 1 (by decide +kernel) rfl
theorem j_K_release : Cond.instanceMethod M_K_release.1 ∈ px_tbl := px_in 355 (by decide +kernel) rfl
theorem v_K_release : Cond.selects M_K_release.1.cls M_K_release.1 M_K_release.1 ∈ px_tbl := px_in 356 (by decide +kernel) rfl
theorem k_K_owns : Cond.code M_K_owns.1 M_K_owns.2.1 M_K_owns.2.2.1 M_K_owns.2.2.2 ∈ px_tbl := px_in 361 (by decide +kernel) rfl
theorem i_K_owns : Cond.initialized M_K_owns.1.cls ∈ px_tbl := px_in 1 (by decide +kernel) rfl
theorem j_K_owns : Cond.instanceMethod M_K_owns.1 ∈ px_tbl := px_in 360 (by decide +kernel) rfl
theorem v_K_owns : Cond.selects M_K_owns.1.cls M_K_owns.1 M_K_owns.1 ∈ px_tbl := px_inp 1 (by decide +kernel) rfl
theorem k_Memory_hasPage : Cond.code M_Memory_hasPage.1 M_Memory_hasPage.2.1 M_Memory_hasPage.2.2.1 M_Memory_hasPage.2.2.2 ∈ px_tbl := px_in 365 (by decide +kernel) rfl
theorem i_Memory_hasPage : Cond.initialized M_Memory_hasPage.1.cls ∈ px_tbl := px_in 2 (by decide +kernel) rfl
theorem j_Memory_hasPage : Cond.instanceMethod M_Memory_hasPage.1 ∈ px_tbl := px_in 363 (by decide +kernel) rfl
theorem v_Memory_hasPage : Cond.selects M_Memory_hasPage.1.cls M_Memory_hasPage.1 M_Memory_hasPage.1 ∈ px_tbl := px_in 364 (by decide +kernel) rfl
theorem k_Memory_ownerOf : Cond.code M_Memory_ownerOf.1 M_Memory_ownerOf.2.1 M_Memory_ownerOf.2.2.1 M_Memory_ownerOf.2.2.2 ∈ px_tbl := px_in 369 (by decide +kernel) rfl
theorem i_Memory_ownerOf : Cond.initialized M_Memory_ownerOf.1.cls ∈ px_tbl := px_in 2 (by decide +kernel) rfl
theorem j_Memory_ownerOf : Cond.instanceMethod M_Memory_ownerOf.1 ∈ px_tbl := px_in 367 (by decide +kernel) rfl
theorem v_Memory_ownerOf : Cond.selects M_Memory_ownerOf.1.cls M_Memory_ownerOf.1 M_Memory_ownerOf.1 ∈ px_tbl := px_in 368 (by decide +kernel) rfl
theorem k_K_share : Cond.code M_K_share.1 M_K_share.2.1 M_K_share.2.2.1 M_K_share.2.2.2 ∈ px_tbl := px_in 374 (by decide +kernel) rfl
theorem i_K_share : Cond.initialized M_K_share.1.cls ∈ px_tbl := px_in 1 (by decide +kernel) rfl
theorem j_K_share : Cond.instanceMethod M_K_share.1 ∈ px_tbl := px_in 372 (by decide +kernel) rfl
theorem v_K_share : Cond.selects M_K_share.1.cls M_K_share.1 M_K_share.1 ∈ px_tbl := px_in 373 (by decide +kernel) rfl
theorem k_K_store : Cond.code M_K_store.1 M_K_store.2.1 M_K_store.2.2.1 M_K_store.2.2.2 ∈ px_tbl := px_in 379 (by decide +kernel) rfl
theorem i_K_store : Cond.initialized M_K_store.1.cls ∈ px_tbl := px_in 1 (by decide +kernel) rfl
theorem j_K_store : Cond.instanceMethod M_K_store.1 ∈ px_tbl := px_in 377 (by decide +kernel) rfl
theorem v_K_store : Cond.selects M_K_store.1.cls M_K_store.1 M_K_store.1 ∈ px_tbl := px_in 378 (by decide +kernel) rfl
theorem k_K_mayUse : Cond.code M_K_mayUse.1 M_K_mayUse.2.1 M_K_mayUse.2.2.1 M_K_mayUse.2.2.2 ∈ px_tbl := px_in 383 (by decide +kernel) rfl
theorem i_K_mayUse : Cond.initialized M_K_mayUse.1.cls ∈ px_tbl := px_in 1 (by decide +kernel) rfl
theorem j_K_mayUse : Cond.instanceMethod M_K_mayUse.1 ∈ px_tbl := px_in 382 (by decide +kernel) rfl
theorem v_K_mayUse : Cond.selects M_K_mayUse.1.cls M_K_mayUse.1 M_K_mayUse.1 ∈ px_tbl := px_inp 2 (by decide +kernel) rfl
theorem k_Memory_rightOf : Cond.code M_Memory_rightOf.1 M_Memory_rightOf.2.1 M_Memory_rightOf.2.2.1 M_Memory_rightOf.2.2.2 ∈ px_tbl := px_in 387 (by decide +kernel) rfl
theorem i_Memory_rightOf : Cond.initialized M_Memory_rightOf.1.cls ∈ px_tbl := px_in 2 (by decide +kernel) rfl
theorem j_Memory_rightOf : Cond.instanceMethod M_Memory_rightOf.1 ∈ px_tbl := px_in 385 (by decide +kernel) rfl
theorem v_Memory_rightOf : Cond.selects M_Memory_rightOf.1.cls M_Memory_rightOf.1 M_Memory_rightOf.1 ∈ px_tbl := px_in 386 (by decide +kernel) rfl
theorem k_K_fetch : Cond.code M_K_fetch.1 M_K_fetch.2.1 M_K_fetch.2.2.1 M_K_fetch.2.2.2 ∈ px_tbl := px_in 392 (by decide +kernel) rfl
theorem i_K_fetch : Cond.initialized M_K_fetch.1.cls ∈ px_tbl := px_in 1 (by decide +kernel) rfl
theorem j_K_fetch : Cond.instanceMethod M_K_fetch.1 ∈ px_tbl := px_in 390 (by decide +kernel) rfl
theorem v_K_fetch : Cond.selects M_K_fetch.1.cls M_K_fetch.1 M_K_fetch.1 ∈ px_tbl := px_in 391 (by decide +kernel) rfl
theorem k_Memory_wordOf : Cond.code M_Memory_wordOf.1 M_Memory_wordOf.2.1 M_Memory_wordOf.2.2.1 M_Memory_wordOf.2.2.2 ∈ px_tbl := px_in 397 (by decide +kernel) rfl
theorem i_Memory_wordOf : Cond.initialized M_Memory_wordOf.1.cls ∈ px_tbl := px_in 2 (by decide +kernel) rfl
theorem j_Memory_wordOf : Cond.instanceMethod M_Memory_wordOf.1 ∈ px_tbl := px_in 395 (by decide +kernel) rfl
theorem v_Memory_wordOf : Cond.selects M_Memory_wordOf.1.cls M_Memory_wordOf.1 M_Memory_wordOf.1 ∈ px_tbl := px_in 396 (by decide +kernel) rfl
theorem k_K_revoke : Cond.code M_K_revoke.1 M_K_revoke.2.1 M_K_revoke.2.2.1 M_K_revoke.2.2.2 ∈ px_tbl := px_in 401 (by decide +kernel) rfl
theorem i_K_revoke : Cond.initialized M_K_revoke.1.cls ∈ px_tbl := px_in 1 (by decide +kernel) rfl
theorem j_K_revoke : Cond.instanceMethod M_K_revoke.1 ∈ px_tbl := px_in 399 (by decide +kernel) rfl
theorem v_K_revoke : Cond.selects M_K_revoke.1.cls M_K_revoke.1 M_K_revoke.1 ∈ px_tbl := px_in 400 (by decide +kernel) rfl
theorem k_Memory_pageToName : Cond.code M_Memory_pageToName.1 M_Memory_pageToName.2.1 M_Memory_pageToName.2.2.1 M_Memory_pageToName.2.2.2 ∈ px_tbl := px_in 405 (by decide +kernel) rfl
theorem i_Memory_pageToName : Cond.initialized M_Memory_pageToName.1.cls ∈ px_tbl := px_in 2 (by decide +kernel) rfl
theorem j_Memory_pageToName : Cond.instanceMethod M_Memory_pageToName.1 ∈ px_tbl := px_in 403 (by decide +kernel) rfl
theorem v_Memory_pageToName : Cond.selects M_Memory_pageToName.1.cls M_Memory_pageToName.1 M_Memory_pageToName.1 ∈ px_tbl := px_in 404 (by decide +kernel) rfl
theorem k_Memory_nameAfter : Cond.code M_Memory_nameAfter.1 M_Memory_nameAfter.2.1 M_Memory_nameAfter.2.2.1 M_Memory_nameAfter.2.2.2 ∈ px_tbl := px_in 409 (by decide +kernel) rfl
theorem i_Memory_nameAfter : Cond.initialized M_Memory_nameAfter.1.cls ∈ px_tbl := px_in 2 (by decide +kernel) rfl
theorem j_Memory_nameAfter : Cond.instanceMethod M_Memory_nameAfter.1 ∈ px_tbl := px_in 407 (by decide +kernel) rfl
theorem v_Memory_nameAfter : Cond.selects M_Memory_nameAfter.1.cls M_Memory_nameAfter.1 M_Memory_nameAfter.1 ∈ px_tbl := px_in 408 (by decide +kernel) rfl
theorem k_K_tick : Cond.code M_K_tick.1 M_K_tick.2.1 M_K_tick.2.2.1 M_K_tick.2.2.2 ∈ px_tbl := px_in 413 (by decide +kernel) rfl
theorem i_K_tick : Cond.initialized M_K_tick.1.cls ∈ px_tbl := px_in 1 (by decide +kernel) rfl
theorem j_K_tick : Cond.instanceMethod M_K_tick.1 ∈ px_tbl := px_in 411 (by decide +kernel) rfl
theorem v_K_tick : Cond.selects M_K_tick.1.cls M_K_tick.1 M_K_tick.1 ∈ px_tbl := px_in 412 (by decide +kernel) rfl
theorem k_Memory_passTime : Cond.code M_Memory_passTime.1 M_Memory_passTime.2.1 M_Memory_passTime.2.2.1 M_Memory_passTime.2.2.2 ∈ px_tbl := px_in 417 (by decide +kernel) rfl
theorem i_Memory_passTime : Cond.initialized M_Memory_passTime.1.cls ∈ px_tbl := px_in 2 (by decide +kernel) rfl
theorem j_Memory_passTime : Cond.instanceMethod M_Memory_passTime.1 ∈ px_tbl := px_in 415 (by decide +kernel) rfl
theorem v_Memory_passTime : Cond.selects M_Memory_passTime.1.cls M_Memory_passTime.1 M_Memory_passTime.1 ∈ px_tbl := px_in 416 (by decide +kernel) rfl
theorem k_Memory_firstDue : Cond.code M_Memory_firstDue.1 M_Memory_firstDue.2.1 M_Memory_firstDue.2.2.1 M_Memory_firstDue.2.2.2 ∈ px_tbl := px_in 421 (by decide +kernel) rfl
theorem i_Memory_firstDue : Cond.initialized M_Memory_firstDue.1.cls ∈ px_tbl := px_in 2 (by decide +kernel) rfl
theorem j_Memory_firstDue : Cond.instanceMethod M_Memory_firstDue.1 ∈ px_tbl := px_in 419 (by decide +kernel) rfl
theorem v_Memory_firstDue : Cond.selects M_Memory_firstDue.1.cls M_Memory_firstDue.1 M_Memory_firstDue.1 ∈ px_tbl := px_in 420 (by decide +kernel) rfl
theorem k_PageList_append : Cond.code M_PageList_append.1 M_PageList_append.2.1 M_PageList_append.2.2.1 M_PageList_append.2.2.2 ∈ px_tbl := px_in 425 (by decide +kernel) rfl
theorem i_PageList_append : Cond.initialized M_PageList_append.1.cls ∈ px_tbl := px_in 8 (by decide +kernel) rfl
theorem j_PageList_append : Cond.instanceMethod M_PageList_append.1 ∈ px_tbl := px_in 423 (by decide +kernel) rfl
theorem v_PageList_append : Cond.selects M_PageList_append.1.cls M_PageList_append.1 M_PageList_append.1 ∈ px_tbl := px_in 424 (by decide +kernel) rfl
theorem k_K_op : Cond.code M_K_op.1 M_K_op.2.1 M_K_op.2.2.1 M_K_op.2.2.2 ∈ px_tbl := px_in 430 (by decide +kernel) rfl
theorem i_K_op : Cond.initialized M_K_op.1.cls ∈ px_tbl := px_in 1 (by decide +kernel) rfl
theorem j_K_op : Cond.instanceMethod M_K_op.1 ∈ px_tbl := px_in 428 (by decide +kernel) rfl
theorem v_K_op : Cond.selects M_K_op.1.cls M_K_op.1 M_K_op.1 ∈ px_tbl := px_in 429 (by decide +kernel) rfl
theorem k_Program_isInstruction : Cond.code M_Program_isInstruction.1 M_Program_isInstruction.2.1 M_Program_isInstruction.2.2.1 M_Program_isInstruction.2.2.2 ∈ px_tbl := px_in 433 (by decide +kernel) rfl
theorem i_Program_isInstruction : Cond.initialized M_Program_isInstruction.1.cls ∈ px_tbl := px_in 11 (by decide +kernel) rfl
theorem s_Program_isInstruction : Cond.static M_Program_isInstruction.1 ∈ px_tbl := px_in 432 (by decide +kernel) rfl
theorem k_Program_isTest : Cond.code M_Program_isTest.1 M_Program_isTest.2.1 M_Program_isTest.2.2.1 M_Program_isTest.2.2.2 ∈ px_tbl := px_in 437 (by decide +kernel) rfl
theorem i_Program_isTest : Cond.initialized M_Program_isTest.1.cls ∈ px_tbl := px_in 11 (by decide +kernel) rfl
theorem s_Program_isTest : Cond.static M_Program_isTest.1 ∈ px_tbl := px_in 436 (by decide +kernel) rfl
theorem k_Program_isFull : Cond.code M_Program_isFull.1 M_Program_isFull.2.1 M_Program_isFull.2.2.1 M_Program_isFull.2.2.2 ∈ px_tbl := px_in 441 (by decide +kernel) rfl
theorem i_Program_isFull : Cond.initialized M_Program_isFull.1.cls ∈ px_tbl := px_in 11 (by decide +kernel) rfl
theorem j_Program_isFull : Cond.instanceMethod M_Program_isFull.1 ∈ px_tbl := px_in 439 (by decide +kernel) rfl
theorem v_Program_isFull : Cond.selects M_Program_isFull.1.cls M_Program_isFull.1 M_Program_isFull.1 ∈ px_tbl := px_in 440 (by decide +kernel) rfl
theorem k_Program_append : Cond.code M_Program_append.1 M_Program_append.2.1 M_Program_append.2.2.1 M_Program_append.2.2.2 ∈ px_tbl := px_in 445 (by decide +kernel) rfl
theorem i_Program_append : Cond.initialized M_Program_append.1.cls ∈ px_tbl := px_in 11 (by decide +kernel) rfl
theorem j_Program_append : Cond.instanceMethod M_Program_append.1 ∈ px_tbl := px_in 443 (by decide +kernel) rfl
theorem v_Program_append : Cond.selects M_Program_append.1.cls M_Program_append.1 M_Program_append.1 ∈ px_tbl := px_in 444 (by decide +kernel) rfl
theorem k_K_install : Cond.code M_K_install.1 M_K_install.2.1 M_K_install.2.2.1 M_K_install.2.2.2 ∈ px_tbl := px_in 449 (by decide +kernel) rfl
theorem i_K_install : Cond.initialized M_K_install.1.cls ∈ px_tbl := px_in 1 (by decide +kernel) rfl
theorem j_K_install : Cond.instanceMethod M_K_install.1 ∈ px_tbl := px_in 447 (by decide +kernel) rfl
theorem v_K_install : Cond.selects M_K_install.1.cls M_K_install.1 M_K_install.1 ∈ px_tbl := px_in 448 (by decide +kernel) rfl
theorem k_Program_isSound : Cond.code M_Program_isSound.1 M_Program_isSound.2.1 M_Program_isSound.2.2.1 M_Program_isSound.2.2.2 ∈ px_tbl := px_in 453 (by decide +kernel) rfl
theorem i_Program_isSound : Cond.initialized M_Program_isSound.1.cls ∈ px_tbl := px_in 11 (by decide +kernel) rfl
theorem j_Program_isSound : Cond.instanceMethod M_Program_isSound.1 ∈ px_tbl := px_in 451 (by decide +kernel) rfl
theorem v_Program_isSound : Cond.selects M_Program_isSound.1.cls M_Program_isSound.1 M_Program_isSound.1 ∈ px_tbl := px_in 452 (by decide +kernel) rfl
theorem k_FilterOrder_append : Cond.code M_FilterOrder_append.1 M_FilterOrder_append.2.1 M_FilterOrder_append.2.2.1 M_FilterOrder_append.2.2.2 ∈ px_tbl := px_in 459 (by decide +kernel) rfl
theorem i_FilterOrder_append : Cond.initialized M_FilterOrder_append.1.cls ∈ px_tbl := px_in 5 (by decide +kernel) rfl
theorem j_FilterOrder_append : Cond.instanceMethod M_FilterOrder_append.1 ∈ px_tbl := px_in 457 (by decide +kernel) rfl
theorem v_FilterOrder_append : Cond.selects M_FilterOrder_append.1.cls M_FilterOrder_append.1 M_FilterOrder_append.1 ∈ px_tbl := px_in 458 (by decide +kernel) rfl
theorem k_Application_draftBecomesFilter : Cond.code M_Application_draftBecomesFilter.1 M_Application_draftBecomesFilter.2.1 M_Application_draftBecomesFilter.2.2.1 M_Application_draftBecomesFilter.2.2.2 ∈ px_tbl := px_in 463 (by decide +kernel) rfl
theorem i_Application_draftBecomesFilter : Cond.initialized M_Application_draftBecomesFilter.1.cls ∈ px_tbl := px_in 7 (by decide +kernel) rfl
theorem j_Application_draftBecomesFilter : Cond.instanceMethod M_Application_draftBecomesFilter.1 ∈ px_tbl := px_in 461 (by decide +kernel) rfl
theorem v_Application_draftBecomesFilter : Cond.selects M_Application_draftBecomesFilter.1.cls M_Application_draftBecomesFilter.1 M_Application_draftBecomesFilter.1 ∈ px_tbl := px_in 462 (by decide +kernel) rfl
theorem k_K_push : Cond.code M_K_push.1 M_K_push.2.1 M_K_push.2.2.1 M_K_push.2.2.2 ∈ px_tbl := px_in 467 (by decide +kernel) rfl
theorem i_K_push : Cond.initialized M_K_push.1.cls ∈ px_tbl := px_in 1 (by decide +kernel) rfl
theorem j_K_push : Cond.instanceMethod M_K_push.1 ∈ px_tbl := px_in 465 (by decide +kernel) rfl
theorem v_K_push : Cond.selects M_K_push.1.cls M_K_push.1 M_K_push.1 ∈ px_tbl := px_in 466 (by decide +kernel) rfl
theorem k_Frame_isFull : Cond.code M_Frame_isFull.1 M_Frame_isFull.2.1 M_Frame_isFull.2.2.1 M_Frame_isFull.2.2.2 ∈ px_tbl := px_in 471 (by decide +kernel) rfl
theorem i_Frame_isFull : Cond.initialized M_Frame_isFull.1.cls ∈ px_tbl := px_in 6 (by decide +kernel) rfl
theorem j_Frame_isFull : Cond.instanceMethod M_Frame_isFull.1 ∈ px_tbl := px_in 469 (by decide +kernel) rfl
theorem v_Frame_isFull : Cond.selects M_Frame_isFull.1.cls M_Frame_isFull.1 M_Frame_isFull.1 ∈ px_tbl := px_in 470 (by decide +kernel) rfl
theorem k_Frame_append : Cond.code M_Frame_append.1 M_Frame_append.2.1 M_Frame_append.2.2.1 M_Frame_append.2.2.2 ∈ px_tbl := px_in 475 (by decide +kernel) rfl
theorem i_Frame_append : Cond.initialized M_Frame_append.1.cls ∈ px_tbl := px_in 6 (by decide +kernel) rfl
theorem j_Frame_append : Cond.instanceMethod M_Frame_append.1 ∈ px_tbl := px_in 473 (by decide +kernel) rfl
theorem v_Frame_append : Cond.selects M_Frame_append.1.cls M_Frame_append.1 M_Frame_append.1 ∈ px_tbl := px_in 474 (by decide +kernel) rfl
theorem k_K_arrive : Cond.code M_K_arrive.1 M_K_arrive.2.1 M_K_arrive.2.2.1 M_K_arrive.2.2.2 ∈ px_tbl := px_in 479 (by decide +kernel) rfl
theorem i_K_arrive : Cond.initialized M_K_arrive.1.cls ∈ px_tbl := px_in 1 (by decide +kernel) rfl
theorem j_K_arrive : Cond.instanceMethod M_K_arrive.1 ∈ px_tbl := px_in 477 (by decide +kernel) rfl
theorem v_K_arrive : Cond.selects M_K_arrive.1.cls M_K_arrive.1 M_K_arrive.1 ∈ px_tbl := px_in 478 (by decide +kernel) rfl
theorem k_K_firstAccepting : Cond.code M_K_firstAccepting.1 M_K_firstAccepting.2.1 M_K_firstAccepting.2.2.1 M_K_firstAccepting.2.2.2 ∈ px_tbl := px_in 483 (by decide +kernel) rfl
theorem i_K_firstAccepting : Cond.initialized M_K_firstAccepting.1.cls ∈ px_tbl := px_in 1 (by decide +kernel) rfl
theorem j_K_firstAccepting : Cond.instanceMethod M_K_firstAccepting.1 ∈ px_tbl := px_in 482 (by decide +kernel) rfl
theorem v_K_firstAccepting : Cond.selects M_K_firstAccepting.1.cls M_K_firstAccepting.1 M_K_firstAccepting.1 ∈ px_tbl := px_inp 3 (by decide +kernel) rfl
theorem k_FilterOrder_appAt : Cond.code M_FilterOrder_appAt.1 M_FilterOrder_appAt.2.1 M_FilterOrder_appAt.2.2.1 M_FilterOrder_appAt.2.2.2 ∈ px_tbl := px_in 487 (by decide +kernel) rfl
theorem i_FilterOrder_appAt : Cond.initialized M_FilterOrder_appAt.1.cls ∈ px_tbl := px_in 5 (by decide +kernel) rfl
theorem j_FilterOrder_appAt : Cond.instanceMethod M_FilterOrder_appAt.1 ∈ px_tbl := px_in 485 (by decide +kernel) rfl
theorem v_FilterOrder_appAt : Cond.selects M_FilterOrder_appAt.1.cls M_FilterOrder_appAt.1 M_FilterOrder_appAt.1 ∈ px_tbl := px_in 486 (by decide +kernel) rfl
theorem k_Program_accepts : Cond.code M_Program_accepts.1 M_Program_accepts.2.1 M_Program_accepts.2.2.1 M_Program_accepts.2.2.2 ∈ px_tbl := px_in 491 (by decide +kernel) rfl
theorem i_Program_accepts : Cond.initialized M_Program_accepts.1.cls ∈ px_tbl := px_in 11 (by decide +kernel) rfl
theorem j_Program_accepts : Cond.instanceMethod M_Program_accepts.1 ∈ px_tbl := px_in 489 (by decide +kernel) rfl
theorem v_Program_accepts : Cond.selects M_Program_accepts.1.cls M_Program_accepts.1 M_Program_accepts.1 ∈ px_tbl := px_in 490 (by decide +kernel) rfl
theorem k_Frame_hasByte : Cond.code M_Frame_hasByte.1 M_Frame_hasByte.2.1 M_Frame_hasByte.2.2.1 M_Frame_hasByte.2.2.2 ∈ px_tbl := px_in 495 (by decide +kernel) rfl
theorem i_Frame_hasByte : Cond.initialized M_Frame_hasByte.1.cls ∈ px_tbl := px_in 6 (by decide +kernel) rfl
theorem j_Frame_hasByte : Cond.instanceMethod M_Frame_hasByte.1 ∈ px_tbl := px_in 493 (by decide +kernel) rfl
theorem v_Frame_hasByte : Cond.selects M_Frame_hasByte.1.cls M_Frame_hasByte.1 M_Frame_hasByte.1 ∈ px_tbl := px_in 494 (by decide +kernel) rfl
theorem k_Frame_byteAt : Cond.code M_Frame_byteAt.1 M_Frame_byteAt.2.1 M_Frame_byteAt.2.2.1 M_Frame_byteAt.2.2.2 ∈ px_tbl := px_in 499 (by decide +kernel) rfl
theorem i_Frame_byteAt : Cond.initialized M_Frame_byteAt.1.cls ∈ px_tbl := px_in 6 (by decide +kernel) rfl
theorem j_Frame_byteAt : Cond.instanceMethod M_Frame_byteAt.1 ∈ px_tbl := px_in 497 (by decide +kernel) rfl
theorem v_Frame_byteAt : Cond.selects M_Frame_byteAt.1.cls M_Frame_byteAt.1 M_Frame_byteAt.1 ∈ px_tbl := px_in 498 (by decide +kernel) rfl
theorem k_Program_reckon : Cond.code M_Program_reckon.1 M_Program_reckon.2.1 M_Program_reckon.2.2.1 M_Program_reckon.2.2.2 ∈ px_tbl := px_in 502 (by decide +kernel) rfl
theorem i_Program_reckon : Cond.initialized M_Program_reckon.1.cls ∈ px_tbl := px_in 11 (by decide +kernel) rfl
theorem s_Program_reckon : Cond.static M_Program_reckon.1 ∈ px_tbl := px_in 501 (by decide +kernel) rfl
theorem k_Program_holds : Cond.code M_Program_holds.1 M_Program_holds.2.1 M_Program_holds.2.2.1 M_Program_holds.2.2.2 ∈ px_tbl := px_in 505 (by decide +kernel) rfl
theorem i_Program_holds : Cond.initialized M_Program_holds.1.cls ∈ px_tbl := px_in 11 (by decide +kernel) rfl
theorem s_Program_holds : Cond.static M_Program_holds.1 ∈ px_tbl := px_in 504 (by decide +kernel) rfl
theorem k_K_deliver : Cond.code M_K_deliver.1 M_K_deliver.2.1 M_K_deliver.2.2.1 M_K_deliver.2.2.2 ∈ px_tbl := px_in 509 (by decide +kernel) rfl
theorem i_K_deliver : Cond.initialized M_K_deliver.1.cls ∈ px_tbl := px_in 1 (by decide +kernel) rfl
theorem j_K_deliver : Cond.instanceMethod M_K_deliver.1 ∈ px_tbl := px_in 508 (by decide +kernel) rfl
theorem v_K_deliver : Cond.selects M_K_deliver.1.cls M_K_deliver.1 M_K_deliver.1 ∈ px_tbl := px_inp 4 (by decide +kernel) rfl
theorem k_FrameQueue_isFull : Cond.code M_FrameQueue_isFull.1 M_FrameQueue_isFull.2.1 M_FrameQueue_isFull.2.2.1 M_FrameQueue_isFull.2.2.2 ∈ px_tbl := px_in 513 (by decide +kernel) rfl
theorem i_FrameQueue_isFull : Cond.initialized M_FrameQueue_isFull.1.cls ∈ px_tbl := px_in 9 (by decide +kernel) rfl
theorem j_FrameQueue_isFull : Cond.instanceMethod M_FrameQueue_isFull.1 ∈ px_tbl := px_in 511 (by decide +kernel) rfl
theorem v_FrameQueue_isFull : Cond.selects M_FrameQueue_isFull.1.cls M_FrameQueue_isFull.1 M_FrameQueue_isFull.1 ∈ px_tbl := px_in 512 (by decide +kernel) rfl
theorem k_FrameQueue_append : Cond.code M_FrameQueue_append.1 M_FrameQueue_append.2.1 M_FrameQueue_append.2.2.1 M_FrameQueue_append.2.2.2 ∈ px_tbl := px_in 517 (by decide +kernel) rfl
theorem i_FrameQueue_append : Cond.initialized M_FrameQueue_append.1.cls ∈ px_tbl := px_in 9 (by decide +kernel) rfl
theorem j_FrameQueue_append : Cond.instanceMethod M_FrameQueue_append.1 ∈ px_tbl := px_in 515 (by decide +kernel) rfl
theorem v_FrameQueue_append : Cond.selects M_FrameQueue_append.1.cls M_FrameQueue_append.1 M_FrameQueue_append.1 ∈ px_tbl := px_in 516 (by decide +kernel) rfl
theorem k_Frame_copyFrom : Cond.code M_Frame_copyFrom.1 M_Frame_copyFrom.2.1 M_Frame_copyFrom.2.2.1 M_Frame_copyFrom.2.2.2 ∈ px_tbl := px_in 521 (by decide +kernel) rfl
theorem i_Frame_copyFrom : Cond.initialized M_Frame_copyFrom.1.cls ∈ px_tbl := px_in 6 (by decide +kernel) rfl
theorem j_Frame_copyFrom : Cond.instanceMethod M_Frame_copyFrom.1 ∈ px_tbl := px_in 519 (by decide +kernel) rfl
theorem v_Frame_copyFrom : Cond.selects M_Frame_copyFrom.1.cls M_Frame_copyFrom.1 M_Frame_copyFrom.1 ∈ px_tbl := px_in 520 (by decide +kernel) rfl
theorem k_Frame_clear : Cond.code M_Frame_clear.1 M_Frame_clear.2.1 M_Frame_clear.2.2.1 M_Frame_clear.2.2.2 ∈ px_tbl := px_in 528 (by decide +kernel) rfl
theorem i_Frame_clear : Cond.initialized M_Frame_clear.1.cls ∈ px_tbl := px_in 6 (by decide +kernel) rfl
theorem j_Frame_clear : Cond.instanceMethod M_Frame_clear.1 ∈ px_tbl := px_in 526 (by decide +kernel) rfl
theorem v_Frame_clear : Cond.selects M_Frame_clear.1.cls M_Frame_clear.1 M_Frame_clear.1 ∈ px_tbl := px_in 527 (by decide +kernel) rfl
theorem k_K_got : Cond.code M_K_got.1 M_K_got.2.1 M_K_got.2.2.1 M_K_got.2.2.2 ∈ px_tbl := px_in 532 (by decide +kernel) rfl
theorem i_K_got : Cond.initialized M_K_got.1.cls ∈ px_tbl := px_in 1 (by decide +kernel) rfl
theorem j_K_got : Cond.instanceMethod M_K_got.1 ∈ px_tbl := px_in 530 (by decide +kernel) rfl
theorem v_K_got : Cond.selects M_K_got.1.cls M_K_got.1 M_K_got.1 ∈ px_tbl := px_in 531 (by decide +kernel) rfl
theorem k_FrameQueue_oldest : Cond.code M_FrameQueue_oldest.1 M_FrameQueue_oldest.2.1 M_FrameQueue_oldest.2.2.1 M_FrameQueue_oldest.2.2.2 ∈ px_tbl := px_in 536 (by decide +kernel) rfl
theorem i_FrameQueue_oldest : Cond.initialized M_FrameQueue_oldest.1.cls ∈ px_tbl := px_in 9 (by decide +kernel) rfl
theorem j_FrameQueue_oldest : Cond.instanceMethod M_FrameQueue_oldest.1 ∈ px_tbl := px_in 534 (by decide +kernel) rfl
theorem v_FrameQueue_oldest : Cond.selects M_FrameQueue_oldest.1.cls M_FrameQueue_oldest.1 M_FrameQueue_oldest.1 ∈ px_tbl := px_in 535 (by decide +kernel) rfl
theorem k_K_next : Cond.code M_K_next.1 M_K_next.2.1 M_K_next.2.2.1 M_K_next.2.2.2 ∈ px_tbl := px_in 542 (by decide +kernel) rfl
theorem i_K_next : Cond.initialized M_K_next.1.cls ∈ px_tbl := px_in 1 (by decide +kernel) rfl
theorem j_K_next : Cond.instanceMethod M_K_next.1 ∈ px_tbl := px_in 540 (by decide +kernel) rfl
theorem v_K_next : Cond.selects M_K_next.1.cls M_K_next.1 M_K_next.1 ∈ px_tbl := px_in 541 (by decide +kernel) rfl
theorem k_FrameQueue_dropOldest : Cond.code M_FrameQueue_dropOldest.1 M_FrameQueue_dropOldest.2.1 M_FrameQueue_dropOldest.2.2.1 M_FrameQueue_dropOldest.2.2.2 ∈ px_tbl := px_in 546 (by decide +kernel) rfl
theorem i_FrameQueue_dropOldest : Cond.initialized M_FrameQueue_dropOldest.1.cls ∈ px_tbl := px_in 9 (by decide +kernel) rfl
theorem j_FrameQueue_dropOldest : Cond.instanceMethod M_FrameQueue_dropOldest.1 ∈ px_tbl := px_in 544 (by decide +kernel) rfl
theorem v_FrameQueue_dropOldest : Cond.selects M_FrameQueue_dropOldest.1.cls M_FrameQueue_dropOldest.1 M_FrameQueue_dropOldest.1 ∈ px_tbl := px_in 545 (by decide +kernel) rfl
theorem k_K_write : Cond.code M_K_write.1 M_K_write.2.1 M_K_write.2.2.1 M_K_write.2.2.2 ∈ px_tbl := px_in 550 (by decide +kernel) rfl
theorem i_K_write : Cond.initialized M_K_write.1.cls ∈ px_tbl := px_in 1 (by decide +kernel) rfl
theorem j_K_write : Cond.instanceMethod M_K_write.1 ∈ px_tbl := px_in 548 (by decide +kernel) rfl
theorem v_K_write : Cond.selects M_K_write.1.cls M_K_write.1 M_K_write.1 ∈ px_tbl := px_in 549 (by decide +kernel) rfl
theorem k_Disk_hasBlock : Cond.code M_Disk_hasBlock.1 M_Disk_hasBlock.2.1 M_Disk_hasBlock.2.2.1 M_Disk_hasBlock.2.2.2 ∈ px_tbl := px_in 554 (by decide +kernel) rfl
theorem i_Disk_hasBlock : Cond.initialized M_Disk_hasBlock.1.cls ∈ px_tbl := px_in 4 (by decide +kernel) rfl
theorem j_Disk_hasBlock : Cond.instanceMethod M_Disk_hasBlock.1 ∈ px_tbl := px_in 552 (by decide +kernel) rfl
theorem v_Disk_hasBlock : Cond.selects M_Disk_hasBlock.1.cls M_Disk_hasBlock.1 M_Disk_hasBlock.1 ∈ px_tbl := px_in 553 (by decide +kernel) rfl
theorem k_Disk_ownerOf : Cond.code M_Disk_ownerOf.1 M_Disk_ownerOf.2.1 M_Disk_ownerOf.2.2.1 M_Disk_ownerOf.2.2.2 ∈ px_tbl := px_in 558 (by decide +kernel) rfl
theorem i_Disk_ownerOf : Cond.initialized M_Disk_ownerOf.1.cls ∈ px_tbl := px_in 4 (by decide +kernel) rfl
theorem j_Disk_ownerOf : Cond.instanceMethod M_Disk_ownerOf.1 ∈ px_tbl := px_in 556 (by decide +kernel) rfl
theorem v_Disk_ownerOf : Cond.selects M_Disk_ownerOf.1.cls M_Disk_ownerOf.1 M_Disk_ownerOf.1 ∈ px_tbl := px_in 557 (by decide +kernel) rfl
theorem k_Application_isLink : Cond.code M_Application_isLink.1 M_Application_isLink.2.1 M_Application_isLink.2.2.1 M_Application_isLink.2.2.2 ∈ px_tbl := px_in 562 (by decide +kernel) rfl
theorem i_Application_isLink : Cond.initialized M_Application_isLink.1.cls ∈ px_tbl := px_in 7 (by decide +kernel) rfl
theorem j_Application_isLink : Cond.instanceMethod M_Application_isLink.1 ∈ px_tbl := px_in 560 (by decide +kernel) rfl
theorem v_Application_isLink : Cond.selects M_Application_isLink.1.cls M_Application_isLink.1 M_Application_isLink.1 ∈ px_tbl := px_in 561 (by decide +kernel) rfl
theorem k_K_relink : Cond.code M_K_relink.1 M_K_relink.2.1 M_K_relink.2.2.1 M_K_relink.2.2.2 ∈ px_tbl := px_in 566 (by decide +kernel) rfl
theorem i_K_relink : Cond.initialized M_K_relink.1.cls ∈ px_tbl := px_in 1 (by decide +kernel) rfl
theorem j_K_relink : Cond.instanceMethod M_K_relink.1 ∈ px_tbl := px_in 565 (by decide +kernel) rfl
theorem v_K_relink : Cond.selects M_K_relink.1.cls M_K_relink.1 M_K_relink.1 ∈ px_tbl := px_inp 5 (by decide +kernel) rfl
theorem k_Disk_wordOf : Cond.code M_Disk_wordOf.1 M_Disk_wordOf.2.1 M_Disk_wordOf.2.2.1 M_Disk_wordOf.2.2.2 ∈ px_tbl := px_in 570 (by decide +kernel) rfl
theorem i_Disk_wordOf : Cond.initialized M_Disk_wordOf.1.cls ∈ px_tbl := px_in 4 (by decide +kernel) rfl
theorem j_Disk_wordOf : Cond.instanceMethod M_Disk_wordOf.1 ∈ px_tbl := px_in 568 (by decide +kernel) rfl
theorem v_Disk_wordOf : Cond.selects M_Disk_wordOf.1.cls M_Disk_wordOf.1 M_Disk_wordOf.1 ∈ px_tbl := px_in 569 (by decide +kernel) rfl
theorem k_Disk_namesBlocks : Cond.code M_Disk_namesBlocks.1 M_Disk_namesBlocks.2.1 M_Disk_namesBlocks.2.2.1 M_Disk_namesBlocks.2.2.2 ∈ px_tbl := px_in 574 (by decide +kernel) rfl
theorem i_Disk_namesBlocks : Cond.initialized M_Disk_namesBlocks.1.cls ∈ px_tbl := px_in 4 (by decide +kernel) rfl
theorem j_Disk_namesBlocks : Cond.instanceMethod M_Disk_namesBlocks.1 ∈ px_tbl := px_in 572 (by decide +kernel) rfl
theorem v_Disk_namesBlocks : Cond.selects M_Disk_namesBlocks.1.cls M_Disk_namesBlocks.1 M_Disk_namesBlocks.1 ∈ px_tbl := px_in 573 (by decide +kernel) rfl
theorem k_K_put : Cond.code M_K_put.1 M_K_put.2.1 M_K_put.2.2.1 M_K_put.2.2.2 ∈ px_tbl := px_in 582 (by decide +kernel) rfl
theorem i_K_put : Cond.initialized M_K_put.1.cls ∈ px_tbl := px_in 1 (by decide +kernel) rfl
theorem j_K_put : Cond.instanceMethod M_K_put.1 ∈ px_tbl := px_in 580 (by decide +kernel) rfl
theorem v_K_put : Cond.selects M_K_put.1.cls M_K_put.1 M_K_put.1 ∈ px_tbl := px_in 581 (by decide +kernel) rfl
theorem k_EntryTable_placeOf : Cond.code M_EntryTable_placeOf.1 M_EntryTable_placeOf.2.1 M_EntryTable_placeOf.2.2.1 M_EntryTable_placeOf.2.2.2 ∈ px_tbl := px_in 586 (by decide +kernel) rfl
theorem i_EntryTable_placeOf : Cond.initialized M_EntryTable_placeOf.1.cls ∈ px_tbl := px_in 10 (by decide +kernel) rfl
theorem j_EntryTable_placeOf : Cond.instanceMethod M_EntryTable_placeOf.1 ∈ px_tbl := px_in 584 (by decide +kernel) rfl
theorem v_EntryTable_placeOf : Cond.selects M_EntryTable_placeOf.1.cls M_EntryTable_placeOf.1 M_EntryTable_placeOf.1 ∈ px_tbl := px_in 585 (by decide +kernel) rfl
theorem k_EntryTable_keyAt : Cond.code M_EntryTable_keyAt.1 M_EntryTable_keyAt.2.1 M_EntryTable_keyAt.2.2.1 M_EntryTable_keyAt.2.2.2 ∈ px_tbl := px_in 590 (by decide +kernel) rfl
theorem i_EntryTable_keyAt : Cond.initialized M_EntryTable_keyAt.1.cls ∈ px_tbl := px_in 10 (by decide +kernel) rfl
theorem j_EntryTable_keyAt : Cond.instanceMethod M_EntryTable_keyAt.1 ∈ px_tbl := px_in 588 (by decide +kernel) rfl
theorem v_EntryTable_keyAt : Cond.selects M_EntryTable_keyAt.1.cls M_EntryTable_keyAt.1 M_EntryTable_keyAt.1 ∈ px_tbl := px_in 589 (by decide +kernel) rfl
theorem k_EntryTable_blockOf : Cond.code M_EntryTable_blockOf.1 M_EntryTable_blockOf.2.1 M_EntryTable_blockOf.2.2.1 M_EntryTable_blockOf.2.2.2 ∈ px_tbl := px_in 594 (by decide +kernel) rfl
theorem i_EntryTable_blockOf : Cond.initialized M_EntryTable_blockOf.1.cls ∈ px_tbl := px_in 10 (by decide +kernel) rfl
theorem j_EntryTable_blockOf : Cond.instanceMethod M_EntryTable_blockOf.1 ∈ px_tbl := px_in 593 (by decide +kernel) rfl
theorem v_EntryTable_blockOf : Cond.selects M_EntryTable_blockOf.1.cls M_EntryTable_blockOf.1 M_EntryTable_blockOf.1 ∈ px_tbl := px_inp 6 (by decide +kernel) rfl
theorem k_EntryTable_keyWordOf : Cond.code M_EntryTable_keyWordOf.1 M_EntryTable_keyWordOf.2.1 M_EntryTable_keyWordOf.2.2.1 M_EntryTable_keyWordOf.2.2.2 ∈ px_tbl := px_in 597 (by decide +kernel) rfl
theorem i_EntryTable_keyWordOf : Cond.initialized M_EntryTable_keyWordOf.1.cls ∈ px_tbl := px_in 10 (by decide +kernel) rfl
theorem s_EntryTable_keyWordOf : Cond.static M_EntryTable_keyWordOf.1 ∈ px_tbl := px_in 596 (by decide +kernel) rfl
theorem k_EntryTable_append : Cond.code M_EntryTable_append.1 M_EntryTable_append.2.1 M_EntryTable_append.2.2.1 M_EntryTable_append.2.2.2 ∈ px_tbl := px_in 602 (by decide +kernel) rfl
theorem i_EntryTable_append : Cond.initialized M_EntryTable_append.1.cls ∈ px_tbl := px_in 10 (by decide +kernel) rfl
theorem j_EntryTable_append : Cond.instanceMethod M_EntryTable_append.1 ∈ px_tbl := px_in 600 (by decide +kernel) rfl
theorem v_EntryTable_append : Cond.selects M_EntryTable_append.1.cls M_EntryTable_append.1 M_EntryTable_append.1 ∈ px_tbl := px_in 601 (by decide +kernel) rfl
theorem k_EntryTable_setEntry : Cond.code M_EntryTable_setEntry.1 M_EntryTable_setEntry.2.1 M_EntryTable_setEntry.2.2.1 M_EntryTable_setEntry.2.2.2 ∈ px_tbl := px_in 608 (by decide +kernel) rfl
theorem i_EntryTable_setEntry : Cond.initialized M_EntryTable_setEntry.1.cls ∈ px_tbl := px_in 10 (by decide +kernel) rfl
theorem j_EntryTable_setEntry : Cond.instanceMethod M_EntryTable_setEntry.1 ∈ px_tbl := px_in 606 (by decide +kernel) rfl
theorem v_EntryTable_setEntry : Cond.selects M_EntryTable_setEntry.1.cls M_EntryTable_setEntry.1 M_EntryTable_setEntry.1 ∈ px_tbl := px_in 607 (by decide +kernel) rfl
theorem k_EntryTable_removeAt : Cond.code M_EntryTable_removeAt.1 M_EntryTable_removeAt.2.1 M_EntryTable_removeAt.2.2.1 M_EntryTable_removeAt.2.2.2 ∈ px_tbl := px_in 614 (by decide +kernel) rfl
theorem i_EntryTable_removeAt : Cond.initialized M_EntryTable_removeAt.1.cls ∈ px_tbl := px_in 10 (by decide +kernel) rfl
theorem j_EntryTable_removeAt : Cond.instanceMethod M_EntryTable_removeAt.1 ∈ px_tbl := px_in 612 (by decide +kernel) rfl
theorem v_EntryTable_removeAt : Cond.selects M_EntryTable_removeAt.1.cls M_EntryTable_removeAt.1 M_EntryTable_removeAt.1 ∈ px_tbl := px_in 613 (by decide +kernel) rfl
theorem k_EntryTable_valueAt : Cond.code M_EntryTable_valueAt.1 M_EntryTable_valueAt.2.1 M_EntryTable_valueAt.2.2.1 M_EntryTable_valueAt.2.2.2 ∈ px_tbl := px_in 618 (by decide +kernel) rfl
theorem i_EntryTable_valueAt : Cond.initialized M_EntryTable_valueAt.1.cls ∈ px_tbl := px_in 10 (by decide +kernel) rfl
theorem j_EntryTable_valueAt : Cond.instanceMethod M_EntryTable_valueAt.1 ∈ px_tbl := px_in 616 (by decide +kernel) rfl
theorem v_EntryTable_valueAt : Cond.selects M_EntryTable_valueAt.1.cls M_EntryTable_valueAt.1 M_EntryTable_valueAt.1 ∈ px_tbl := px_in 617 (by decide +kernel) rfl
theorem k_K_get : Cond.code M_K_get.1 M_K_get.2.1 M_K_get.2.2.1 M_K_get.2.2.2 ∈ px_tbl := px_in 623 (by decide +kernel) rfl
theorem i_K_get : Cond.initialized M_K_get.1.cls ∈ px_tbl := px_in 1 (by decide +kernel) rfl
theorem j_K_get : Cond.instanceMethod M_K_get.1 ∈ px_tbl := px_in 621 (by decide +kernel) rfl
theorem v_K_get : Cond.selects M_K_get.1.cls M_K_get.1 M_K_get.1 ∈ px_tbl := px_in 622 (by decide +kernel) rfl
theorem k_Math_floorDiv : Cond.code M_Math_floorDiv.1 M_Math_floorDiv.2.1 M_Math_floorDiv.2.2.1 M_Math_floorDiv.2.2.2 ∈ px_tbl := px_in 627 (by decide +kernel) rfl
theorem i_Math_floorDiv : Cond.initialized M_Math_floorDiv.1.cls ∈ px_tbl := px_in 3 (by decide +kernel) rfl
theorem s_Math_floorDiv : Cond.static M_Math_floorDiv.1 ∈ px_tbl := px_in 626 (by decide +kernel) rfl
theorem k_Math_floorMod : Cond.code M_Math_floorMod.1 M_Math_floorMod.2.1 M_Math_floorMod.2.2.1 M_Math_floorMod.2.2.2 ∈ px_tbl := px_in 630 (by decide +kernel) rfl
theorem i_Math_floorMod : Cond.initialized M_Math_floorMod.1.cls ∈ px_tbl := px_in 3 (by decide +kernel) rfl
theorem s_Math_floorMod : Cond.static M_Math_floorMod.1 ∈ px_tbl := px_in 629 (by decide +kernel) rfl
theorem k_K_holder : Cond.code M_K_holder.1 M_K_holder.2.1 M_K_holder.2.2.1 M_K_holder.2.2.2 ∈ px_tbl := px_in 634 (by decide +kernel) rfl
theorem i_K_holder : Cond.initialized M_K_holder.1.cls ∈ px_tbl := px_in 1 (by decide +kernel) rfl
theorem j_K_holder : Cond.instanceMethod M_K_holder.1 ∈ px_tbl := px_in 632 (by decide +kernel) rfl
theorem v_K_holder : Cond.selects M_K_holder.1.cls M_K_holder.1 M_K_holder.1 ∈ px_tbl := px_in 633 (by decide +kernel) rfl
theorem k_PageList_keeps : Cond.code M_PageList_keeps.1 M_PageList_keeps.2.1 M_PageList_keeps.2.2.1 M_PageList_keeps.2.2.2 ∈ px_tbl := px_in 638 (by decide +kernel) rfl
theorem i_PageList_keeps : Cond.initialized M_PageList_keeps.1.cls ∈ px_tbl := px_in 8 (by decide +kernel) rfl
theorem j_PageList_keeps : Cond.instanceMethod M_PageList_keeps.1 ∈ px_tbl := px_in 636 (by decide +kernel) rfl
theorem v_PageList_keeps : Cond.selects M_PageList_keeps.1.cls M_PageList_keeps.1 M_PageList_keeps.1 ∈ px_tbl := px_in 637 (by decide +kernel) rfl
theorem k_PageList_beforeLast : Cond.code M_PageList_beforeLast.1 M_PageList_beforeLast.2.1 M_PageList_beforeLast.2.2.1 M_PageList_beforeLast.2.2.2 ∈ px_tbl := px_in 642 (by decide +kernel) rfl
theorem i_PageList_beforeLast : Cond.initialized M_PageList_beforeLast.1.cls ∈ px_tbl := px_in 8 (by decide +kernel) rfl
theorem j_PageList_beforeLast : Cond.instanceMethod M_PageList_beforeLast.1 ∈ px_tbl := px_in 640 (by decide +kernel) rfl
theorem v_PageList_beforeLast : Cond.selects M_PageList_beforeLast.1.cls M_PageList_beforeLast.1 M_PageList_beforeLast.1 ∈ px_tbl := px_in 641 (by decide +kernel) rfl
theorem k_K_count : Cond.code M_K_count.1 M_K_count.2.1 M_K_count.2.2.1 M_K_count.2.2.2 ∈ px_tbl := px_in 646 (by decide +kernel) rfl
theorem i_K_count : Cond.initialized M_K_count.1.cls ∈ px_tbl := px_in 1 (by decide +kernel) rfl
theorem j_K_count : Cond.instanceMethod M_K_count.1 ∈ px_tbl := px_in 644 (by decide +kernel) rfl
theorem v_K_count : Cond.selects M_K_count.1.cls M_K_count.1 M_K_count.1 ∈ px_tbl := px_in 645 (by decide +kernel) rfl
theorem k_Memory_pagesOf : Cond.code M_Memory_pagesOf.1 M_Memory_pagesOf.2.1 M_Memory_pagesOf.2.2.1 M_Memory_pagesOf.2.2.2 ∈ px_tbl := px_in 650 (by decide +kernel) rfl
theorem i_Memory_pagesOf : Cond.initialized M_Memory_pagesOf.1.cls ∈ px_tbl := px_in 2 (by decide +kernel) rfl
theorem j_Memory_pagesOf : Cond.instanceMethod M_Memory_pagesOf.1 ∈ px_tbl := px_in 648 (by decide +kernel) rfl
theorem v_Memory_pagesOf : Cond.selects M_Memory_pagesOf.1.cls M_Memory_pagesOf.1 M_Memory_pagesOf.1 ∈ px_tbl := px_in 649 (by decide +kernel) rfl
theorem k_Disk_blocksOf : Cond.code M_Disk_blocksOf.1 M_Disk_blocksOf.2.1 M_Disk_blocksOf.2.2.1 M_Disk_blocksOf.2.2.2 ∈ px_tbl := px_in 654 (by decide +kernel) rfl
theorem i_Disk_blocksOf : Cond.initialized M_Disk_blocksOf.1.cls ∈ px_tbl := px_in 4 (by decide +kernel) rfl
theorem j_Disk_blocksOf : Cond.instanceMethod M_Disk_blocksOf.1 ∈ px_tbl := px_in 652 (by decide +kernel) rfl
theorem v_Disk_blocksOf : Cond.selects M_Disk_blocksOf.1.cls M_Disk_blocksOf.1 M_Disk_blocksOf.1 ∈ px_tbl := px_in 653 (by decide +kernel) rfl
theorem k_K_countOf : Cond.code M_K_countOf.1 M_K_countOf.2.1 M_K_countOf.2.2.1 M_K_countOf.2.2.2 ∈ px_tbl := px_in 658 (by decide +kernel) rfl
theorem i_K_countOf : Cond.initialized M_K_countOf.1.cls ∈ px_tbl := px_in 1 (by decide +kernel) rfl
theorem j_K_countOf : Cond.instanceMethod M_K_countOf.1 ∈ px_tbl := px_in 657 (by decide +kernel) rfl
theorem v_K_countOf : Cond.selects M_K_countOf.1.cls M_K_countOf.1 M_K_countOf.1 ∈ px_tbl := px_inp 7 (by decide +kernel) rfl
theorem k_Memory_namedPagesOf : Cond.code M_Memory_namedPagesOf.1 M_Memory_namedPagesOf.2.1 M_Memory_namedPagesOf.2.2.1 M_Memory_namedPagesOf.2.2.2 ∈ px_tbl := px_in 662 (by decide +kernel) rfl
theorem i_Memory_namedPagesOf : Cond.initialized M_Memory_namedPagesOf.1.cls ∈ px_tbl := px_in 2 (by decide +kernel) rfl
theorem j_Memory_namedPagesOf : Cond.instanceMethod M_Memory_namedPagesOf.1 ∈ px_tbl := px_in 660 (by decide +kernel) rfl
theorem v_Memory_namedPagesOf : Cond.selects M_Memory_namedPagesOf.1.cls M_Memory_namedPagesOf.1 M_Memory_namedPagesOf.1 ∈ px_tbl := px_in 661 (by decide +kernel) rfl
theorem k_Law_cell : Cond.code M_Law_cell.1 M_Law_cell.2.1 M_Law_cell.2.2.1 M_Law_cell.2.2.2 ∈ px_tbl := px_in 666 (by decide +kernel) rfl
theorem i_Law_cell : Cond.initialized M_Law_cell.1.cls ∈ px_tbl := px_in 0 (by decide +kernel) rfl
theorem s_Law_cell : Cond.static M_Law_cell.1 ∈ px_tbl := px_in 665 (by decide +kernel) rfl
theorem k_Mo_init : Cond.code M_Mo_init.1 M_Mo_init.2.1 M_Mo_init.2.2.1 M_Mo_init.2.2.2 ∈ px_tbl := px_in 671 (by decide +kernel) rfl
theorem i_Mo_init : Cond.initialized M_Mo_init.1.cls ∈ px_tbl := px_in 12 (by decide +kernel) rfl
theorem j_Mo_init : Cond.instanceMethod M_Mo_init.1 ∈ px_tbl := px_in 670 (by decide +kernel) rfl
theorem k_Mo_open : Cond.code M_Mo_open.1 M_Mo_open.2.1 M_Mo_open.2.2.1 M_Mo_open.2.2.2 ∈ px_tbl := px_in 776 (by decide +kernel) rfl
theorem i_Mo_open : Cond.initialized M_Mo_open.1.cls ∈ px_tbl := px_in 12 (by decide +kernel) rfl
theorem j_Mo_open : Cond.instanceMethod M_Mo_open.1 ∈ px_tbl := px_in 774 (by decide +kernel) rfl
theorem v_Mo_open : Cond.selects M_Mo_open.1.cls M_Mo_open.1 M_Mo_open.1 ∈ px_tbl := px_in 775 (by decide +kernel) rfl
theorem k_Mo_out : Cond.code M_Mo_out.1 M_Mo_out.2.1 M_Mo_out.2.2.1 M_Mo_out.2.2.2 ∈ px_tbl := px_in 780 (by decide +kernel) rfl
theorem i_Mo_out : Cond.initialized M_Mo_out.1.cls ∈ px_tbl := px_in 12 (by decide +kernel) rfl
theorem j_Mo_out : Cond.instanceMethod M_Mo_out.1 ∈ px_tbl := px_in 779 (by decide +kernel) rfl
theorem v_Mo_out : Cond.selects M_Mo_out.1.cls M_Mo_out.1 M_Mo_out.1 ∈ px_tbl := px_inp 8 (by decide +kernel) rfl
theorem k_Mo_freeBlock : Cond.code M_Mo_freeBlock.1 M_Mo_freeBlock.2.1 M_Mo_freeBlock.2.2.1 M_Mo_freeBlock.2.2.2 ∈ px_tbl := px_in 784 (by decide +kernel) rfl
theorem i_Mo_freeBlock : Cond.initialized M_Mo_freeBlock.1.cls ∈ px_tbl := px_in 12 (by decide +kernel) rfl
theorem j_Mo_freeBlock : Cond.instanceMethod M_Mo_freeBlock.1 ∈ px_tbl := px_in 783 (by decide +kernel) rfl
theorem v_Mo_freeBlock : Cond.selects M_Mo_freeBlock.1.cls M_Mo_freeBlock.1 M_Mo_freeBlock.1 ∈ px_tbl := px_inp 9 (by decide +kernel) rfl
theorem k_Mo_renew : Cond.code M_Mo_renew.1 M_Mo_renew.2.1 M_Mo_renew.2.2.1 M_Mo_renew.2.2.2 ∈ px_tbl := px_in 788 (by decide +kernel) rfl
theorem i_Mo_renew : Cond.initialized M_Mo_renew.1.cls ∈ px_tbl := px_in 12 (by decide +kernel) rfl
theorem j_Mo_renew : Cond.instanceMethod M_Mo_renew.1 ∈ px_tbl := px_in 787 (by decide +kernel) rfl
theorem v_Mo_renew : Cond.selects M_Mo_renew.1.cls M_Mo_renew.1 M_Mo_renew.1 ∈ px_tbl := px_inp 10 (by decide +kernel) rfl
theorem k_Mo_isLink : Cond.code M_Mo_isLink.1 M_Mo_isLink.2.1 M_Mo_isLink.2.2.1 M_Mo_isLink.2.2.2 ∈ px_tbl := px_in 792 (by decide +kernel) rfl
theorem i_Mo_isLink : Cond.initialized M_Mo_isLink.1.cls ∈ px_tbl := px_in 12 (by decide +kernel) rfl
theorem j_Mo_isLink : Cond.instanceMethod M_Mo_isLink.1 ∈ px_tbl := px_in 791 (by decide +kernel) rfl
theorem v_Mo_isLink : Cond.selects M_Mo_isLink.1.cls M_Mo_isLink.1 M_Mo_isLink.1 ∈ px_tbl := px_inp 11 (by decide +kernel) rfl
theorem k_Mo_close : Cond.code M_Mo_close.1 M_Mo_close.2.1 M_Mo_close.2.2.1 M_Mo_close.2.2.2 ∈ px_tbl := px_in 796 (by decide +kernel) rfl
theorem i_Mo_close : Cond.initialized M_Mo_close.1.cls ∈ px_tbl := px_in 12 (by decide +kernel) rfl
theorem j_Mo_close : Cond.instanceMethod M_Mo_close.1 ∈ px_tbl := px_in 794 (by decide +kernel) rfl
theorem v_Mo_close : Cond.selects M_Mo_close.1.cls M_Mo_close.1 M_Mo_close.1 ∈ px_tbl := px_in 795 (by decide +kernel) rfl
theorem k_Mo_shut : Cond.code M_Mo_shut.1 M_Mo_shut.2.1 M_Mo_shut.2.2.1 M_Mo_shut.2.2.2 ∈ px_tbl := px_in 800 (by decide +kernel) rfl
theorem i_Mo_shut : Cond.initialized M_Mo_shut.1.cls ∈ px_tbl := px_in 12 (by decide +kernel) rfl
theorem j_Mo_shut : Cond.instanceMethod M_Mo_shut.1 ∈ px_tbl := px_in 799 (by decide +kernel) rfl
theorem v_Mo_shut : Cond.selects M_Mo_shut.1.cls M_Mo_shut.1 M_Mo_shut.1 ∈ px_tbl := px_inp 12 (by decide +kernel) rfl
theorem k_Mo_free : Cond.code M_Mo_free.1 M_Mo_free.2.1 M_Mo_free.2.2.1 M_Mo_free.2.2.2 ∈ px_tbl := px_in 804 (by decide +kernel) rfl
theorem i_Mo_free : Cond.initialized M_Mo_free.1.cls ∈ px_tbl := px_in 12 (by decide +kernel) rfl
theorem j_Mo_free : Cond.instanceMethod M_Mo_free.1 ∈ px_tbl := px_in 803 (by decide +kernel) rfl
theorem v_Mo_free : Cond.selects M_Mo_free.1.cls M_Mo_free.1 M_Mo_free.1 ∈ px_tbl := px_inp 13 (by decide +kernel) rfl
theorem k_Mo_withdraw : Cond.code M_Mo_withdraw.1 M_Mo_withdraw.2.1 M_Mo_withdraw.2.2.1 M_Mo_withdraw.2.2.2 ∈ px_tbl := px_in 808 (by decide +kernel) rfl
theorem i_Mo_withdraw : Cond.initialized M_Mo_withdraw.1.cls ∈ px_tbl := px_in 12 (by decide +kernel) rfl
theorem j_Mo_withdraw : Cond.instanceMethod M_Mo_withdraw.1 ∈ px_tbl := px_in 807 (by decide +kernel) rfl
theorem v_Mo_withdraw : Cond.selects M_Mo_withdraw.1.cls M_Mo_withdraw.1 M_Mo_withdraw.1 ∈ px_tbl := px_inp 14 (by decide +kernel) rfl
theorem k_Mo_take : Cond.code M_Mo_take.1 M_Mo_take.2.1 M_Mo_take.2.2.1 M_Mo_take.2.2.2 ∈ px_tbl := px_in 812 (by decide +kernel) rfl
theorem i_Mo_take : Cond.initialized M_Mo_take.1.cls ∈ px_tbl := px_in 12 (by decide +kernel) rfl
theorem j_Mo_take : Cond.instanceMethod M_Mo_take.1 ∈ px_tbl := px_in 810 (by decide +kernel) rfl
theorem v_Mo_take : Cond.selects M_Mo_take.1.cls M_Mo_take.1 M_Mo_take.1 ∈ px_tbl := px_in 811 (by decide +kernel) rfl
theorem k_Mo_release : Cond.code M_Mo_release.1 M_Mo_release.2.1 M_Mo_release.2.2.1 M_Mo_release.2.2.2 ∈ px_tbl := px_in 816 (by decide +kernel) rfl
theorem i_Mo_release : Cond.initialized M_Mo_release.1.cls ∈ px_tbl := px_in 12 (by decide +kernel) rfl
theorem j_Mo_release : Cond.instanceMethod M_Mo_release.1 ∈ px_tbl := px_in 814 (by decide +kernel) rfl
theorem v_Mo_release : Cond.selects M_Mo_release.1.cls M_Mo_release.1 M_Mo_release.1 ∈ px_tbl := px_in 815 (by decide +kernel) rfl
theorem k_Mo_share : Cond.code M_Mo_share.1 M_Mo_share.2.1 M_Mo_share.2.2.1 M_Mo_share.2.2.2 ∈ px_tbl := px_in 820 (by decide +kernel) rfl
theorem i_Mo_share : Cond.initialized M_Mo_share.1.cls ∈ px_tbl := px_in 12 (by decide +kernel) rfl
theorem j_Mo_share : Cond.instanceMethod M_Mo_share.1 ∈ px_tbl := px_in 818 (by decide +kernel) rfl
theorem v_Mo_share : Cond.selects M_Mo_share.1.cls M_Mo_share.1 M_Mo_share.1 ∈ px_tbl := px_in 819 (by decide +kernel) rfl
theorem k_Mo_store : Cond.code M_Mo_store.1 M_Mo_store.2.1 M_Mo_store.2.2.1 M_Mo_store.2.2.2 ∈ px_tbl := px_in 824 (by decide +kernel) rfl
theorem i_Mo_store : Cond.initialized M_Mo_store.1.cls ∈ px_tbl := px_in 12 (by decide +kernel) rfl
theorem j_Mo_store : Cond.instanceMethod M_Mo_store.1 ∈ px_tbl := px_in 822 (by decide +kernel) rfl
theorem v_Mo_store : Cond.selects M_Mo_store.1.cls M_Mo_store.1 M_Mo_store.1 ∈ px_tbl := px_in 823 (by decide +kernel) rfl
theorem k_Mo_fetch : Cond.code M_Mo_fetch.1 M_Mo_fetch.2.1 M_Mo_fetch.2.2.1 M_Mo_fetch.2.2.2 ∈ px_tbl := px_in 828 (by decide +kernel) rfl
theorem i_Mo_fetch : Cond.initialized M_Mo_fetch.1.cls ∈ px_tbl := px_in 12 (by decide +kernel) rfl
theorem j_Mo_fetch : Cond.instanceMethod M_Mo_fetch.1 ∈ px_tbl := px_in 826 (by decide +kernel) rfl
theorem v_Mo_fetch : Cond.selects M_Mo_fetch.1.cls M_Mo_fetch.1 M_Mo_fetch.1 ∈ px_tbl := px_in 827 (by decide +kernel) rfl
theorem k_Mo_revoke : Cond.code M_Mo_revoke.1 M_Mo_revoke.2.1 M_Mo_revoke.2.2.1 M_Mo_revoke.2.2.2 ∈ px_tbl := px_in 833 (by decide +kernel) rfl
theorem i_Mo_revoke : Cond.initialized M_Mo_revoke.1.cls ∈ px_tbl := px_in 12 (by decide +kernel) rfl
theorem j_Mo_revoke : Cond.instanceMethod M_Mo_revoke.1 ∈ px_tbl := px_in 831 (by decide +kernel) rfl
theorem v_Mo_revoke : Cond.selects M_Mo_revoke.1.cls M_Mo_revoke.1 M_Mo_revoke.1 ∈ px_tbl := px_in 832 (by decide +kernel) rfl
theorem k_Mo_tick : Cond.code M_Mo_tick.1 M_Mo_tick.2.1 M_Mo_tick.2.2.1 M_Mo_tick.2.2.2 ∈ px_tbl := px_in 837 (by decide +kernel) rfl
theorem i_Mo_tick : Cond.initialized M_Mo_tick.1.cls ∈ px_tbl := px_in 12 (by decide +kernel) rfl
theorem j_Mo_tick : Cond.instanceMethod M_Mo_tick.1 ∈ px_tbl := px_in 835 (by decide +kernel) rfl
theorem v_Mo_tick : Cond.selects M_Mo_tick.1.cls M_Mo_tick.1 M_Mo_tick.1 ∈ px_tbl := px_in 836 (by decide +kernel) rfl
theorem k_Mo_op : Cond.code M_Mo_op.1 M_Mo_op.2.1 M_Mo_op.2.2.1 M_Mo_op.2.2.2 ∈ px_tbl := px_in 841 (by decide +kernel) rfl
theorem i_Mo_op : Cond.initialized M_Mo_op.1.cls ∈ px_tbl := px_in 12 (by decide +kernel) rfl
theorem j_Mo_op : Cond.instanceMethod M_Mo_op.1 ∈ px_tbl := px_in 839 (by decide +kernel) rfl
theorem v_Mo_op : Cond.selects M_Mo_op.1.cls M_Mo_op.1 M_Mo_op.1 ∈ px_tbl := px_in 840 (by decide +kernel) rfl
theorem k_Mo_install : Cond.code M_Mo_install.1 M_Mo_install.2.1 M_Mo_install.2.2.1 M_Mo_install.2.2.2 ∈ px_tbl := px_in 845 (by decide +kernel) rfl
theorem i_Mo_install : Cond.initialized M_Mo_install.1.cls ∈ px_tbl := px_in 12 (by decide +kernel) rfl
theorem j_Mo_install : Cond.instanceMethod M_Mo_install.1 ∈ px_tbl := px_in 843 (by decide +kernel) rfl
theorem v_Mo_install : Cond.selects M_Mo_install.1.cls M_Mo_install.1 M_Mo_install.1 ∈ px_tbl := px_in 844 (by decide +kernel) rfl
theorem k_Mo_sound : Cond.code M_Mo_sound.1 M_Mo_sound.2.1 M_Mo_sound.2.2.1 M_Mo_sound.2.2.2 ∈ px_tbl := px_in 849 (by decide +kernel) rfl
theorem i_Mo_sound : Cond.initialized M_Mo_sound.1.cls ∈ px_tbl := px_in 12 (by decide +kernel) rfl
theorem j_Mo_sound : Cond.instanceMethod M_Mo_sound.1 ∈ px_tbl := px_in 848 (by decide +kernel) rfl
theorem v_Mo_sound : Cond.selects M_Mo_sound.1.cls M_Mo_sound.1 M_Mo_sound.1 ∈ px_tbl := px_inp 15 (by decide +kernel) rfl
theorem k_Mo_push : Cond.code M_Mo_push.1 M_Mo_push.2.1 M_Mo_push.2.2.1 M_Mo_push.2.2.2 ∈ px_tbl := px_in 853 (by decide +kernel) rfl
theorem i_Mo_push : Cond.initialized M_Mo_push.1.cls ∈ px_tbl := px_in 12 (by decide +kernel) rfl
theorem j_Mo_push : Cond.instanceMethod M_Mo_push.1 ∈ px_tbl := px_in 851 (by decide +kernel) rfl
theorem v_Mo_push : Cond.selects M_Mo_push.1.cls M_Mo_push.1 M_Mo_push.1 ∈ px_tbl := px_in 852 (by decide +kernel) rfl
theorem k_Mo_arrive : Cond.code M_Mo_arrive.1 M_Mo_arrive.2.1 M_Mo_arrive.2.2.1 M_Mo_arrive.2.2.2 ∈ px_tbl := px_in 857 (by decide +kernel) rfl
theorem i_Mo_arrive : Cond.initialized M_Mo_arrive.1.cls ∈ px_tbl := px_in 12 (by decide +kernel) rfl
theorem j_Mo_arrive : Cond.instanceMethod M_Mo_arrive.1 ∈ px_tbl := px_in 855 (by decide +kernel) rfl
theorem v_Mo_arrive : Cond.selects M_Mo_arrive.1.cls M_Mo_arrive.1 M_Mo_arrive.1 ∈ px_tbl := px_in 856 (by decide +kernel) rfl
theorem k_Mo_accepts : Cond.code M_Mo_accepts.1 M_Mo_accepts.2.1 M_Mo_accepts.2.2.1 M_Mo_accepts.2.2.2 ∈ px_tbl := px_in 861 (by decide +kernel) rfl
theorem i_Mo_accepts : Cond.initialized M_Mo_accepts.1.cls ∈ px_tbl := px_in 12 (by decide +kernel) rfl
theorem j_Mo_accepts : Cond.instanceMethod M_Mo_accepts.1 ∈ px_tbl := px_in 860 (by decide +kernel) rfl
theorem v_Mo_accepts : Cond.selects M_Mo_accepts.1.cls M_Mo_accepts.1 M_Mo_accepts.1 ∈ px_tbl := px_inp 16 (by decide +kernel) rfl
theorem k_Mo_plain : Cond.code M_Mo_plain.1 M_Mo_plain.2.1 M_Mo_plain.2.2.1 M_Mo_plain.2.2.2 ∈ px_tbl := px_in 865 (by decide +kernel) rfl
theorem i_Mo_plain : Cond.initialized M_Mo_plain.1.cls ∈ px_tbl := px_in 12 (by decide +kernel) rfl
theorem j_Mo_plain : Cond.instanceMethod M_Mo_plain.1 ∈ px_tbl := px_in 864 (by decide +kernel) rfl
theorem v_Mo_plain : Cond.selects M_Mo_plain.1.cls M_Mo_plain.1 M_Mo_plain.1 ∈ px_tbl := px_inp 17 (by decide +kernel) rfl
theorem k_Mo_got : Cond.code M_Mo_got.1 M_Mo_got.2.1 M_Mo_got.2.2.1 M_Mo_got.2.2.2 ∈ px_tbl := px_in 869 (by decide +kernel) rfl
theorem i_Mo_got : Cond.initialized M_Mo_got.1.cls ∈ px_tbl := px_in 12 (by decide +kernel) rfl
theorem j_Mo_got : Cond.instanceMethod M_Mo_got.1 ∈ px_tbl := px_in 867 (by decide +kernel) rfl
theorem v_Mo_got : Cond.selects M_Mo_got.1.cls M_Mo_got.1 M_Mo_got.1 ∈ px_tbl := px_in 868 (by decide +kernel) rfl
theorem k_Mo_next : Cond.code M_Mo_next.1 M_Mo_next.2.1 M_Mo_next.2.2.1 M_Mo_next.2.2.2 ∈ px_tbl := px_in 873 (by decide +kernel) rfl
theorem i_Mo_next : Cond.initialized M_Mo_next.1.cls ∈ px_tbl := px_in 12 (by decide +kernel) rfl
theorem j_Mo_next : Cond.instanceMethod M_Mo_next.1 ∈ px_tbl := px_in 871 (by decide +kernel) rfl
theorem v_Mo_next : Cond.selects M_Mo_next.1.cls M_Mo_next.1 M_Mo_next.1 ∈ px_tbl := px_in 872 (by decide +kernel) rfl
theorem k_Mo_write : Cond.code M_Mo_write.1 M_Mo_write.2.1 M_Mo_write.2.2.1 M_Mo_write.2.2.2 ∈ px_tbl := px_in 877 (by decide +kernel) rfl
theorem i_Mo_write : Cond.initialized M_Mo_write.1.cls ∈ px_tbl := px_in 12 (by decide +kernel) rfl
theorem j_Mo_write : Cond.instanceMethod M_Mo_write.1 ∈ px_tbl := px_in 875 (by decide +kernel) rfl
theorem v_Mo_write : Cond.selects M_Mo_write.1.cls M_Mo_write.1 M_Mo_write.1 ∈ px_tbl := px_in 876 (by decide +kernel) rfl
theorem k_Mo_hasLinks : Cond.code M_Mo_hasLinks.1 M_Mo_hasLinks.2.1 M_Mo_hasLinks.2.2.1 M_Mo_hasLinks.2.2.2 ∈ px_tbl := px_in 881 (by decide +kernel) rfl
theorem i_Mo_hasLinks : Cond.initialized M_Mo_hasLinks.1.cls ∈ px_tbl := px_in 12 (by decide +kernel) rfl
theorem j_Mo_hasLinks : Cond.instanceMethod M_Mo_hasLinks.1 ∈ px_tbl := px_in 880 (by decide +kernel) rfl
theorem v_Mo_hasLinks : Cond.selects M_Mo_hasLinks.1.cls M_Mo_hasLinks.1 M_Mo_hasLinks.1 ∈ px_tbl := px_inp 18 (by decide +kernel) rfl
theorem k_Mo_put : Cond.code M_Mo_put.1 M_Mo_put.2.1 M_Mo_put.2.2.1 M_Mo_put.2.2.2 ∈ px_tbl := px_in 885 (by decide +kernel) rfl
theorem i_Mo_put : Cond.initialized M_Mo_put.1.cls ∈ px_tbl := px_in 12 (by decide +kernel) rfl
theorem j_Mo_put : Cond.instanceMethod M_Mo_put.1 ∈ px_tbl := px_in 883 (by decide +kernel) rfl
theorem v_Mo_put : Cond.selects M_Mo_put.1.cls M_Mo_put.1 M_Mo_put.1 ∈ px_tbl := px_in 884 (by decide +kernel) rfl
theorem k_Mo_entryOf : Cond.code M_Mo_entryOf.1 M_Mo_entryOf.2.1 M_Mo_entryOf.2.2.1 M_Mo_entryOf.2.2.2 ∈ px_tbl := px_in 889 (by decide +kernel) rfl
theorem i_Mo_entryOf : Cond.initialized M_Mo_entryOf.1.cls ∈ px_tbl := px_in 12 (by decide +kernel) rfl
theorem j_Mo_entryOf : Cond.instanceMethod M_Mo_entryOf.1 ∈ px_tbl := px_in 888 (by decide +kernel) rfl
theorem v_Mo_entryOf : Cond.selects M_Mo_entryOf.1.cls M_Mo_entryOf.1 M_Mo_entryOf.1 ∈ px_tbl := px_inp 19 (by decide +kernel) rfl
theorem k_Mo_get : Cond.code M_Mo_get.1 M_Mo_get.2.1 M_Mo_get.2.2.1 M_Mo_get.2.2.2 ∈ px_tbl := px_in 893 (by decide +kernel) rfl
theorem i_Mo_get : Cond.initialized M_Mo_get.1.cls ∈ px_tbl := px_in 12 (by decide +kernel) rfl
theorem j_Mo_get : Cond.instanceMethod M_Mo_get.1 ∈ px_tbl := px_in 891 (by decide +kernel) rfl
theorem v_Mo_get : Cond.selects M_Mo_get.1.cls M_Mo_get.1 M_Mo_get.1 ∈ px_tbl := px_in 892 (by decide +kernel) rfl
theorem k_Mo_holder : Cond.code M_Mo_holder.1 M_Mo_holder.2.1 M_Mo_holder.2.2.1 M_Mo_holder.2.2.2 ∈ px_tbl := px_in 897 (by decide +kernel) rfl
theorem i_Mo_holder : Cond.initialized M_Mo_holder.1.cls ∈ px_tbl := px_in 12 (by decide +kernel) rfl
theorem j_Mo_holder : Cond.instanceMethod M_Mo_holder.1 ∈ px_tbl := px_in 895 (by decide +kernel) rfl
theorem v_Mo_holder : Cond.selects M_Mo_holder.1.cls M_Mo_holder.1 M_Mo_holder.1 ∈ px_tbl := px_in 896 (by decide +kernel) rfl
theorem k_Mo_count : Cond.code M_Mo_count.1 M_Mo_count.2.1 M_Mo_count.2.2.1 M_Mo_count.2.2.2 ∈ px_tbl := px_in 901 (by decide +kernel) rfl
theorem i_Mo_count : Cond.initialized M_Mo_count.1.cls ∈ px_tbl := px_in 12 (by decide +kernel) rfl
theorem j_Mo_count : Cond.instanceMethod M_Mo_count.1 ∈ px_tbl := px_in 899 (by decide +kernel) rfl
theorem v_Mo_count : Cond.selects M_Mo_count.1.cls M_Mo_count.1 M_Mo_count.1 ∈ px_tbl := px_in 900 (by decide +kernel) rfl
theorem k_Mo_pagesOf : Cond.code M_Mo_pagesOf.1 M_Mo_pagesOf.2.1 M_Mo_pagesOf.2.2.1 M_Mo_pagesOf.2.2.2 ∈ px_tbl := px_in 905 (by decide +kernel) rfl
theorem i_Mo_pagesOf : Cond.initialized M_Mo_pagesOf.1.cls ∈ px_tbl := px_in 12 (by decide +kernel) rfl
theorem j_Mo_pagesOf : Cond.instanceMethod M_Mo_pagesOf.1 ∈ px_tbl := px_in 904 (by decide +kernel) rfl
theorem v_Mo_pagesOf : Cond.selects M_Mo_pagesOf.1.cls M_Mo_pagesOf.1 M_Mo_pagesOf.1 ∈ px_tbl := px_inp 20 (by decide +kernel) rfl
theorem k_Mo_blocksOf : Cond.code M_Mo_blocksOf.1 M_Mo_blocksOf.2.1 M_Mo_blocksOf.2.2.1 M_Mo_blocksOf.2.2.2 ∈ px_tbl := px_in 909 (by decide +kernel) rfl
theorem i_Mo_blocksOf : Cond.initialized M_Mo_blocksOf.1.cls ∈ px_tbl := px_in 12 (by decide +kernel) rfl
theorem j_Mo_blocksOf : Cond.instanceMethod M_Mo_blocksOf.1 ∈ px_tbl := px_in 908 (by decide +kernel) rfl
theorem v_Mo_blocksOf : Cond.selects M_Mo_blocksOf.1.cls M_Mo_blocksOf.1 M_Mo_blocksOf.1 ∈ px_tbl := px_inp 21 (by decide +kernel) rfl
theorem m_Law_15 : pz_mo "BindingKernelLaw" 15 M_K_init 2 := ⟨Or.inl (px_in 16 (by decide +kernel) rfl), k_K_init, i_K_init, by decide +kernel, by decide +kernel, by decide⟩
theorem m_K_9 : pz_mo "BindingKernel" 9 M_K_clampSize 1 := ⟨Or.inl (px_in 24 (by decide +kernel) rfl), k_K_clampSize, i_K_clampSize, by decide +kernel, by decide +kernel, by decide⟩
theorem m_K_287 : pz_mo "BindingKernel" 287 M_Math_min 2 := ⟨Or.inl (px_in 27 (by decide +kernel) rfl), k_Math_min, i_Math_min, by decide +kernel, by decide +kernel, by decide⟩
theorem m_K_290 : pz_mo "BindingKernel" 290 M_Math_max 2 := ⟨Or.inl (px_in 30 (by decide +kernel) rfl), k_Math_max, i_Math_max, by decide +kernel, by decide +kernel, by decide⟩
theorem m_K_15 : pz_mo "BindingKernel" 15 M_Memory_init 1 := ⟨Or.inl (px_in 33 (by decide +kernel) rfl), k_Memory_init, i_Memory_init, by decide +kernel, by decide +kernel, by decide⟩
theorem m_K_24 : pz_mo "BindingKernel" 24 M_Disk_init 1 := ⟨Or.inl (px_in 70 (by decide +kernel) rfl), k_Disk_init, i_Disk_init, by decide +kernel, by decide +kernel, by decide⟩
theorem m_K_31 : pz_mo "BindingKernel" 31 M_FilterOrder_init 0 := ⟨Or.inl (px_in 86 (by decide +kernel) rfl), k_FilterOrder_init, i_FilterOrder_init, by decide +kernel, by decide +kernel, by decide⟩
theorem m_K_38 : pz_mo "BindingKernel" 38 M_Frame_init 0 := ⟨Or.inl (px_in 100 (by decide +kernel) rfl), k_Frame_init, i_Frame_init, by decide +kernel, by decide +kernel, by decide⟩
theorem m_K_53 : pz_mo "BindingKernel" 53 M_Application_init 0 := ⟨Or.inl (px_in 116 (by decide +kernel) rfl), k_Application_init, i_Application_init, by decide +kernel, by decide +kernel, by decide⟩
theorem m_Application_9 : pz_mo "BindingKernel$Application" 9 M_PageList_init 0 := ⟨Or.inl (px_in 122 (by decide +kernel) rfl), k_PageList_init, i_PageList_init, by decide +kernel, by decide +kernel, by decide⟩
theorem m_Application_18 : pz_mo "BindingKernel$Application" 18 M_FrameQueue_init 0 := ⟨Or.inl (px_in 138 (by decide +kernel) rfl), k_FrameQueue_init, i_FrameQueue_init, by decide +kernel, by decide +kernel, by decide⟩
theorem m_FrameQueue_22 : pz_mo "BindingKernel$FrameQueue" 22 M_Frame_init 0 := ⟨Or.inl (px_in 144 (by decide +kernel) rfl), k_Frame_init, i_Frame_init, by decide +kernel, by decide +kernel, by decide⟩
theorem m_Application_25 : pz_mo "BindingKernel$Application" 25 M_EntryTable_init 0 := ⟨Or.inl (px_in 158 (by decide +kernel) rfl), k_EntryTable_init, i_EntryTable_init, by decide +kernel, by decide +kernel, by decide⟩
theorem m_Application_32 : pz_mo "BindingKernel$Application" 32 M_Program_init 0 := ⟨Or.inl (px_in 172 (by decide +kernel) rfl), k_Program_init, i_Program_init, by decide +kernel, by decide +kernel, by decide⟩
theorem m_Law_21 : pz_mo "BindingKernelLaw" 21 M_K_open 4 := ⟨Or.inl (px_in 249 (by decide +kernel) rfl), k_K_open, i_K_open, by decide +kernel, by decide +kernel, by decide⟩
theorem m_K_54 : pz_mo "BindingKernel" 54 M_K_isApp 1 := ⟨Or.inl (px_in 253 (by decide +kernel) rfl), k_K_isApp, i_K_isApp, by decide +kernel, by decide +kernel, by decide⟩
theorem m_K_108 : pz_mo "BindingKernel" 108 M_K_isIn 3 := ⟨Or.inl (px_in 256 (by decide +kernel) rfl), k_K_isIn, i_K_isIn, by decide +kernel, by decide +kernel, by decide⟩
theorem m_K_58 : pz_mo "BindingKernel" 58 M_K_isLayout 2 := ⟨Or.inl (px_in 259 (by decide +kernel) rfl), k_K_isLayout, i_K_isLayout, by decide +kernel, by decide +kernel, by decide⟩
theorem m_K_66 : pz_mo "BindingKernel" 66 M_Disk_leastFree 0 := ⟨Or.inl (px_in 262 (by decide +kernel) rfl), k_Disk_leastFree, i_Disk_leastFree, by decide +kernel, by decide +kernel, by decide⟩
theorem m_Disk_22 : pz_mo "BindingKernel$Disk" 22 M_Disk_isFree 1 := ⟨Or.inl (px_in 266 (by decide +kernel) rfl), k_Disk_isFree, i_Disk_isFree, by decide +kernel, by decide +kernel, by decide⟩
theorem m_K_70 : pz_mo "BindingKernel" 70 M_Application_begin 3 := ⟨Or.inl (px_in 270 (by decide +kernel) rfl), k_Application_begin, i_Application_begin, by decide +kernel, by decide +kernel, by decide⟩
theorem m_Application_54 : pz_mo "BindingKernel$Application" 54 M_PageList_clear 0 := ⟨Or.inl (px_in 274 (by decide +kernel) rfl), k_PageList_clear, i_PageList_clear, by decide +kernel, by decide +kernel, by decide⟩
theorem m_K_80 : pz_mo "BindingKernel" 80 M_Disk_bind 4 := ⟨Or.inl (px_in 278 (by decide +kernel) rfl), k_Disk_bind, i_Disk_bind, by decide +kernel, by decide +kernel, by decide⟩
theorem m_Disk_26 : pz_mo "BindingKernel$Disk" 26 M_Disk_setWord 3 := ⟨Or.inl (px_in 282 (by decide +kernel) rfl), k_Disk_setWord, i_Disk_setWord, by decide +kernel, by decide +kernel, by decide⟩
theorem m_Law_26 : pz_mo "BindingKernelLaw" 26 M_K_close 1 := ⟨Or.inl (px_in 286 (by decide +kernel) rfl), k_K_close, i_K_close, by decide +kernel, by decide +kernel, by decide⟩
theorem m_K_84 : pz_mo "BindingKernel" 84 M_K_isOpen 1 := ⟨Or.inl (px_in 290 (by decide +kernel) rfl), k_K_isOpen, i_K_isOpen, by decide +kernel, by decide +kernel, by decide⟩
theorem m_K_86 : pz_mo "BindingKernel" 86 M_Memory_forget 1 := ⟨Or.inl (px_in 294 (by decide +kernel) rfl), k_Memory_forget, i_Memory_forget, by decide +kernel, by decide +kernel, by decide⟩
theorem m_Memory_45 : pz_mo "BindingKernel$Memory" 45 M_Memory_setRight 3 := ⟨Or.inl (px_in 298 (by decide +kernel) rfl), k_Memory_setRight, i_Memory_setRight, by decide +kernel, by decide +kernel, by decide⟩
theorem m_Memory_48 : pz_mo "BindingKernel$Memory" 48 M_Memory_free 1 := ⟨Or.inl (px_in 302 (by decide +kernel) rfl), k_Memory_free, i_Memory_free, by decide +kernel, by decide +kernel, by decide⟩
theorem m_K_89 : pz_mo "BindingKernel" 89 M_Disk_freeAllOf 1 := ⟨Or.inl (px_in 306 (by decide +kernel) rfl), k_Disk_freeAllOf, i_Disk_freeAllOf, by decide +kernel, by decide +kernel, by decide⟩
theorem m_Disk_30 : pz_mo "BindingKernel$Disk" 30 M_Disk_free 1 := ⟨Or.inl (px_in 310 (by decide +kernel) rfl), k_Disk_free, i_Disk_free, by decide +kernel, by decide +kernel, by decide⟩
theorem m_K_92 : pz_mo "BindingKernel" 92 M_FilterOrder_drop 1 := ⟨Or.inl (px_in 314 (by decide +kernel) rfl), k_FilterOrder_drop, i_FilterOrder_drop, by decide +kernel, by decide +kernel, by decide⟩
theorem m_FilterOrder_19 : pz_mo "BindingKernel$FilterOrder" 19 M_FilterOrder_placeOf 1 := ⟨Or.inl (px_in 318 (by decide +kernel) rfl), k_FilterOrder_placeOf, i_FilterOrder_placeOf, by decide +kernel, by decide +kernel, by decide⟩
theorem m_K_95 : pz_mo "BindingKernel" 95 M_Application_end 0 := ⟨Or.inl (px_in 322 (by decide +kernel) rfl), k_Application_end, i_Application_end, by decide +kernel, by decide +kernel, by decide⟩
theorem m_Application_57 : pz_mo "BindingKernel$Application" 57 M_Program_clear 0 := ⟨Or.inl (px_in 326 (by decide +kernel) rfl), k_Program_clear, i_Program_clear, by decide +kernel, by decide +kernel, by decide⟩
theorem m_Application_58 : pz_mo "BindingKernel$Application" 58 M_FrameQueue_clear 0 := ⟨Or.inl (px_in 330 (by decide +kernel) rfl), k_FrameQueue_clear, i_FrameQueue_clear, by decide +kernel, by decide +kernel, by decide⟩
theorem m_Application_59 : pz_mo "BindingKernel$Application" 59 M_EntryTable_clear 0 := ⟨Or.inl (px_in 334 (by decide +kernel) rfl), k_EntryTable_clear, i_EntryTable_clear, by decide +kernel, by decide +kernel, by decide⟩
theorem m_Law_31 : pz_mo "BindingKernelLaw" 31 M_K_take 1 := ⟨Or.inl (px_in 338 (by decide +kernel) rfl), k_K_take, i_K_take, by decide +kernel, by decide +kernel, by decide⟩
theorem m_K_98 : pz_mo "BindingKernel" 98 M_Memory_leastFree 0 := ⟨Or.inl (px_in 342 (by decide +kernel) rfl), k_Memory_leastFree, i_Memory_leastFree, by decide +kernel, by decide +kernel, by decide⟩
theorem m_K_99 : pz_mo "BindingKernel" 99 M_Memory_bind 2 := ⟨Or.inl (px_in 346 (by decide +kernel) rfl), k_Memory_bind, i_Memory_bind, by decide +kernel, by decide +kernel, by decide⟩
theorem m_Memory_41 : pz_mo "BindingKernel$Memory" 41 M_Memory_setWord 3 := ⟨Or.inl (px_in 350 (by decide +kernel) rfl), k_Memory_setWord, i_Memory_setWord, by decide +kernel, by decide +kernel, by decide⟩
theorem m_Law_35 : pz_mo "BindingKernelLaw" 35 M_K_release 2 := ⟨Or.inl (px_in 354 (by decide +kernel) rfl), k_K_release, i_K_release, by decide +kernel, by decide +kernel, by decide⟩
theorem m_K_102 : pz_mo "BindingKernel" 102 M_K_owns 2 := ⟨Or.inl (px_in 358 (by decide +kernel) rfl), k_K_owns, i_K_owns, by decide +kernel, by decide +kernel, by decide⟩
theorem m_K_263 : pz_mo "BindingKernel" 263 M_Memory_hasPage 1 := ⟨Or.inl (px_in 362 (by decide +kernel) rfl), k_Memory_hasPage, i_Memory_hasPage, by decide +kernel, by decide +kernel, by decide⟩
theorem m_K_144 : pz_mo "BindingKernel" 144 M_Memory_ownerOf 1 := ⟨Or.inl (px_in 366 (by decide +kernel) rfl), k_Memory_ownerOf, i_Memory_ownerOf, by decide +kernel, by decide +kernel, by decide⟩
theorem m_K_105 : pz_mo "BindingKernel" 105 M_Memory_free 1 := ⟨Or.inl (px_in 370 (by decide +kernel) rfl), k_Memory_free, i_Memory_free, by decide +kernel, by decide +kernel, by decide⟩
theorem m_Law_40 : pz_mo "BindingKernelLaw" 40 M_K_share 4 := ⟨Or.inl (px_in 371 (by decide +kernel) rfl), k_K_share, i_K_share, by decide +kernel, by decide +kernel, by decide⟩
theorem m_K_112 : pz_mo "BindingKernel" 112 M_Memory_setRight 3 := ⟨Or.inl (px_in 375 (by decide +kernel) rfl), k_Memory_setRight, i_Memory_setRight, by decide +kernel, by decide +kernel, by decide⟩
theorem m_Law_45 : pz_mo "BindingKernelLaw" 45 M_K_store 4 := ⟨Or.inl (px_in 376 (by decide +kernel) rfl), k_K_store, i_K_store, by decide +kernel, by decide +kernel, by decide⟩
theorem m_K_116 : pz_mo "BindingKernel" 116 M_K_mayUse 4 := ⟨Or.inl (px_in 380 (by decide +kernel) rfl), k_K_mayUse, i_K_mayUse, by decide +kernel, by decide +kernel, by decide⟩
theorem m_K_293 : pz_mo "BindingKernel" 293 M_Memory_rightOf 2 := ⟨Or.inl (px_in 384 (by decide +kernel) rfl), k_Memory_rightOf, i_Memory_rightOf, by decide +kernel, by decide +kernel, by decide⟩
theorem m_K_120 : pz_mo "BindingKernel" 120 M_Memory_setWord 3 := ⟨Or.inl (px_in 388 (by decide +kernel) rfl), k_Memory_setWord, i_Memory_setWord, by decide +kernel, by decide +kernel, by decide⟩
theorem m_Law_49 : pz_mo "BindingKernelLaw" 49 M_K_fetch 3 := ⟨Or.inl (px_in 389 (by decide +kernel) rfl), k_K_fetch, i_K_fetch, by decide +kernel, by decide +kernel, by decide⟩
theorem m_K_125 : pz_mo "BindingKernel" 125 M_Memory_wordOf 2 := ⟨Or.inl (px_in 394 (by decide +kernel) rfl), k_Memory_wordOf, i_Memory_wordOf, by decide +kernel, by decide +kernel, by decide⟩
theorem m_Law_54 : pz_mo "BindingKernelLaw" 54 M_K_revoke 3 := ⟨Or.inl (px_in 398 (by decide +kernel) rfl), k_K_revoke, i_K_revoke, by decide +kernel, by decide +kernel, by decide⟩
theorem m_K_129 : pz_mo "BindingKernel" 129 M_Memory_pageToName 1 := ⟨Or.inl (px_in 402 (by decide +kernel) rfl), k_Memory_pageToName, i_Memory_pageToName, by decide +kernel, by decide +kernel, by decide⟩
theorem m_K_132 : pz_mo "BindingKernel" 132 M_Memory_nameAfter 2 := ⟨Or.inl (px_in 406 (by decide +kernel) rfl), k_Memory_nameAfter, i_Memory_nameAfter, by decide +kernel, by decide +kernel, by decide⟩
theorem m_Law_59 : pz_mo "BindingKernelLaw" 59 M_K_tick 1 := ⟨Or.inl (px_in 410 (by decide +kernel) rfl), k_K_tick, i_K_tick, by decide +kernel, by decide +kernel, by decide⟩
theorem m_K_135 : pz_mo "BindingKernel" 135 M_Memory_passTime 1 := ⟨Or.inl (px_in 414 (by decide +kernel) rfl), k_Memory_passTime, i_Memory_passTime, by decide +kernel, by decide +kernel, by decide⟩
theorem m_K_141 : pz_mo "BindingKernel" 141 M_Memory_firstDue 0 := ⟨Or.inl (px_in 418 (by decide +kernel) rfl), k_Memory_firstDue, i_Memory_firstDue, by decide +kernel, by decide +kernel, by decide⟩
theorem m_K_151 : pz_mo "BindingKernel" 151 M_PageList_append 1 := ⟨Or.inl (px_in 422 (by decide +kernel) rfl), k_PageList_append, i_PageList_append, by decide +kernel, by decide +kernel, by decide⟩
theorem m_PageList_20 : pz_mo "BindingKernel$PageList" 20 M_Math_min 2 := ⟨Or.inl (px_in 426 (by decide +kernel) rfl), k_Math_min, i_Math_min, by decide +kernel, by decide +kernel, by decide⟩
theorem m_Law_63 : pz_mo "BindingKernelLaw" 63 M_K_op 5 := ⟨Or.inl (px_in 427 (by decide +kernel) rfl), k_K_op, i_K_op, by decide +kernel, by decide +kernel, by decide⟩
theorem m_K_156 : pz_mo "BindingKernel" 156 M_Program_isInstruction 4 := ⟨Or.inl (px_in 431 (by decide +kernel) rfl), k_Program_isInstruction, i_Program_isInstruction, by decide +kernel, by decide +kernel, by decide⟩
theorem m_Program_32 : pz_mo "BindingKernel$Program" 32 M_Program_isTest 1 := ⟨Or.inl (px_in 435 (by decide +kernel) rfl), k_Program_isTest, i_Program_isTest, by decide +kernel, by decide +kernel, by decide⟩
theorem m_K_165 : pz_mo "BindingKernel" 165 M_Program_isFull 0 := ⟨Or.inl (px_in 438 (by decide +kernel) rfl), k_Program_isFull, i_Program_isFull, by decide +kernel, by decide +kernel, by decide⟩
theorem m_K_169 : pz_mo "BindingKernel" 169 M_Program_append 4 := ⟨Or.inl (px_in 442 (by decide +kernel) rfl), k_Program_append, i_Program_append, by decide +kernel, by decide +kernel, by decide⟩
theorem m_Law_68 : pz_mo "BindingKernelLaw" 68 M_K_install 1 := ⟨Or.inl (px_in 446 (by decide +kernel) rfl), k_K_install, i_K_install, by decide +kernel, by decide +kernel, by decide⟩
theorem m_K_174 : pz_mo "BindingKernel" 174 M_Program_isSound 0 := ⟨Or.inl (px_in 450 (by decide +kernel) rfl), k_Program_isSound, i_Program_isSound, by decide +kernel, by decide +kernel, by decide⟩
theorem m_Program_36 : pz_mo "BindingKernel$Program" 36 M_Math_max 2 := ⟨Or.inl (px_in 454 (by decide +kernel) rfl), k_Math_max, i_Math_max, by decide +kernel, by decide +kernel, by decide⟩
theorem m_K_177 : pz_mo "BindingKernel" 177 M_Program_clear 0 := ⟨Or.inl (px_in 455 (by decide +kernel) rfl), k_Program_clear, i_Program_clear, by decide +kernel, by decide +kernel, by decide⟩
theorem m_K_180 : pz_mo "BindingKernel" 180 M_FilterOrder_append 1 := ⟨Or.inl (px_in 456 (by decide +kernel) rfl), k_FilterOrder_append, i_FilterOrder_append, by decide +kernel, by decide +kernel, by decide⟩
theorem m_K_181 : pz_mo "BindingKernel" 181 M_Application_draftBecomesFilter 0 := ⟨Or.inl (px_in 460 (by decide +kernel) rfl), k_Application_draftBecomesFilter, i_Application_draftBecomesFilter, by decide +kernel, by decide +kernel, by decide⟩
theorem m_Law_72 : pz_mo "BindingKernelLaw" 72 M_K_push 1 := ⟨Or.inl (px_in 464 (by decide +kernel) rfl), k_K_push, i_K_push, by decide +kernel, by decide +kernel, by decide⟩
theorem m_K_184 : pz_mo "BindingKernel" 184 M_Frame_isFull 0 := ⟨Or.inl (px_in 468 (by decide +kernel) rfl), k_Frame_isFull, i_Frame_isFull, by decide +kernel, by decide +kernel, by decide⟩
theorem m_K_185 : pz_mo "BindingKernel" 185 M_Frame_append 1 := ⟨Or.inl (px_in 472 (by decide +kernel) rfl), k_Frame_append, i_Frame_append, by decide +kernel, by decide +kernel, by decide⟩
theorem m_Law_76 : pz_mo "BindingKernelLaw" 76 M_K_arrive 0 := ⟨Or.inl (px_in 476 (by decide +kernel) rfl), k_K_arrive, i_K_arrive, by decide +kernel, by decide +kernel, by decide⟩
theorem m_K_187 : pz_mo "BindingKernel" 187 M_K_firstAccepting 0 := ⟨Or.inl (px_in 480 (by decide +kernel) rfl), k_K_firstAccepting, i_K_firstAccepting, by decide +kernel, by decide +kernel, by decide⟩
theorem m_K_297 : pz_mo "BindingKernel" 297 M_FilterOrder_appAt 1 := ⟨Or.inl (px_in 484 (by decide +kernel) rfl), k_FilterOrder_appAt, i_FilterOrder_appAt, by decide +kernel, by decide +kernel, by decide⟩
theorem m_K_303 : pz_mo "BindingKernel" 303 M_Program_accepts 1 := ⟨Or.inl (px_in 488 (by decide +kernel) rfl), k_Program_accepts, i_Program_accepts, by decide +kernel, by decide +kernel, by decide⟩
theorem m_Program_42 : pz_mo "BindingKernel$Program" 42 M_Frame_hasByte 1 := ⟨Or.inl (px_in 492 (by decide +kernel) rfl), k_Frame_hasByte, i_Frame_hasByte, by decide +kernel, by decide +kernel, by decide⟩
theorem m_Program_48 : pz_mo "BindingKernel$Program" 48 M_Frame_byteAt 1 := ⟨Or.inl (px_in 496 (by decide +kernel) rfl), k_Frame_byteAt, i_Frame_byteAt, by decide +kernel, by decide +kernel, by decide⟩
theorem m_Program_53 : pz_mo "BindingKernel$Program" 53 M_Program_reckon 3 := ⟨Or.inl (px_in 500 (by decide +kernel) rfl), k_Program_reckon, i_Program_reckon, by decide +kernel, by decide +kernel, by decide⟩
theorem m_Program_57 : pz_mo "BindingKernel$Program" 57 M_Program_holds 3 := ⟨Or.inl (px_in 503 (by decide +kernel) rfl), k_Program_holds, i_Program_holds, by decide +kernel, by decide +kernel, by decide⟩
theorem m_K_190 : pz_mo "BindingKernel" 190 M_K_deliver 1 := ⟨Or.inl (px_in 506 (by decide +kernel) rfl), k_K_deliver, i_K_deliver, by decide +kernel, by decide +kernel, by decide⟩
theorem m_K_307 : pz_mo "BindingKernel" 307 M_FrameQueue_isFull 0 := ⟨Or.inl (px_in 510 (by decide +kernel) rfl), k_FrameQueue_isFull, i_FrameQueue_isFull, by decide +kernel, by decide +kernel, by decide⟩
theorem m_K_308 : pz_mo "BindingKernel" 308 M_FrameQueue_append 1 := ⟨Or.inl (px_in 514 (by decide +kernel) rfl), k_FrameQueue_append, i_FrameQueue_append, by decide +kernel, by decide +kernel, by decide⟩
theorem m_FrameQueue_23 : pz_mo "BindingKernel$FrameQueue" 23 M_Frame_copyFrom 1 := ⟨Or.inl (px_in 518 (by decide +kernel) rfl), k_Frame_copyFrom, i_Frame_copyFrom, by decide +kernel, by decide +kernel, by decide⟩
theorem m_K_193 : pz_mo "BindingKernel" 193 M_Frame_clear 0 := ⟨Or.inl (px_in 525 (by decide +kernel) rfl), k_Frame_clear, i_Frame_clear, by decide +kernel, by decide +kernel, by decide⟩
theorem m_Law_81 : pz_mo "BindingKernelLaw" 81 M_K_got 2 := ⟨Or.inl (px_in 529 (by decide +kernel) rfl), k_K_got, i_K_got, by decide +kernel, by decide +kernel, by decide⟩
theorem m_K_201 : pz_mo "BindingKernel" 201 M_FrameQueue_oldest 0 := ⟨Or.inl (px_in 533 (by decide +kernel) rfl), k_FrameQueue_oldest, i_FrameQueue_oldest, by decide +kernel, by decide +kernel, by decide⟩
theorem m_K_205 : pz_mo "BindingKernel" 205 M_Frame_hasByte 1 := ⟨Or.inl (px_in 537 (by decide +kernel) rfl), k_Frame_hasByte, i_Frame_hasByte, by decide +kernel, by decide +kernel, by decide⟩
theorem m_K_209 : pz_mo "BindingKernel" 209 M_Frame_byteAt 1 := ⟨Or.inl (px_in 538 (by decide +kernel) rfl), k_Frame_byteAt, i_Frame_byteAt, by decide +kernel, by decide +kernel, by decide⟩
theorem m_Law_85 : pz_mo "BindingKernelLaw" 85 M_K_next 1 := ⟨Or.inl (px_in 539 (by decide +kernel) rfl), k_K_next, i_K_next, by decide +kernel, by decide +kernel, by decide⟩
theorem m_K_212 : pz_mo "BindingKernel" 212 M_FrameQueue_dropOldest 0 := ⟨Or.inl (px_in 543 (by decide +kernel) rfl), k_FrameQueue_dropOldest, i_FrameQueue_dropOldest, by decide +kernel, by decide +kernel, by decide⟩
theorem m_Law_89 : pz_mo "BindingKernelLaw" 89 M_K_write 4 := ⟨Or.inl (px_in 547 (by decide +kernel) rfl), k_K_write, i_K_write, by decide +kernel, by decide +kernel, by decide⟩
theorem m_K_215 : pz_mo "BindingKernel" 215 M_Disk_hasBlock 1 := ⟨Or.inl (px_in 551 (by decide +kernel) rfl), k_Disk_hasBlock, i_Disk_hasBlock, by decide +kernel, by decide +kernel, by decide⟩
theorem m_K_221 : pz_mo "BindingKernel" 221 M_Disk_ownerOf 1 := ⟨Or.inl (px_in 555 (by decide +kernel) rfl), k_Disk_ownerOf, i_Disk_ownerOf, by decide +kernel, by decide +kernel, by decide⟩
theorem m_K_222 : pz_mo "BindingKernel" 222 M_Application_isLink 1 := ⟨Or.inl (px_in 559 (by decide +kernel) rfl), k_Application_isLink, i_Application_isLink, by decide +kernel, by decide +kernel, by decide⟩
theorem m_K_225 : pz_mo "BindingKernel" 225 M_K_relink 4 := ⟨Or.inl (px_in 563 (by decide +kernel) rfl), k_K_relink, i_K_relink, by decide +kernel, by decide +kernel, by decide⟩
theorem m_K_262 : pz_mo "BindingKernel" 262 M_Disk_wordOf 2 := ⟨Or.inl (px_in 567 (by decide +kernel) rfl), k_Disk_wordOf, i_Disk_wordOf, by decide +kernel, by decide +kernel, by decide⟩
theorem m_K_311 : pz_mo "BindingKernel" 311 M_Disk_namesBlocks 3 := ⟨Or.inl (px_in 571 (by decide +kernel) rfl), k_Disk_namesBlocks, i_Disk_namesBlocks, by decide +kernel, by decide +kernel, by decide⟩
theorem m_Disk_34 : pz_mo "BindingKernel$Disk" 34 M_Disk_wordOf 2 := ⟨Or.inl (px_in 575 (by decide +kernel) rfl), k_Disk_wordOf, i_Disk_wordOf, by decide +kernel, by decide +kernel, by decide⟩
theorem m_K_314 : pz_mo "BindingKernel" 314 M_Disk_isFree 1 := ⟨Or.inl (px_in 576 (by decide +kernel) rfl), k_Disk_isFree, i_Disk_isFree, by decide +kernel, by decide +kernel, by decide⟩
theorem m_K_317 : pz_mo "BindingKernel" 317 M_Disk_free 1 := ⟨Or.inl (px_in 577 (by decide +kernel) rfl), k_Disk_free, i_Disk_free, by decide +kernel, by decide +kernel, by decide⟩
theorem m_K_229 : pz_mo "BindingKernel" 229 M_Disk_setWord 3 := ⟨Or.inl (px_in 578 (by decide +kernel) rfl), k_Disk_setWord, i_Disk_setWord, by decide +kernel, by decide +kernel, by decide⟩
theorem m_Law_93 : pz_mo "BindingKernelLaw" 93 M_K_put 4 := ⟨Or.inl (px_in 579 (by decide +kernel) rfl), k_K_put, i_K_put, by decide +kernel, by decide +kernel, by decide⟩
theorem m_K_234 : pz_mo "BindingKernel" 234 M_EntryTable_placeOf 2 := ⟨Or.inl (px_in 583 (by decide +kernel) rfl), k_EntryTable_placeOf, i_EntryTable_placeOf, by decide +kernel, by decide +kernel, by decide⟩
theorem m_EntryTable_19 : pz_mo "BindingKernel$EntryTable" 19 M_EntryTable_keyAt 2 := ⟨Or.inl (px_in 587 (by decide +kernel) rfl), k_EntryTable_keyAt, i_EntryTable_keyAt, by decide +kernel, by decide +kernel, by decide⟩
theorem m_EntryTable_40 : pz_mo "BindingKernel$EntryTable" 40 M_EntryTable_blockOf 1 := ⟨Or.inl (px_in 591 (by decide +kernel) rfl), k_EntryTable_blockOf, i_EntryTable_blockOf, by decide +kernel, by decide +kernel, by decide⟩
theorem m_EntryTable_48 : pz_mo "BindingKernel$EntryTable" 48 M_EntryTable_keyWordOf 1 := ⟨Or.inl (px_in 595 (by decide +kernel) rfl), k_EntryTable_keyWordOf, i_EntryTable_keyWordOf, by decide +kernel, by decide +kernel, by decide⟩
theorem m_EntryTable_51 : pz_mo "BindingKernel$EntryTable" 51 M_Disk_wordOf 2 := ⟨Or.inl (px_in 598 (by decide +kernel) rfl), k_Disk_wordOf, i_Disk_wordOf, by decide +kernel, by decide +kernel, by decide⟩
theorem m_K_240 : pz_mo "BindingKernel" 240 M_EntryTable_append 4 := ⟨Or.inl (px_in 599 (by decide +kernel) rfl), k_EntryTable_append, i_EntryTable_append, by decide +kernel, by decide +kernel, by decide⟩
theorem m_EntryTable_23 : pz_mo "BindingKernel$EntryTable" 23 M_Disk_leastFree 0 := ⟨Or.inl (px_in 603 (by decide +kernel) rfl), k_Disk_leastFree, i_Disk_leastFree, by decide +kernel, by decide +kernel, by decide⟩
theorem m_EntryTable_29 : pz_mo "BindingKernel$EntryTable" 29 M_Disk_bind 4 := ⟨Or.inl (px_in 604 (by decide +kernel) rfl), k_Disk_bind, i_Disk_bind, by decide +kernel, by decide +kernel, by decide⟩
theorem m_EntryTable_33 : pz_mo "BindingKernel$EntryTable" 33 M_EntryTable_setEntry 4 := ⟨Or.inl (px_in 605 (by decide +kernel) rfl), k_EntryTable_setEntry, i_EntryTable_setEntry, by decide +kernel, by decide +kernel, by decide⟩
theorem m_EntryTable_55 : pz_mo "BindingKernel$EntryTable" 55 M_Disk_setWord 3 := ⟨Or.inl (px_in 609 (by decide +kernel) rfl), k_Disk_setWord, i_Disk_setWord, by decide +kernel, by decide +kernel, by decide⟩
theorem m_K_243 : pz_mo "BindingKernel" 243 M_EntryTable_setEntry 4 := ⟨Or.inl (px_in 610 (by decide +kernel) rfl), k_EntryTable_setEntry, i_EntryTable_setEntry, by decide +kernel, by decide +kernel, by decide⟩
theorem m_K_247 : pz_mo "BindingKernel" 247 M_EntryTable_removeAt 2 := ⟨Or.inl (px_in 611 (by decide +kernel) rfl), k_EntryTable_removeAt, i_EntryTable_removeAt, by decide +kernel, by decide +kernel, by decide⟩
theorem m_EntryTable_37 : pz_mo "BindingKernel$EntryTable" 37 M_EntryTable_valueAt 2 := ⟨Or.inl (px_in 615 (by decide +kernel) rfl), k_EntryTable_valueAt, i_EntryTable_valueAt, by decide +kernel, by decide +kernel, by decide⟩
theorem m_EntryTable_44 : pz_mo "BindingKernel$EntryTable" 44 M_Disk_free 1 := ⟨Or.inl (px_in 619 (by decide +kernel) rfl), k_Disk_free, i_Disk_free, by decide +kernel, by decide +kernel, by decide⟩
theorem m_Law_98 : pz_mo "BindingKernelLaw" 98 M_K_get 2 := ⟨Or.inl (px_in 620 (by decide +kernel) rfl), k_K_get, i_K_get, by decide +kernel, by decide +kernel, by decide⟩
theorem m_K_251 : pz_mo "BindingKernel" 251 M_EntryTable_valueAt 2 := ⟨Or.inl (px_in 624 (by decide +kernel) rfl), k_EntryTable_valueAt, i_EntryTable_valueAt, by decide +kernel, by decide +kernel, by decide⟩
theorem m_K_254 : pz_mo "BindingKernel" 254 M_Math_floorDiv 2 := ⟨Or.inl (px_in 625 (by decide +kernel) rfl), k_Math_floorDiv, i_Math_floorDiv, by decide +kernel, by decide +kernel, by decide⟩
theorem m_K_259 : pz_mo "BindingKernel" 259 M_Math_floorMod 2 := ⟨Or.inl (px_in 628 (by decide +kernel) rfl), k_Math_floorMod, i_Math_floorMod, by decide +kernel, by decide +kernel, by decide⟩
theorem m_Law_103 : pz_mo "BindingKernelLaw" 103 M_K_holder 2 := ⟨Or.inl (px_in 631 (by decide +kernel) rfl), k_K_holder, i_K_holder, by decide +kernel, by decide +kernel, by decide⟩
theorem m_K_266 : pz_mo "BindingKernel" 266 M_PageList_keeps 1 := ⟨Or.inl (px_in 635 (by decide +kernel) rfl), k_PageList_keeps, i_PageList_keeps, by decide +kernel, by decide +kernel, by decide⟩
theorem m_K_269 : pz_mo "BindingKernel" 269 M_PageList_beforeLast 1 := ⟨Or.inl (px_in 639 (by decide +kernel) rfl), k_PageList_beforeLast, i_PageList_beforeLast, by decide +kernel, by decide +kernel, by decide⟩
theorem m_Law_107 : pz_mo "BindingKernelLaw" 107 M_K_count 2 := ⟨Or.inl (px_in 643 (by decide +kernel) rfl), k_K_count, i_K_count, by decide +kernel, by decide +kernel, by decide⟩
theorem m_K_272 : pz_mo "BindingKernel" 272 M_Memory_pagesOf 1 := ⟨Or.inl (px_in 647 (by decide +kernel) rfl), k_Memory_pagesOf, i_Memory_pagesOf, by decide +kernel, by decide +kernel, by decide⟩
theorem m_K_275 : pz_mo "BindingKernel" 275 M_Disk_blocksOf 1 := ⟨Or.inl (px_in 651 (by decide +kernel) rfl), k_Disk_blocksOf, i_Disk_blocksOf, by decide +kernel, by decide +kernel, by decide⟩
theorem m_K_278 : pz_mo "BindingKernel" 278 M_K_countOf 2 := ⟨Or.inl (px_in 655 (by decide +kernel) rfl), k_K_countOf, i_K_countOf, by decide +kernel, by decide +kernel, by decide⟩
theorem m_K_281 : pz_mo "BindingKernel" 281 M_Memory_namedPagesOf 1 := ⟨Or.inl (px_in 659 (by decide +kernel) rfl), k_Memory_namedPagesOf, i_Memory_namedPagesOf, by decide +kernel, by decide +kernel, by decide⟩
theorem m_K_284 : pz_mo "BindingKernel" 284 M_FilterOrder_placeOf 1 := ⟨Or.inl (px_in 663 (by decide +kernel) rfl), k_FilterOrder_placeOf, i_FilterOrder_placeOf, by decide +kernel, by decide +kernel, by decide⟩
theorem m_Law_9 : pz_mo "BindingKernelLaw" 9 M_Law_cell 2 := ⟨Or.inl (px_in 664 (by decide +kernel) rfl), k_Law_cell, i_Law_cell, by decide +kernel, by decide +kernel, by decide⟩
theorem m_Law_20 : pz_mo "BindingKernelLaw" 20 M_Mo_init 2 := ⟨Or.inl (px_in 669 (by decide +kernel) rfl), k_Mo_init, i_Mo_init, by decide +kernel, by decide +kernel, by decide⟩
theorem m_Law_25 : pz_mo "BindingKernelLaw" 25 M_Mo_open 4 := ⟨Or.inl (px_in 773 (by decide +kernel) rfl), k_Mo_open, i_Mo_open, by decide +kernel, by decide +kernel, by decide⟩
theorem m_Mo_111 : pz_mo "BindingKernelModel" 111 M_Mo_out 2 := ⟨Or.inl (px_in 777 (by decide +kernel) rfl), k_Mo_out, i_Mo_out, by decide +kernel, by decide +kernel, by decide⟩
theorem m_Mo_118 : pz_mo "BindingKernelModel" 118 M_Mo_freeBlock 0 := ⟨Or.inl (px_in 781 (by decide +kernel) rfl), k_Mo_freeBlock, i_Mo_freeBlock, by decide +kernel, by decide +kernel, by decide⟩
theorem m_Mo_122 : pz_mo "BindingKernelModel" 122 M_Mo_renew 2 := ⟨Or.inl (px_in 785 (by decide +kernel) rfl), k_Mo_renew, i_Mo_renew, by decide +kernel, by decide +kernel, by decide⟩
theorem m_Mo_115 : pz_mo "BindingKernelModel" 115 M_Mo_isLink 2 := ⟨Or.inl (px_in 789 (by decide +kernel) rfl), k_Mo_isLink, i_Mo_isLink, by decide +kernel, by decide +kernel, by decide⟩
theorem m_Law_30 : pz_mo "BindingKernelLaw" 30 M_Mo_close 1 := ⟨Or.inl (px_in 793 (by decide +kernel) rfl), k_Mo_close, i_Mo_close, by decide +kernel, by decide +kernel, by decide⟩
theorem m_Mo_126 : pz_mo "BindingKernelModel" 126 M_Mo_shut 1 := ⟨Or.inl (px_in 797 (by decide +kernel) rfl), k_Mo_shut, i_Mo_shut, by decide +kernel, by decide +kernel, by decide⟩
theorem m_Mo_130 : pz_mo "BindingKernelModel" 130 M_Mo_free 1 := ⟨Or.inl (px_in 801 (by decide +kernel) rfl), k_Mo_free, i_Mo_free, by decide +kernel, by decide +kernel, by decide⟩
theorem m_Mo_134 : pz_mo "BindingKernelModel" 134 M_Mo_withdraw 1 := ⟨Or.inl (px_in 805 (by decide +kernel) rfl), k_Mo_withdraw, i_Mo_withdraw, by decide +kernel, by decide +kernel, by decide⟩
theorem m_Law_34 : pz_mo "BindingKernelLaw" 34 M_Mo_take 1 := ⟨Or.inl (px_in 809 (by decide +kernel) rfl), k_Mo_take, i_Mo_take, by decide +kernel, by decide +kernel, by decide⟩
theorem m_Law_39 : pz_mo "BindingKernelLaw" 39 M_Mo_release 2 := ⟨Or.inl (px_in 813 (by decide +kernel) rfl), k_Mo_release, i_Mo_release, by decide +kernel, by decide +kernel, by decide⟩
theorem m_Law_44 : pz_mo "BindingKernelLaw" 44 M_Mo_share 4 := ⟨Or.inl (px_in 817 (by decide +kernel) rfl), k_Mo_share, i_Mo_share, by decide +kernel, by decide +kernel, by decide⟩
theorem m_Law_48 : pz_mo "BindingKernelLaw" 48 M_Mo_store 4 := ⟨Or.inl (px_in 821 (by decide +kernel) rfl), k_Mo_store, i_Mo_store, by decide +kernel, by decide +kernel, by decide⟩
theorem m_Law_53 : pz_mo "BindingKernelLaw" 53 M_Mo_fetch 3 := ⟨Or.inl (px_in 825 (by decide +kernel) rfl), k_Mo_fetch, i_Mo_fetch, by decide +kernel, by decide +kernel, by decide⟩
theorem m_Law_58 : pz_mo "BindingKernelLaw" 58 M_Mo_revoke 3 := ⟨Or.inl (px_in 830 (by decide +kernel) rfl), k_Mo_revoke, i_Mo_revoke, by decide +kernel, by decide +kernel, by decide⟩
theorem m_Law_62 : pz_mo "BindingKernelLaw" 62 M_Mo_tick 1 := ⟨Or.inl (px_in 834 (by decide +kernel) rfl), k_Mo_tick, i_Mo_tick, by decide +kernel, by decide +kernel, by decide⟩
theorem m_Law_67 : pz_mo "BindingKernelLaw" 67 M_Mo_op 5 := ⟨Or.inl (px_in 838 (by decide +kernel) rfl), k_Mo_op, i_Mo_op, by decide +kernel, by decide +kernel, by decide⟩
theorem m_Law_71 : pz_mo "BindingKernelLaw" 71 M_Mo_install 1 := ⟨Or.inl (px_in 842 (by decide +kernel) rfl), k_Mo_install, i_Mo_install, by decide +kernel, by decide +kernel, by decide⟩
theorem m_Mo_139 : pz_mo "BindingKernelModel" 139 M_Mo_sound 1 := ⟨Or.inl (px_in 846 (by decide +kernel) rfl), k_Mo_sound, i_Mo_sound, by decide +kernel, by decide +kernel, by decide⟩
theorem m_Law_75 : pz_mo "BindingKernelLaw" 75 M_Mo_push 1 := ⟨Or.inl (px_in 850 (by decide +kernel) rfl), k_Mo_push, i_Mo_push, by decide +kernel, by decide +kernel, by decide⟩
theorem m_Law_80 : pz_mo "BindingKernelLaw" 80 M_Mo_arrive 0 := ⟨Or.inl (px_in 854 (by decide +kernel) rfl), k_Mo_arrive, i_Mo_arrive, by decide +kernel, by decide +kernel, by decide⟩
theorem m_Mo_145 : pz_mo "BindingKernelModel" 145 M_Mo_accepts 1 := ⟨Or.inl (px_in 858 (by decide +kernel) rfl), k_Mo_accepts, i_Mo_accepts, by decide +kernel, by decide +kernel, by decide⟩
theorem m_Mo_142 : pz_mo "BindingKernelModel" 142 M_Mo_plain 2 := ⟨Or.inl (px_in 862 (by decide +kernel) rfl), k_Mo_plain, i_Mo_plain, by decide +kernel, by decide +kernel, by decide⟩
theorem m_Law_84 : pz_mo "BindingKernelLaw" 84 M_Mo_got 2 := ⟨Or.inl (px_in 866 (by decide +kernel) rfl), k_Mo_got, i_Mo_got, by decide +kernel, by decide +kernel, by decide⟩
theorem m_Law_88 : pz_mo "BindingKernelLaw" 88 M_Mo_next 1 := ⟨Or.inl (px_in 870 (by decide +kernel) rfl), k_Mo_next, i_Mo_next, by decide +kernel, by decide +kernel, by decide⟩
theorem m_Law_92 : pz_mo "BindingKernelLaw" 92 M_Mo_write 4 := ⟨Or.inl (px_in 874 (by decide +kernel) rfl), k_Mo_write, i_Mo_write, by decide +kernel, by decide +kernel, by decide⟩
theorem m_Mo_148 : pz_mo "BindingKernelModel" 148 M_Mo_hasLinks 2 := ⟨Or.inl (px_in 878 (by decide +kernel) rfl), k_Mo_hasLinks, i_Mo_hasLinks, by decide +kernel, by decide +kernel, by decide⟩
theorem m_Law_97 : pz_mo "BindingKernelLaw" 97 M_Mo_put 4 := ⟨Or.inl (px_in 882 (by decide +kernel) rfl), k_Mo_put, i_Mo_put, by decide +kernel, by decide +kernel, by decide⟩
theorem m_Mo_151 : pz_mo "BindingKernelModel" 151 M_Mo_entryOf 2 := ⟨Or.inl (px_in 886 (by decide +kernel) rfl), k_Mo_entryOf, i_Mo_entryOf, by decide +kernel, by decide +kernel, by decide⟩
theorem m_Law_102 : pz_mo "BindingKernelLaw" 102 M_Mo_get 2 := ⟨Or.inl (px_in 890 (by decide +kernel) rfl), k_Mo_get, i_Mo_get, by decide +kernel, by decide +kernel, by decide⟩
theorem m_Law_106 : pz_mo "BindingKernelLaw" 106 M_Mo_holder 2 := ⟨Or.inl (px_in 894 (by decide +kernel) rfl), k_Mo_holder, i_Mo_holder, by decide +kernel, by decide +kernel, by decide⟩
theorem m_Law_110 : pz_mo "BindingKernelLaw" 110 M_Mo_count 2 := ⟨Or.inl (px_in 898 (by decide +kernel) rfl), k_Mo_count, i_Mo_count, by decide +kernel, by decide +kernel, by decide⟩
theorem m_Mo_155 : pz_mo "BindingKernelModel" 155 M_Mo_pagesOf 2 := ⟨Or.inl (px_in 902 (by decide +kernel) rfl), k_Mo_pagesOf, i_Mo_pagesOf, by decide +kernel, by decide +kernel, by decide⟩
theorem m_Mo_159 : pz_mo "BindingKernelModel" 159 M_Mo_blocksOf 1 := ⟨Or.inl (px_in 906 (by decide +kernel) rfl), k_Mo_blocksOf, i_Mo_blocksOf, by decide +kernel, by decide +kernel, by decide⟩
theorem m_Program_26 : pz_mo "BindingKernel$Program" 26 M_K_isIn 3 := ⟨Or.inr ⟨"BindingKernel", List.mem_of_getElem? (i := 16) rfl⟩, k_K_isIn, i_K_isIn, by decide +kernel, by decide +kernel, by decide⟩
theorem q_Law_7 : Cond.classLink "BindingKernelLaw" 7 "BindingKernel" ∈ px_tbl := px_in 14 (by decide +kernel) rfl
theorem n_Law_7 : pz_mk "BindingKernelLaw" 7 0 6 [.null, .null, .null, .null, .null, .int 0] := ⟨_, pT_0, pY_0, rfl, pI_0, pO_0, q_Law_7, px_in 15 (by decide +kernel) rfl, px_in 1 (by decide +kernel) rfl, by decide +kernel, fun _ _ => rfl⟩
theorem q_K_7 : Cond.classLink "BindingKernel" 7 "BindingKernel$Memory" ∈ px_tbl := px_in 22 (by decide +kernel) rfl
theorem n_K_7 : pz_mk "BindingKernel" 7 1 9 [.int 0, .null, .null, .null, .null, .null, .null, .int 0, .int 0] := ⟨_, pT_1, pY_1, rfl, pI_1, pO_1, q_K_7, px_in 23 (by decide +kernel) rfl, px_in 2 (by decide +kernel) rfl, by decide +kernel, fun _ _ => rfl⟩
theorem q_K_22 : Cond.classLink "BindingKernel" 22 "BindingKernel$Disk" ∈ px_tbl := px_in 68 (by decide +kernel) rfl
theorem n_K_22 : pz_mk "BindingKernel" 22 2 3 [.int 0, .null, .null] := ⟨_, pT_2, pY_2, rfl, pI_2, pO_2, q_K_22, px_in 69 (by decide +kernel) rfl, px_in 4 (by decide +kernel) rfl, by decide +kernel, fun _ _ => rfl⟩
theorem q_K_29 : Cond.classLink "BindingKernel" 29 "BindingKernel$FilterOrder" ∈ px_tbl := px_in 84 (by decide +kernel) rfl
theorem n_K_29 : pz_mk "BindingKernel" 29 3 2 [.null, .int 0] := ⟨_, pT_3, pY_3, rfl, pI_3, pO_3, q_K_29, px_in 85 (by decide +kernel) rfl, px_in 5 (by decide +kernel) rfl, by decide +kernel, fun _ _ => rfl⟩
theorem q_K_36 : Cond.classLink "BindingKernel" 36 "BindingKernel$Frame" ∈ px_tbl := px_in 98 (by decide +kernel) rfl
theorem n_K_36 : pz_mk "BindingKernel" 36 4 2 [.null, .int 0] := ⟨_, pT_4, pY_4, rfl, pI_4, pO_4, q_K_36, px_in 99 (by decide +kernel) rfl, px_in 6 (by decide +kernel) rfl, by decide +kernel, fun _ _ => rfl⟩
theorem q_K_47 : Cond.classLink "BindingKernel" 47 "BindingKernel$Application" ∈ px_tbl := px_in 113 (by decide +kernel) rfl
theorem n_K_47 : pz_mk "BindingKernel" 47 5 9 [.null, .null, .null, .null, .null, .int 0, .int 0, .int 0, .int 0] := ⟨_, pT_5, pY_5, rfl, pI_5, pO_5, q_K_47, px_in 115 (by decide +kernel) rfl, px_in 7 (by decide +kernel) rfl, by decide +kernel, fun _ _ => rfl⟩
theorem q_Application_7 : Cond.classLink "BindingKernel$Application" 7 "BindingKernel$PageList" ∈ px_tbl := px_in 120 (by decide +kernel) rfl
theorem n_Application_7 : pz_mk "BindingKernel$Application" 7 6 3 [.null, .int 0, .int 0] := ⟨_, pT_6, pY_6, rfl, pI_6, pO_6, q_Application_7, px_in 121 (by decide +kernel) rfl, px_in 8 (by decide +kernel) rfl, by decide +kernel, fun _ _ => rfl⟩
theorem q_Application_16 : Cond.classLink "BindingKernel$Application" 16 "BindingKernel$FrameQueue" ∈ px_tbl := px_in 136 (by decide +kernel) rfl
theorem n_Application_16 : pz_mk "BindingKernel$Application" 16 7 3 [.null, .int 0, .int 0] := ⟨_, pT_7, pY_7, rfl, pI_7, pO_7, q_Application_16, px_in 137 (by decide +kernel) rfl, px_in 9 (by decide +kernel) rfl, by decide +kernel, fun _ _ => rfl⟩
theorem q_FrameQueue_9 : Cond.classLink "BindingKernel$FrameQueue" 9 "BindingKernel$Frame" ∈ px_tbl := px_in 142 (by decide +kernel) rfl
theorem n_FrameQueue_9 : pz_mk "BindingKernel$FrameQueue" 9 4 2 [.null, .int 0] := ⟨_, pT_4, pY_4, rfl, pI_4, pO_4, q_FrameQueue_9, px_in 99 (by decide +kernel) rfl, px_in 6 (by decide +kernel) rfl, by decide +kernel, fun _ _ => rfl⟩
theorem q_Application_23 : Cond.classLink "BindingKernel$Application" 23 "BindingKernel$EntryTable" ∈ px_tbl := px_in 156 (by decide +kernel) rfl
theorem n_Application_23 : pz_mk "BindingKernel$Application" 23 8 2 [.null, .int 0] := ⟨_, pT_8, pY_8, rfl, pI_8, pO_8, q_Application_23, px_in 157 (by decide +kernel) rfl, px_in 10 (by decide +kernel) rfl, by decide +kernel, fun _ _ => rfl⟩
theorem q_Application_30 : Cond.classLink "BindingKernel$Application" 30 "BindingKernel$Program" ∈ px_tbl := px_in 170 (by decide +kernel) rfl
theorem n_Application_30 : pz_mk "BindingKernel$Application" 30 9 5 [.null, .null, .null, .null, .int 0] := ⟨_, pT_9, pY_9, rfl, pI_9, pO_9, q_Application_30, px_in 171 (by decide +kernel) rfl, px_in 11 (by decide +kernel) rfl, by decide +kernel, fun _ _ => rfl⟩
theorem q_Law_18 : Cond.classLink "BindingKernelLaw" 18 "BindingKernelModel" ∈ px_tbl := px_in 667 (by decide +kernel) rfl
theorem n_Law_18 : pz_mk "BindingKernelLaw" 18 10 33 [.int 0, .int 0, .null, .null, .null, .null, .int 0, .int 0, .int 0, .null, .null, .null, .null, .null, .null, .null, .null, .null, .null, .int 0, .int 0, .null, .null, .null, .null, .int 0, .int 0, .null, .null, .null, .null, .null, .null] := ⟨_, pT_10, pY_10, rfl, pI_10, pO_10, q_Law_18, px_in 668 (by decide +kernel) rfl, px_in 12 (by decide +kernel) rfl, by decide +kernel, fun _ _ => rfl⟩
theorem o_K_1 : Cond.methodLink "BindingKernel" 1 Lib.objectInit ∈ px_tbl := px_in 19 (by decide +kernel) rfl
theorem o_Memory_3 : Cond.methodLink "BindingKernel$Memory" 3 Lib.objectInit ∈ px_tbl := px_in 36 (by decide +kernel) rfl
theorem o_Disk_3 : Cond.methodLink "BindingKernel$Disk" 3 Lib.objectInit ∈ px_tbl := px_in 73 (by decide +kernel) rfl
theorem o_FilterOrder_3 : Cond.methodLink "BindingKernel$FilterOrder" 3 Lib.objectInit ∈ px_tbl := px_in 89 (by decide +kernel) rfl
theorem o_Frame_1 : Cond.methodLink "BindingKernel$Frame" 1 Lib.objectInit ∈ px_tbl := px_in 103 (by decide +kernel) rfl
theorem o_Application_1 : Cond.methodLink "BindingKernel$Application" 1 Lib.objectInit ∈ px_tbl := px_in 119 (by decide +kernel) rfl
theorem o_PageList_1 : Cond.methodLink "BindingKernel$PageList" 1 Lib.objectInit ∈ px_tbl := px_in 125 (by decide +kernel) rfl
theorem o_FrameQueue_1 : Cond.methodLink "BindingKernel$FrameQueue" 1 Lib.objectInit ∈ px_tbl := px_in 141 (by decide +kernel) rfl
theorem o_EntryTable_3 : Cond.methodLink "BindingKernel$EntryTable" 3 Lib.objectInit ∈ px_tbl := px_in 161 (by decide +kernel) rfl
theorem o_Program_1 : Cond.methodLink "BindingKernel$Program" 1 Lib.objectInit ∈ px_tbl := px_in 175 (by decide +kernel) rfl
theorem o_Mo_1 : Cond.methodLink "BindingKernelModel" 1 Lib.objectInit ∈ px_tbl := px_in 672 (by decide +kernel) rfl
theorem o_1 : Cond.instanceMethod Lib.objectInit ∈ px_tbl := px_in 20 (by decide +kernel) rfl
theorem o_2 : Cond.code Lib.objectInit ⟨#[0xb1]⟩ 1 none ∈ px_tbl := px_in 21 (by decide +kernel) rfl
theorem ac_int : Cond.arrayClass .int ∈ px_tbl := px_in 66 (by decide +kernel) rfl
theorem ac_boolean : Cond.arrayClass .boolean ∈ px_tbl := px_in 67 (by decide +kernel) rfl
theorem z_K_123 : Cond.constantLong "BindingKernel" 123 (1000000000000 : Int64) ∈ px_tbl := px_in 393 (by decide +kernel) rfl
theorem z_Mo_137 : Cond.constantLong "BindingKernelModel" 137 (1000000000000 : Int64) ∈ px_tbl := px_in 829 (by decide +kernel) rfl
end
section
/-! rules for numbers that are nI of a natural number -/
theorem nI_mul (a b : Nat) : nI a * nI b = nI (a * b) := (Int32.ofNat_mul a b).symm
theorem nI_sub {a b : Nat} (h : b ≤ a) : nI a - nI b = nI (a - b) := by
  have e : nI a = nI (a - b) + nI b := by rw [nI_add]; congr 1; omega
  rw [e, Int32.add_sub_cancel]
theorem nI_inj {a b : Nat} (ha : a < 2147483648) (hb : b < 2147483648) (h : nI a = nI b) : a = b := (nI_eq ha hb).mp h
theorem nI_div {a b : Nat} (ha : a < 2147483648) (hb : b < 2147483648) : nI a / nI b = nI (a / b) := by
  apply Int32.toInt_inj.mp
  have h1 : a / b < 2147483648 := Nat.lt_of_le_of_lt (Nat.div_le_self a b) ha
  rw [Int32.toInt_div, nI_toInt ha, nI_toInt hb, nI_toInt h1]
  have h2 : Int.tdiv (a : Int) (b : Int) = ((a / b : Nat) : Int) := by rw [Int.ofNat_tdiv]
  rw [h2]
  clear h2
  generalize a / b = q at h1 ⊢
  rw [Int.bmod_def]
  split <;> omega
theorem nI_rem {a b : Nat} (ha : a < 2147483648) (hb : b < 2147483648) : nI a - nI a / nI b * nI b = nI (a % b) := by
  rw [nI_div ha hb, nI_mul, nI_sub (Nat.div_mul_le_self a b)]
  congr 1
  have := Nat.div_add_mod a b
  rw [Nat.mul_comm] at this
  omega
theorem nI_m1 (a : Nat) : ¬ nI a = -1 ∨ ¬ a < 2147483648 := by
  by_cases h : a < 2147483648
  · left
    intro e
    have h1 := congrArg Int32.toInt e
    rw [nI_toInt h] at h1
    have h2 : (-1 : Int32).toInt = -1 := by decide
    omega
  · exact Or.inr h
theorem nI_nem1 {a : Nat} (h : a < 2147483648) : ¬ nI a = -1 := (nI_m1 a).resolve_right (fun q => q h)
/-- a Boolean answer -/
def pb (c : Bool) : Int32 := if c = true then 1 else 0
theorem pb_and (c : Bool) : pb c &&& 1 = pb c := by cases c <;> decide
theorem pb_0 {c : Bool} : pb c = 0 ↔ c = false := by cases c <;> decide
theorem pb_n0 {c : Bool} : ¬ pb c = 0 ↔ c = true := by cases c <;> decide
theorem pb_t : pb true = 1 := rfl
theorem pb_f : pb false = 0 := rfl
theorem pb_fit (c : Bool) : (pb c == 0 || pb c == 1) = true := by cases c <;> decide
theorem pb_nar (c : Bool) : vp_nar .boolean (pb c) = pb c := by cases c <;> decide
def updB (f : Nat → Bool) (k : Nat) (x : Bool) : Nat → Bool := fun j => if j = k then x else f j
theorem upb (f : Nat → Bool) (k : Nat) (x : Bool) : upd (fun j => pb (f j)) k (pb x) = fun j => pb (updB f k x j) := by
  funext j
  by_cases e : j = k <;> simp [upd, updB, e]
theorem updB_eq (f : Nat → Bool) (k : Nat) (x : Bool) : updB f k x k = x := by simp [updB]
theorem updB_ne {f : Nat → Bool} {k j : Nat} {x : Bool} (e : j ≠ k) : updB f k x j = f j := by simp [updB, e]
theorem pb_yes {C : Prop} {inst9 : Decidable C} (h : C) : some (Value.int (nI 1)) = some (Value.int (pb (@decide C inst9))) := by rw [decide_eq_true h]; rfl
theorem pb_no {C : Prop} {inst9 : Decidable C} (h : ¬ C) : some (Value.int (nI 0)) = some (Value.int (pb (@decide C inst9))) := by rw [decide_eq_false h]; rfl
/-- only the cells lo .. hi - 1 have changed -/
def frm (lo hi : Nat) (h h' : pz_H) : Prop := ∀ a, (a < lo ∨ hi ≤ a) → h' a = h a
theorem frm.rf {lo hi : Nat} {h : pz_H} : frm lo hi h h := fun _ _ => rfl
theorem frm.tr {lo hi : Nat} {h h1 h2 : pz_H} (a : frm lo hi h h1) (b : frm lo hi h1 h2) : frm lo hi h h2 := fun q hq => (b q hq).trans (a q hq)
theorem frm.pu {lo hi k : Nat} {h h1 : pz_H} {c : pz_C} (a : frm lo hi h h1) (h1' : lo ≤ k) (h2' : k < hi) : frm lo hi h (pu h1 k c) := fun q hq => (pu_ne (by omega)).trans (a q hq)
theorem frm.wd {lo hi lo' hi' : Nat} {h h' : pz_H} (a : frm lo hi h h') (h1 : lo' ≤ lo) (h2 : hi ≤ hi') : frm lo' hi' h h' := fun q hq => a q (by omega)
theorem pu_pu (h : pz_H) (k : Nat) (c c' : pz_C) : pu (pu h k c) k c' = pu h k c' := by
  funext j
  by_cases e : j = k
  · subst e; simp [pu]
  · simp [pu, e]
theorem upd_eq (f : Nat → Int32) (k : Nat) (x : Int32) : upd f k x k = x := by simp [upd]
theorem upd_ne {f : Nat → Int32} {k j : Nat} {x : Int32} (e : j ≠ k) : upd f k x j = f j := by simp [upd, e]
section PR
variable {l : Launch} {L : Nat} {xs : Nat → Int32} {M : pz_M} {d fc fs pc : Nat} {ls : List (Option Value)} {st : List Value} {h : pz_H} {z : Nat} {Q : pz_Q}
theorem pe_iaddN {a b : Nat} (hd : decode M.2.1 pc = .ok (.iadd, 1))  (kk : pz_E l L xs M d fc fs (pc + 1) ls (.int (nI (a + b)) :: st) h z Q) : pz_E l L xs M d fc fs pc ls (.int (nI b) :: .int (nI a) :: st) h z Q := pe_iadd hd (by rw [nI_add]; exact kk)
theorem pe_imulN {a b : Nat} (hd : decode M.2.1 pc = .ok (.imul, 1))  (kk : pz_E l L xs M d fc fs (pc + 1) ls (.int (nI (a * b)) :: st) h z Q) : pz_E l L xs M d fc fs pc ls (.int (nI b) :: .int (nI a) :: st) h z Q := pe_imul hd (by rw [nI_mul]; exact kk)
theorem pe_isubN {a b : Nat} (hd : decode M.2.1 pc = .ok (.isub, 1)) (hab : b ≤ a) (kk : pz_E l L xs M d fc fs (pc + 1) ls (.int (nI (a - b)) :: st) h z Q) : pz_E l L xs M d fc fs pc ls (.int (nI b) :: .int (nI a) :: st) h z Q := pe_isub hd (by rw [nI_sub hab]; exact kk)
theorem pe_idivN {a b : Nat} (hd : decode M.2.1 pc = .ok (.idiv, 1)) (ha : a < 2147483648) (hb : b < 2147483648) (h0 : 0 < b) (kk : pz_E l L xs M d fc fs (pc + 1) ls (.int (nI (a / b)) :: st) h z Q) : pz_E l L xs M d fc fs pc ls (.int (nI b) :: .int (nI a) :: st) h z Q := pe_idiv hd (by intro e; have := nI_inj hb (by decide) (e.trans nI_0.symm); omega) (by rw [nI_div ha hb]; exact kk)
theorem pe_iremN {a b : Nat} (hd : decode M.2.1 pc = .ok (.irem, 1)) (ha : a < 2147483648) (hb : b < 2147483648) (h0 : 0 < b) (kk : pz_E l L xs M d fc fs (pc + 1) ls (.int (nI (a % b)) :: st) h z Q) : pz_E l L xs M d fc fs pc ls (.int (nI b) :: .int (nI a) :: st) h z Q := pe_irem hd (by intro e; have := nI_inj hb (by decide) (e.trans nI_0.symm); omega) (by rw [nI_rem ha hb]; exact kk)
theorem pe_iincN {k a : Nat} (hd : decode M.2.1 pc = .ok (.iinc k 1, 3)) (hl : ls[k]? = some (some (.int (nI a)))) (hn : k < M.2.2.1) (hc : pz_c1 ls k = true) (kk : pz_E l L xs M d fc fs (pc + 3) (ls.set k (some (.int (nI (a + 1))))) st h z Q) : pz_E l L xs M d fc fs pc ls st h z Q := pe_iinc hd hl (show nI a + Int32.ofInt 1 = nI (a + 1) from nI_1 a) hn hc kk
theorem pe_icmpN_eq {a b : Nat} {off : Int} {tgt : Nat} (hd : decode M.2.1 pc = .ok (.if_icmp .eq off, 3)) (ht : (pc : Int) + off = (tgt : Int)) (ha : a < 2147483648) (hb : b < 2147483648) (kt : a = b → pz_E l L xs M d fc fs tgt ls st h z Q) (kf : ¬ a = b → pz_E l L xs M d fc fs (pc + 3) ls st h z Q) : pz_E l L xs M d fc fs pc ls (.int (nI b) :: .int (nI a) :: st) h z Q := pe_icmp_eq hd ht (fun q => kt ((nI_eq ha hb).mp q)) (fun q => kf (fun e => q ((nI_eq ha hb).mpr e)))
theorem pe_icmpN_ne {a b : Nat} {off : Int} {tgt : Nat} (hd : decode M.2.1 pc = .ok (.if_icmp .ne off, 3)) (ht : (pc : Int) + off = (tgt : Int)) (ha : a < 2147483648) (hb : b < 2147483648) (kt : ¬ a = b → pz_E l L xs M d fc fs tgt ls st h z Q) (kf : a = b → pz_E l L xs M d fc fs (pc + 3) ls st h z Q) : pz_E l L xs M d fc fs pc ls (.int (nI b) :: .int (nI a) :: st) h z Q := pe_icmp_ne hd ht (fun q => kt (fun e => q ((nI_eq ha hb).mpr e))) (fun q => kf ((nI_eq ha hb).mp q))
theorem pe_icmpN_lt {a b : Nat} {off : Int} {tgt : Nat} (hd : decode M.2.1 pc = .ok (.if_icmp .lt off, 3)) (ht : (pc : Int) + off = (tgt : Int)) (ha : a < 2147483648) (hb : b < 2147483648) (kt : a < b → pz_E l L xs M d fc fs tgt ls st h z Q) (kf : ¬ a < b → pz_E l L xs M d fc fs (pc + 3) ls st h z Q) : pz_E l L xs M d fc fs pc ls (.int (nI b) :: .int (nI a) :: st) h z Q := pe_icmp_lt hd ht (fun q => kt ((nI_ltI ha hb).mp q)) (fun q => kf (fun e => q ((nI_ltI ha hb).mpr e)))
theorem pe_icmpN_ge {a b : Nat} {off : Int} {tgt : Nat} (hd : decode M.2.1 pc = .ok (.if_icmp .ge off, 3)) (ht : (pc : Int) + off = (tgt : Int)) (ha : a < 2147483648) (hb : b < 2147483648) (kt : b ≤ a → pz_E l L xs M d fc fs tgt ls st h z Q) (kf : ¬ b ≤ a → pz_E l L xs M d fc fs (pc + 3) ls st h z Q) : pz_E l L xs M d fc fs pc ls (.int (nI b) :: .int (nI a) :: st) h z Q := pe_icmp_ge hd ht (fun q => kt ((nI_leI hb ha).mp q)) (fun q => kf (fun e => q ((nI_leI hb ha).mpr e)))
theorem pe_icmpN_gt {a b : Nat} {off : Int} {tgt : Nat} (hd : decode M.2.1 pc = .ok (.if_icmp .gt off, 3)) (ht : (pc : Int) + off = (tgt : Int)) (ha : a < 2147483648) (hb : b < 2147483648) (kt : b < a → pz_E l L xs M d fc fs tgt ls st h z Q) (kf : ¬ b < a → pz_E l L xs M d fc fs (pc + 3) ls st h z Q) : pz_E l L xs M d fc fs pc ls (.int (nI b) :: .int (nI a) :: st) h z Q := pe_icmp_gt hd ht (fun q => kt ((nI_ltI hb ha).mp q)) (fun q => kf (fun e => q ((nI_ltI hb ha).mpr e)))
theorem pe_icmpN_le {a b : Nat} {off : Int} {tgt : Nat} (hd : decode M.2.1 pc = .ok (.if_icmp .le off, 3)) (ht : (pc : Int) + off = (tgt : Int)) (ha : a < 2147483648) (hb : b < 2147483648) (kt : a ≤ b → pz_E l L xs M d fc fs tgt ls st h z Q) (kf : ¬ a ≤ b → pz_E l L xs M d fc fs (pc + 3) ls st h z Q) : pz_E l L xs M d fc fs pc ls (.int (nI b) :: .int (nI a) :: st) h z Q := pe_icmp_le hd ht (fun q => kt ((nI_leI ha hb).mp q)) (fun q => kf (fun e => q ((nI_leI ha hb).mpr e)))
theorem pe_ialdN {a n p : Nat} {f : Nat → Int32} (hd : decode M.2.1 pc = .ok (.iaload, 1)) (hh : h a = some (.inl (0, n, .inl f))) (hp : p < n) (hn : n < 2147483648) (kk : pz_E l L xs M d fc fs (pc + 1) ls (.int (f p) :: st) h z Q) : pz_E l L xs M d fc fs pc ls (.int (nI p) :: .ref a :: st) h z Q := pe_iald hd (t := 0) rfl hh (vp_in_nI hp hn) (by rw [nI_clamp (Nat.lt_trans hp hn)]; exact kk)
theorem pe_zaldN {a n p : Nat} {f : Nat → Int32} (hd : decode M.2.1 pc = .ok (.baload, 1)) (hh : h a = some (.inl (1, n, .inl f))) (hp : p < n) (hn : n < 2147483648) (kk : pz_E l L xs M d fc fs (pc + 1) ls (.int (f p) :: st) h z Q) : pz_E l L xs M d fc fs pc ls (.int (nI p) :: .ref a :: st) h z Q := pe_zald hd (t := 1) rfl hh (vp_in_nI hp hn) (by rw [nI_clamp (Nat.lt_trans hp hn)]; exact kk)
theorem pe_iastN {a n p : Nat} {f : Nat → Int32} {x : Int32} (hd : decode M.2.1 pc = .ok (.iastore, 1)) (hh : h a = some (.inl (0, n, .inl f))) (hp : p < n) (hn : n < 2147483648) (kk : pz_E l L xs M d fc fs (pc + 1) ls st (pu h a (.inl (0, n, .inl (upd f p x)))) z Q) : pz_E l L xs M d fc fs pc ls (.int x :: .int (nI p) :: .ref a :: st) h z Q := pe_iast hd (t := 0) rfl hh (vp_in_nI hp hn) (by rw [nI_clamp (Nat.lt_trans hp hn)]; exact kk)
theorem pe_zastN {a n p : Nat} {f : Nat → Int32} {x : Bool} (hd : decode M.2.1 pc = .ok (.bastore, 1)) (hh : h a = some (.inl (1, n, .inl f))) (hp : p < n) (hn : n < 2147483648) (kk : pz_E l L xs M d fc fs (pc + 1) ls st (pu h a (.inl (1, n, .inl (upd f p (pb x))))) z Q) : pz_E l L xs M d fc fs pc ls (.int (pb x) :: .int (nI p) :: .ref a :: st) h z Q := pe_zast hd (t := 1) rfl hh (vp_in_nI hp hn) (by rw [nI_clamp (Nat.lt_trans hp hn), pb_nar]; exact kk)
theorem pe_aaldN {a t n p w : Nat} {C : String} {f : Nat → Option Nat} (hd : decode M.2.1 pc = .ok (.aaload, 1)) (ht : px_ts[t]? = some (.object C)) (hh : h a = some (.inl (t, n, .inr (.inr (.inr (.inr f)))))) (hp : p < n) (hn : n < 2147483648) (hw : f p = some w) (kk : pz_E l L xs M d fc fs (pc + 1) ls (.ref w :: st) h z Q) : pz_E l L xs M d fc fs pc ls (.int (nI p) :: .ref a :: st) h z Q := pe_aald hd ht hh (vp_in_nI hp hn) (by rw [nI_clamp (Nat.lt_trans hp hn)]; exact hw) kk
theorem pe_top {x y : Value} (e : x = y) (kk : pz_E l L xs M d fc fs pc ls (y :: st) h z Q) : pz_E l L xs M d fc fs pc ls (x :: st) h z Q := by rw [e]; exact kk
theorem pe_st {st' : List Value} (e : st = st') (kk : pz_E l L xs M d fc fs pc ls st' h z Q) : pz_E l L xs M d fc fs pc ls st h z Q := by rw [e]; exact kk
theorem pe_pu {a : Nat} {c : pz_C} (kk : ∀ h2 : pz_H, h2 a = some c → (∀ j, j ≠ a → h2 j = h j) → pz_E l L xs M d fc fs pc ls st h2 z Q) : pz_E l L xs M d fc fs pc ls st (pu h a c) z Q := kk _ (pu_eq _ _ _) (fun j hj => pu_ne hj)
end PR
theorem frm.st {lo hi k : Nat} {h h1 h2 : pz_H} (a : frm lo hi h h1) (o : ∀ j, j ≠ k → h2 j = h1 j) (h1k : lo ≤ k) (h2k : k < hi) : frm lo hi h h2 := fun q hq => (o q (by omega)).trans (a q hq)
end
section
/-! what a state is: loops as functions, the parts of the heap as predicates -/
/-- the least j of i, i + 1, .. (k of them) with P, else i + k -/
def ff (P : Nat → Bool) : Nat → Nat → Nat
  | 0, i => i
  | k + 1, i => if P i = true then i else ff P k (i + 1)
theorem ff_le (P : Nat → Bool) : ∀ k i, i ≤ ff P k i ∧ ff P k i ≤ i + k
  | 0, i => ⟨Nat.le_refl _, Nat.le_refl _⟩
  | k + 1, i => by
    unfold ff
    split
    · exact ⟨Nat.le_refl _, by omega⟩
    · have := ff_le P k (i + 1)
      omega
theorem ff_is (P : Nat → Bool) : ∀ k i, ff P k i < i + k → P (ff P k i) = true
  | 0, i, h => by unfold ff at h; omega
  | k + 1, i, h => by
    unfold ff at h ⊢
    split
    next c => exact c
    next c =>
      rw [if_neg c] at h
      exact ff_is P k (i + 1) (by omega)
theorem ff_congr {P P' : Nat → Bool} : ∀ k i, (∀ j, i ≤ j → j < i + k → P j = P' j) → ff P k i = ff P' k i
  | 0, i, _ => rfl
  | k + 1, i, h => by
    unfold ff
    rw [h i (Nat.le_refl _) (by omega), ff_congr k (i + 1) (fun j h1 h2 => h j (by omega) (by omega))]
/-- a place, or -1 where it is n -/
def orm (n j : Nat) : Int32 := if j < n then nI j else -1
/-- how many of i, i + 1, .. (k of them) have P -/
def cnt (P : Nat → Bool) : Nat → Nat → Nat
  | 0, _ => 0
  | k + 1, i => (if P i = true then 1 else 0) + cnt P k (i + 1)
theorem cnt_le (P : Nat → Bool) : ∀ k i, cnt P k i ≤ k
  | 0, _ => Nat.le_refl _
  | k + 1, i => by
    unfold cnt
    have := cnt_le P k (i + 1)
    split <;> omega
theorem cnt_congr {P P' : Nat → Bool} : ∀ k i, (∀ j, i ≤ j → j < i + k → P j = P' j) → cnt P k i = cnt P' k i
  | 0, i, _ => rfl
  | k + 1, i, h => by
    unfold cnt
    rw [h i (Nat.le_refl _) (by omega), cnt_congr k (i + 1) (fun j h1 h2 => h j (by omega) (by omega))]
/-- the best so far, and i beside it: i replaces it if lt -/
def bst (C : Nat → Bool) (lt : Nat → Nat → Bool) (i : Nat) (b : Option Nat) : Option Nat := if C i = true then (match b with | none => some i | some l => if lt i l = true then some i else some l) else b
/-- the best of i, i + 1, .. (k of them) with C -/
def sel (C : Nat → Bool) (lt : Nat → Nat → Bool) : Nat → Nat → Option Nat → Option Nat
  | 0, _, b => b
  | k + 1, i, b => sel C lt k (i + 1) (bst C lt i b)
theorem bst_in {C : Nat → Bool} {lt : Nat → Nat → Bool} {i : Nat} {b : Option Nat} (hb : ∀ x, b = some x → x < i ∧ C x = true) (x : Nat) (hx : bst C lt i b = some x) : x < i + 1 ∧ C x = true := by
  unfold bst at hx
  by_cases c : C i = true
  · rw [if_pos c] at hx
    match b, hb, hx with
    | none, hb, hx =>
      have : i = x := by simpa using hx
      subst this
      exact ⟨by omega, c⟩
    | some l, hb, hx =>
      obtain ⟨h1, h2⟩ := hb l rfl
      dsimp only at hx
      split at hx
      · have : i = x := by simpa using hx
        subst this
        exact ⟨by omega, c⟩
      · have : l = x := by simpa using hx
        subst this
        exact ⟨by omega, h2⟩
  · rw [if_neg c] at hx
    obtain ⟨h1, h2⟩ := hb x hx
    exact ⟨by omega, h2⟩
theorem bst_congr {C C' : Nat → Bool} {lt lt' : Nat → Nat → Bool} {i : Nat} {b : Option Nat} (hC : C i = C' i) (hl : ∀ l, b = some l → C i = true → lt i l = lt' i l) : bst C lt i b = bst C' lt' i b := by
  unfold bst
  rw [← hC]
  by_cases c : C i = true
  · rw [if_pos c, if_pos c]
    match b, hl with
    | none, _ => rfl
    | some l, hl =>
      show (if lt i l = true then some i else some l) = (if lt' i l = true then some i else some l)
      rw [hl l rfl c]
  · rw [if_neg c, if_neg c]
theorem sel_congr {C C' : Nat → Bool} {lt lt' : Nat → Nat → Bool} : ∀ k i b, (∀ j, i ≤ j → j < i + k → C j = C' j) → (∀ x, b = some x → x < i ∧ C x = true) → (∀ x y, x < i + k → y < i + k → C x = true → C y = true → lt x y = lt' x y) → sel C lt k i b = sel C' lt' k i b
  | 0, i, b, _, _, _ => rfl
  | k + 1, i, b, h, hb, hl => by
    unfold sel
    rw [← bst_congr (C := C) (lt := lt) (h i (Nat.le_refl _) (by omega)) (fun l e c => hl i l (by omega) (by have := (hb l e).1; omega) c (hb l e).2)]
    exact sel_congr k (i + 1) _ (fun j h1 h2 => h j (by omega) (by omega)) (bst_in hb) (fun x y h1 h2 => hl x y (by omega) (by omega))
theorem sel_in {C : Nat → Bool} {lt : Nat → Nat → Bool} : ∀ k i b, (∀ x, b = some x → x < i ∧ C x = true) → ∀ x, sel C lt k i b = some x → x < i + k ∧ C x = true
  | 0, i, b, hb, x, h => hb x h
  | k + 1, i, b, hb, x, h => by
    unfold sel at h
    have := sel_in k (i + 1) _ (bst_in hb) x h
    exact ⟨by omega, this.2⟩
/-- a place or none, as a number -/
def omi (b : Option Nat) : Int32 := match b with
  | none => -1
  | some j => nI j
/-- the places lo .. lo + k - 1 hold g, the others f -/
def fil (f g : Nat → Int32) (lo k : Nat) : Nat → Int32 := fun j => if lo ≤ j ∧ j < lo + k then g j else f j
theorem fil_0 (f g : Nat → Int32) (lo : Nat) : fil f g lo 0 = f := by
  funext j
  unfold fil
  rw [if_neg (by omega)]
theorem fil_s (f g : Nat → Int32) (lo k : Nat) : upd (fil f g lo k) (lo + k) (g (lo + k)) = fil f g lo (k + 1) := by
  funext j
  unfold upd fil
  by_cases h : j = lo + k
  · subst h
    rw [if_pos rfl, if_pos (by omega)]
  · rw [if_neg h]
    by_cases h2 : lo ≤ j ∧ j < lo + k
    · rw [if_pos h2, if_pos (by omega)]
    · rw [if_neg h2, if_neg (by omega)]
/-- the pages -/
def MEM (h : pz_H) (np : Nat) (mw mo mr mt : Nat → Int32) (mn : Nat → Bool) (md : Nat → Int32) (ts ck : Nat) : Prop :=
  h 1 = some (.inr (1, [.int (nI np), .ref 2, .ref 3, .ref 4, .ref 5, .ref 6, .ref 7, .int (nI ts), .int (nI ck)])) ∧ h 2 = some (.inl (0, np * 4, .inl mw)) ∧ h 3 = some (.inl (0, np, .inl mo)) ∧ h 4 = some (.inl (0, np * 6, .inl mr)) ∧ h 5 = some (.inl (0, np, .inl mt)) ∧ h 6 = some (.inl (1, np, .inl (fun j => pb (mn j)))) ∧ h 7 = some (.inl (0, np, .inl md)) ∧ 4 ≤ np ∧ np ≤ 32
theorem MEM.frm {h h' : pz_H} {np : Nat} {mw mo mr mt : Nat → Int32} {mn : Nat → Bool} {md : Nat → Int32} {ts ck : Nat} (m : MEM h np mw mo mr mt mn md ts ck) {lo hi : Nat} (f : frm lo hi h h') (hl : 8 ≤ lo ∨ hi ≤ 1) : MEM h' np mw mo mr mt mn md ts ck := by
  unfold MEM
  rw [f 1 (by omega), f 2 (by omega), f 3 (by omega), f 4 (by omega), f 5 (by omega), f 6 (by omega), f 7 (by omega)]
  exact m
/-- the blocks -/
def DSK (h : pz_H) (nb : Nat) (dw dn : Nat → Int32) : Prop :=
  h 8 = some (.inr (2, [.int (nI nb), .ref 9, .ref 10])) ∧ h 9 = some (.inl (0, nb * 8, .inl dw)) ∧ h 10 = some (.inl (0, nb, .inl dn)) ∧ 4 ≤ nb ∧ nb ≤ 32
theorem DSK.frm {h h' : pz_H} {nb : Nat} {dw dn : Nat → Int32} (m : DSK h nb dw dn) {lo hi : Nat} (f : frm lo hi h h') (hl : 11 ≤ lo ∨ hi ≤ 8) : DSK h' nb dw dn := by
  unfold DSK
  rw [f 8 (by omega), f 9 (by omega), f 10 (by omega)]
  exact m
/-- the order of the filters -/
def ORD (h : pz_H) (os : Nat → Int32) (ol : Nat) : Prop := h 11 = some (.inr (3, [.ref 12, .int (nI ol)])) ∧ h 12 = some (.inl (0, 6, .inl os)) ∧ ol ≤ 6
theorem ORD.frm {h h' : pz_H} {os : Nat → Int32} {ol : Nat} (m : ORD h os ol) {lo hi : Nat} (f : frm lo hi h h') (hl : 13 ≤ lo ∨ hi ≤ 11) : ORD h' os ol := by
  unfold ORD
  rw [f 11 (by omega), f 12 (by omega)]
  exact m
/-- a frame at a -/
def FRA (a : Nat) (h : pz_H) (fb : Nat → Int32) (fl : Nat) : Prop := h a = some (.inr (4, [.ref (a + 1), .int (nI fl)])) ∧ h (a + 1) = some (.inl (0, 16, .inl fb)) ∧ fl ≤ 16
theorem FRA.frm {a : Nat} {h h' : pz_H} {fb : Nat → Int32} {fl : Nat} (m : FRA a h fb fl) {lo hi : Nat} (f : frm lo hi h h') (hl : a + 2 ≤ lo ∨ hi ≤ a) : FRA a h' fb fl := by
  unfold FRA
  rw [f a (by omega), f (a + 1) (by omega)]
  exact m
/-- a list of pages at a -/
def PGL (a : Nat) (h : pz_H) (pp : Nat → Int32) (pl pe : Nat) : Prop := h a = some (.inr (6, [.ref (a + 1), .int (nI pl), .int (nI pe)])) ∧ h (a + 1) = some (.inl (0, 8, .inl pp)) ∧ pl ≤ 8 ∧ pe < 8
theorem PGL.frm {a : Nat} {h h' : pz_H} {pp : Nat → Int32} {pl pe : Nat} (m : PGL a h pp pl pe) {lo hi : Nat} (f : frm lo hi h h') (hl : a + 2 ≤ lo ∨ hi ≤ a) : PGL a h' pp pl pe := by
  unfold PGL
  rw [f a (by omega), f (a + 1) (by omega)]
  exact m
/-- a queue of frames at a: its four frames at a + 2, a + 4, .. -/
def QUE (a : Nat) (h : pz_H) (qb : Nat → Nat → Int32) (qn : Nat → Nat) (qf ql : Nat) : Prop := h a = some (.inr (7, [.ref (a + 1), .int (nI qf), .int (nI ql)])) ∧ h (a + 1) = some (.inl (3, 4, .inr (.inr (.inr (.inr (fun j => some (a + 2 + 2 * j))))))) ∧ (∀ j, j < 4 → FRA (a + 2 + 2 * j) h (qb j) (qn j)) ∧ qf < 4 ∧ ql ≤ 4
theorem QUE.frm {a : Nat} {h h' : pz_H} {qb : Nat → Nat → Int32} {qn : Nat → Nat} {qf ql : Nat} (m : QUE a h qb qn qf ql) {lo hi : Nat} (f : frm lo hi h h') (hl : a + 10 ≤ lo ∨ hi ≤ a) : QUE a h' qb qn qf ql := by
  obtain ⟨m1, m2, m3, m4⟩ := m
  refine ⟨(f a (by omega)).trans m1, (f (a + 1) (by omega)).trans m2, fun j hj => (m3 j hj).frm f (by omega), m4⟩
/-- a table of entries at a -/
def TAB (a : Nat) (h : pz_H) (td : Nat → Int32) (tl : Nat) : Prop := h a = some (.inr (8, [.ref (a + 1), .int (nI tl)])) ∧ h (a + 1) = some (.inl (0, 7, .inl td)) ∧ tl ≤ 28
theorem TAB.frm {a : Nat} {h h' : pz_H} {td : Nat → Int32} {tl : Nat} (m : TAB a h td tl) {lo hi : Nat} (f : frm lo hi h h') (hl : a + 2 ≤ lo ∨ hi ≤ a) : TAB a h' td tl := by
  unfold TAB
  rw [f a (by omega), f (a + 1) (by omega)]
  exact m
/-- a filter program at a -/
def PRG (a : Nat) (h : pz_H) (gc go gy gn : Nat → Int32) (gl : Nat) : Prop := h a = some (.inr (9, [.ref (a + 1), .ref (a + 2), .ref (a + 3), .ref (a + 4), .int (nI gl)])) ∧ h (a + 1) = some (.inl (0, 16, .inl gc)) ∧ h (a + 2) = some (.inl (0, 16, .inl go)) ∧ h (a + 3) = some (.inl (0, 16, .inl gy)) ∧ h (a + 4) = some (.inl (0, 16, .inl gn)) ∧ gl ≤ 16
theorem PRG.frm {a : Nat} {h h' : pz_H} {gc go gy gn : Nat → Int32} {gl : Nat} (m : PRG a h gc go gy gn gl) {lo hi : Nat} (f : frm lo hi h h') (hl : a + 5 ≤ lo ∨ hi ≤ a) : PRG a h' gc go gy gn gl := by
  unfold PRG
  rw [f a (by omega), f (a + 1) (by omega), f (a + 2) (by omega), f (a + 3) (by omega), f (a + 4) (by omega)]
  exact m
theorem ff_end {P : Nat → Bool} {n i : Nat} (h : ¬ i < n) : ff P (n - i) i = i := by rw [show n - i = 0 by omega]; rfl
theorem ff_yes {P : Nat → Bool} {n i : Nat} (h : i < n) (hp : P i = true) : ff P (n - i) i = i := by rw [show n - i = (n - i - 1) + 1 by omega]; unfold ff; rw [if_pos hp]
theorem ff_no {P : Nat → Bool} {n i : Nat} (h : i < n) (hp : ¬ P i = true) : ff P (n - i) i = ff P (n - (i + 1)) (i + 1) := by
  rw [show n - i = (n - (i + 1)) + 1 by omega]
  show (if P i = true then i else ff P (n - (i + 1)) (i + 1)) = _
  rw [if_neg hp]
theorem cnt_end {P : Nat → Bool} {n i : Nat} (h : ¬ i < n) : cnt P (n - i) i = 0 := by rw [show n - i = 0 by omega]; rfl
theorem cnt_step {P : Nat → Bool} {n i : Nat} (h : i < n) : cnt P (n - i) i = (if P i = true then 1 else 0) + cnt P (n - (i + 1)) (i + 1) := by
  rw [show n - i = (n - (i + 1)) + 1 by omega]
  rfl
theorem sel_end {C : Nat → Bool} {lt : Nat → Nat → Bool} {n i : Nat} {b : Option Nat} (h : ¬ i < n) : sel C lt (n - i) i b = b := by rw [show n - i = 0 by omega]; rfl
theorem sel_step {C : Nat → Bool} {lt : Nat → Nat → Bool} {n i : Nat} {b : Option Nat} (h : i < n) : sel C lt (n - i) i b = sel C lt (n - (i + 1)) (i + 1) (bst C lt i b) := by
  rw [show n - i = (n - (i + 1)) + 1 by omega]
  rfl
theorem orm_lt {n j : Nat} (h : j < n) : orm n j = nI j := if_pos h
theorem orm_ge {n j : Nat} (h : ¬ j < n) : orm n j = -1 := if_neg h
theorem cnt_yes {P : Nat → Bool} {n i : Nat} (h : i < n) (hp : P i = true) (u : Nat) : u + cnt P (n - i) i = (u + 1) + cnt P (n - (i + 1)) (i + 1) := by rw [cnt_step h, if_pos hp]; omega
theorem cnt_no {P : Nat → Bool} {n i : Nat} (h : i < n) (hp : ¬ P i = true) (u : Nat) : u + cnt P (n - i) i = u + cnt P (n - (i + 1)) (i + 1) := by rw [cnt_step h, if_neg hp]; omega
end
section
/-! the pages: contracts of Memory -/
set_option maxHeartbeats 2000000 in
set_option maxRecDepth 20000 in
theorem c_Memory_hasPage {l : Launch} {L : Nat} {xs : Nat → Int32} {h : pz_H} {z : Nat} {np : Nat} {mw mo mr mt : Nat → Int32} {mn : Nat → Bool} {md : Nat → Int32} {ts ck : Nat} (hm : MEM h np mw mo mr mt mn md ts ck) (x : Int32) : pz_K l L xs M_Memory_hasPage 0 0 0 [.ref 1, .int x] h z (fun v h' z' => v = some (.int (pb (decide (¬ x < 0 ∧ ¬ nI np ≤ x)))) ∧ h = h' ∧ z = z') := by
  obtain ⟨hM, hW, hO, hR, hT, hN, hD, hn1, hn2⟩ := id hm
  refine pz_K.of rfl (Nat.le_of_ble_eq_true rfl) ?_
  change pz_E l L xs M_Memory_hasPage 0 0 0 0 [some (.ref 1), some (.int x)] [] h z _
  refine pe_iload_n d_Memory_hasPage_0 rfl ?_
  refine pe_if_lt (tgt := 16) d_Memory_hasPage_1 (by decide) (fun c_1 => ?_) (fun c_1 => ?_)
  · refine pe_iconst (v := nI 0) d_Memory_hasPage_16 (by decide) ?_
    refine pe_zret d_Memory_hasPage_17 rfl (by decide) ?_
    exact ⟨pb_no (fun q => by first | exact q.1 c_1 | exact q.2 c_9), rfl, rfl⟩
  · refine pe_iload_n d_Memory_hasPage_4 rfl ?_
    refine pe_aload_n d_Memory_hasPage_5 rfl ?_
    refine pe_getf d_Memory_hasPage_6 f_Memory_9 hM rfl ?_
    refine pe_icmp_ge (tgt := 16) d_Memory_hasPage_9 (by decide) (fun c_9 => ?_) (fun c_9 => ?_)
    · refine pe_iconst (v := nI 0) d_Memory_hasPage_16 (by decide) ?_
      refine pe_zret d_Memory_hasPage_17 rfl (by decide) ?_
      exact ⟨pb_no (fun q => by first | exact q.1 c_1 | exact q.2 c_9), rfl, rfl⟩
    · refine pe_iconst (v := nI 1) d_Memory_hasPage_12 (by decide) ?_
      refine pe_goto (tgt := 17) d_Memory_hasPage_13 (by decide) ?_
      refine pe_zret d_Memory_hasPage_17 rfl (by decide) ?_
      exact ⟨pb_yes ⟨c_1, c_9⟩, rfl, rfl⟩
set_option maxHeartbeats 2000000 in
set_option maxRecDepth 20000 in
theorem c_Memory_ownerOf {l : Launch} {L : Nat} {xs : Nat → Int32} {h : pz_H} {z : Nat} {np : Nat} {mw mo mr mt : Nat → Int32} {mn : Nat → Bool} {md : Nat → Int32} {ts ck : Nat} (hm : MEM h np mw mo mr mt mn md ts ck) {p : Nat} (hp : p < np) : pz_K l L xs M_Memory_ownerOf 0 0 0 [.ref 1, .int (nI p)] h z (fun v h' z' => v = some (.int (mo p)) ∧ h = h' ∧ z = z') := by
  obtain ⟨hM, hW, hO, hR, hT, hN, hD, hn1, hn2⟩ := id hm
  refine pz_K.of rfl (Nat.le_of_ble_eq_true rfl) ?_
  change pz_E l L xs M_Memory_ownerOf 0 0 0 0 [some (.ref 1), some (.int (nI p))] [] h z _
  refine pe_aload_n d_Memory_ownerOf_0 rfl ?_
  refine pe_getf d_Memory_ownerOf_1 f_Memory_19 hM rfl ?_
  refine pe_iload_n d_Memory_ownerOf_4 rfl ?_
  refine pe_ialdN d_Memory_ownerOf_5 hO (by omega) (by omega) ?_
  refine pe_iret d_Memory_ownerOf_6 rfl ?_
  exact ⟨rfl, rfl, rfl⟩
set_option maxHeartbeats 2000000 in
set_option maxRecDepth 20000 in
theorem c_Memory_rightOf {l : Launch} {L : Nat} {xs : Nat → Int32} {h : pz_H} {z : Nat} {np : Nat} {mw mo mr mt : Nat → Int32} {mn : Nat → Bool} {md : Nat → Int32} {ts ck : Nat} (hm : MEM h np mw mo mr mt mn md ts ck) {p q : Nat} (hp : p < np) (hq : q < 6) : pz_K l L xs M_Memory_rightOf 0 0 0 [.ref 1, .int (nI p), .int (nI q)] h z (fun v h' z' => v = some (.int (mr (p * 6 + q))) ∧ h = h' ∧ z = z') := by
  obtain ⟨hM, hW, hO, hR, hT, hN, hD, hn1, hn2⟩ := id hm
  refine pz_K.of rfl (Nat.le_of_ble_eq_true rfl) ?_
  change pz_E l L xs M_Memory_rightOf 0 0 0 0 [some (.ref 1), some (.int (nI p)), some (.int (nI q))] [] h z _
  refine pe_aload_n d_Memory_rightOf_0 rfl ?_
  refine pe_getf d_Memory_rightOf_1 f_Memory_22 hM rfl ?_
  refine pe_iload_n d_Memory_rightOf_4 rfl ?_
  refine pe_bipush (v := nI 6) d_Memory_rightOf_5 (by decide) ?_
  refine pe_imulN d_Memory_rightOf_7 ?_
  refine pe_iload_n d_Memory_rightOf_8 rfl ?_
  refine pe_iaddN d_Memory_rightOf_9 ?_
  refine pe_ialdN d_Memory_rightOf_10 hR (by omega) (by omega) ?_
  refine pe_iret d_Memory_rightOf_11 rfl ?_
  exact ⟨rfl, rfl, rfl⟩
set_option maxHeartbeats 2000000 in
set_option maxRecDepth 20000 in
theorem c_Memory_wordOf {l : Launch} {L : Nat} {xs : Nat → Int32} {h : pz_H} {z : Nat} {np : Nat} {mw mo mr mt : Nat → Int32} {mn : Nat → Bool} {md : Nat → Int32} {ts ck : Nat} (hm : MEM h np mw mo mr mt mn md ts ck) {p q : Nat} (hp : p < np) (hq : q < 4) : pz_K l L xs M_Memory_wordOf 0 0 0 [.ref 1, .int (nI p), .int (nI q)] h z (fun v h' z' => v = some (.int (mw (p * 4 + q))) ∧ h = h' ∧ z = z') := by
  obtain ⟨hM, hW, hO, hR, hT, hN, hD, hn1, hn2⟩ := id hm
  refine pz_K.of rfl (Nat.le_of_ble_eq_true rfl) ?_
  change pz_E l L xs M_Memory_wordOf 0 0 0 0 [some (.ref 1), some (.int (nI p)), some (.int (nI q))] [] h z _
  refine pe_aload_n d_Memory_wordOf_0 rfl ?_
  refine pe_getf d_Memory_wordOf_1 f_Memory_15 hM rfl ?_
  refine pe_iload_n d_Memory_wordOf_4 rfl ?_
  refine pe_iconst (v := nI 4) d_Memory_wordOf_5 (by decide) ?_
  refine pe_imulN d_Memory_wordOf_6 ?_
  refine pe_iload_n d_Memory_wordOf_7 rfl ?_
  refine pe_iaddN d_Memory_wordOf_8 ?_
  refine pe_ialdN d_Memory_wordOf_9 hW (by omega) (by omega) ?_
  refine pe_iret d_Memory_wordOf_10 rfl ?_
  exact ⟨rfl, rfl, rfl⟩
set_option maxHeartbeats 2000000 in
set_option maxRecDepth 20000 in
theorem c_Memory_setRight {l : Launch} {L : Nat} {xs : Nat → Int32} {h : pz_H} {z : Nat} {np : Nat} {mw mo mr mt : Nat → Int32} {mn : Nat → Bool} {md : Nat → Int32} {ts ck : Nat} (hm : MEM h np mw mo mr mt mn md ts ck) {p q : Nat} (hp : p < np) (hq : q < 6) (x : Int32) : pz_K l L xs M_Memory_setRight 0 0 0 [.ref 1, .int (nI p), .int (nI q), .int x] h z (fun v h' z' => v = none ∧ z = z' ∧ MEM h' np mw mo (upd mr (p * 6 + q) x) mt mn md ts ck ∧ frm 1 8 h h') := by
  obtain ⟨hM, hW, hO, hR, hT, hN, hD, hn1, hn2⟩ := id hm
  have hf : frm 1 8 h h := frm.rf
  refine pz_K.of rfl (Nat.le_of_ble_eq_true rfl) ?_
  change pz_E l L xs M_Memory_setRight 0 0 0 0 [some (.ref 1), some (.int (nI p)), some (.int (nI q)), some (.int x)] [] h z _
  refine pe_aload_n d_Memory_setRight_0 rfl ?_
  refine pe_getf d_Memory_setRight_1 f_Memory_22 hM rfl ?_
  refine pe_iload_n d_Memory_setRight_4 rfl ?_
  refine pe_bipush (v := nI 6) d_Memory_setRight_5 (by decide) ?_
  refine pe_imulN d_Memory_setRight_7 ?_
  refine pe_iload_n d_Memory_setRight_8 rfl ?_
  refine pe_iaddN d_Memory_setRight_9 ?_
  refine pe_iload_n d_Memory_setRight_10 rfl ?_
  refine pe_iastN d_Memory_setRight_11 hR (by omega) (by omega) ?_
  refine pe_pu (fun h2 e2 o2 => ?_)
  have hM := (o2 (1) (by omega)).trans hM
  have hW := (o2 (2) (by omega)).trans hW
  have hO := (o2 (3) (by omega)).trans hO
  have hR := e2
  have hT := (o2 (5) (by omega)).trans hT
  have hN := (o2 (6) (by omega)).trans hN
  have hD := (o2 (7) (by omega)).trans hD
  have hf := hf.st o2 (by omega) (by omega)
  refine pe_vret d_Memory_setRight_12 rfl ?_
  exact ⟨rfl, rfl, ⟨hM, hW, hO, hR, hT, hN, hD, hn1, hn2⟩, hf⟩
set_option maxHeartbeats 2000000 in
set_option maxRecDepth 20000 in
theorem c_Memory_setWord {l : Launch} {L : Nat} {xs : Nat → Int32} {h : pz_H} {z : Nat} {np : Nat} {mw mo mr mt : Nat → Int32} {mn : Nat → Bool} {md : Nat → Int32} {ts ck : Nat} (hm : MEM h np mw mo mr mt mn md ts ck) {p q : Nat} (hp : p < np) (hq : q < 4) (x : Int32) : pz_K l L xs M_Memory_setWord 0 0 0 [.ref 1, .int (nI p), .int (nI q), .int x] h z (fun v h' z' => v = none ∧ z = z' ∧ MEM h' np (upd mw (p * 4 + q) x) mo mr mt mn md ts ck ∧ frm 1 8 h h') := by
  obtain ⟨hM, hW, hO, hR, hT, hN, hD, hn1, hn2⟩ := id hm
  have hf : frm 1 8 h h := frm.rf
  refine pz_K.of rfl (Nat.le_of_ble_eq_true rfl) ?_
  change pz_E l L xs M_Memory_setWord 0 0 0 0 [some (.ref 1), some (.int (nI p)), some (.int (nI q)), some (.int x)] [] h z _
  refine pe_aload_n d_Memory_setWord_0 rfl ?_
  refine pe_getf d_Memory_setWord_1 f_Memory_15 hM rfl ?_
  refine pe_iload_n d_Memory_setWord_4 rfl ?_
  refine pe_iconst (v := nI 4) d_Memory_setWord_5 (by decide) ?_
  refine pe_imulN d_Memory_setWord_6 ?_
  refine pe_iload_n d_Memory_setWord_7 rfl ?_
  refine pe_iaddN d_Memory_setWord_8 ?_
  refine pe_iload_n d_Memory_setWord_9 rfl ?_
  refine pe_iastN d_Memory_setWord_10 hW (by omega) (by omega) ?_
  refine pe_pu (fun h2 e2 o2 => ?_)
  have hM := (o2 (1) (by omega)).trans hM
  have hW := e2
  have hO := (o2 (3) (by omega)).trans hO
  have hR := (o2 (4) (by omega)).trans hR
  have hT := (o2 (5) (by omega)).trans hT
  have hN := (o2 (6) (by omega)).trans hN
  have hD := (o2 (7) (by omega)).trans hD
  have hf := hf.st o2 (by omega) (by omega)
  refine pe_vret d_Memory_setWord_11 rfl ?_
  exact ⟨rfl, rfl, ⟨hM, hW, hO, hR, hT, hN, hD, hn1, hn2⟩, hf⟩
set_option maxHeartbeats 2000000 in
set_option maxRecDepth 20000 in
theorem c_Memory_nameAfter {l : Launch} {L : Nat} {xs : Nat → Int32} {h : pz_H} {z : Nat} {np : Nat} {mw mo mr mt : Nat → Int32} {mn : Nat → Bool} {md : Nat → Int32} {ts ck : Nat} (hm : MEM h np mw mo mr mt mn md ts ck) {p q : Nat} (hp : p < np) : pz_K l L xs M_Memory_nameAfter 0 0 0 [.ref 1, .int (nI p), .int (nI q)] h z (fun v h' z' => v = none ∧ z = z' ∧ MEM h' np mw mo mr mt (updB mn p true) (upd md p (nI (ck + q))) ts ck ∧ frm 1 8 h h') := by
  obtain ⟨hM, hW, hO, hR, hT, hN, hD, hn1, hn2⟩ := id hm
  have hf : frm 1 8 h h := frm.rf
  refine pz_K.of rfl (Nat.le_of_ble_eq_true rfl) ?_
  change pz_E l L xs M_Memory_nameAfter 0 0 0 0 [some (.ref 1), some (.int (nI p)), some (.int (nI q))] [] h z _
  refine pe_aload_n d_Memory_nameAfter_0 rfl ?_
  refine pe_getf d_Memory_nameAfter_1 f_Memory_28 hM rfl ?_
  refine pe_iload_n d_Memory_nameAfter_4 rfl ?_
  refine pe_iconst (v := nI 1) d_Memory_nameAfter_5 (by decide) ?_
  refine pe_top (y := .int (pb true)) (by decide) ?_
  refine pe_zastN d_Memory_nameAfter_6 hN (by omega) (by omega) ?_
  rw [upb]
  refine pe_pu (fun h2 e2 o2 => ?_)
  have hM := (o2 (1) (by omega)).trans hM
  have hW := (o2 (2) (by omega)).trans hW
  have hO := (o2 (3) (by omega)).trans hO
  have hR := (o2 (4) (by omega)).trans hR
  have hT := (o2 (5) (by omega)).trans hT
  have hN := e2
  have hD := (o2 (7) (by omega)).trans hD
  have hf := hf.st o2 (by omega) (by omega)
  refine pe_aload_n d_Memory_nameAfter_7 rfl ?_
  refine pe_getf d_Memory_nameAfter_8 f_Memory_32 hM rfl ?_
  refine pe_iload_n d_Memory_nameAfter_11 rfl ?_
  refine pe_aload_n d_Memory_nameAfter_12 rfl ?_
  refine pe_getf d_Memory_nameAfter_13 f_Memory_38 hM rfl ?_
  refine pe_iload_n d_Memory_nameAfter_16 rfl ?_
  refine pe_iaddN d_Memory_nameAfter_17 ?_
  refine pe_iastN d_Memory_nameAfter_18 hD (by omega) (by omega) ?_
  refine pe_pu (fun h2 e2 o2 => ?_)
  have hM := (o2 (1) (by omega)).trans hM
  have hW := (o2 (2) (by omega)).trans hW
  have hO := (o2 (3) (by omega)).trans hO
  have hR := (o2 (4) (by omega)).trans hR
  have hT := (o2 (5) (by omega)).trans hT
  have hN := (o2 (6) (by omega)).trans hN
  have hD := e2
  have hf := hf.st o2 (by omega) (by omega)
  refine pe_vret d_Memory_nameAfter_19 rfl ?_
  exact ⟨rfl, rfl, ⟨hM, hW, hO, hR, hT, hN, hD, hn1, hn2⟩, hf⟩
set_option maxHeartbeats 2000000 in
set_option maxRecDepth 20000 in
theorem c_Memory_passTime {l : Launch} {L : Nat} {xs : Nat → Int32} {h : pz_H} {z : Nat} {np : Nat} {mw mo mr mt : Nat → Int32} {mn : Nat → Bool} {md : Nat → Int32} {ts ck : Nat} (hm : MEM h np mw mo mr mt mn md ts ck) {q : Nat} : pz_K l L xs M_Memory_passTime 0 0 0 [.ref 1, .int (nI q)] h z (fun v h' z' => v = none ∧ z = z' ∧ MEM h' np mw mo mr mt mn md ts (ck + q) ∧ frm 1 8 h h') := by
  obtain ⟨hM, hW, hO, hR, hT, hN, hD, hn1, hn2⟩ := id hm
  have hf : frm 1 8 h h := frm.rf
  refine pz_K.of rfl (Nat.le_of_ble_eq_true rfl) ?_
  change pz_E l L xs M_Memory_passTime 0 0 0 0 [some (.ref 1), some (.int (nI q))] [] h z _
  refine pe_aload_n d_Memory_passTime_0 rfl ?_
  refine pe_dup d_Memory_passTime_1 rfl ?_
  refine pe_getf d_Memory_passTime_2 f_Memory_38 hM rfl ?_
  refine pe_iload_n d_Memory_passTime_5 rfl ?_
  refine pe_iaddN d_Memory_passTime_6 ?_
  refine pe_put d_Memory_passTime_7 g_Memory_38 hM (Nat.le_of_ble_eq_true rfl) rfl ?_
  refine pe_pu (fun h2 e2 o2 => ?_)
  have hM := e2
  have hW := (o2 (2) (by omega)).trans hW
  have hO := (o2 (3) (by omega)).trans hO
  have hR := (o2 (4) (by omega)).trans hR
  have hT := (o2 (5) (by omega)).trans hT
  have hN := (o2 (6) (by omega)).trans hN
  have hD := (o2 (7) (by omega)).trans hD
  have hf := hf.st o2 (by omega) (by omega)
  refine pe_vret d_Memory_passTime_10 rfl ?_
  exact ⟨rfl, rfl, ⟨hM, hW, hO, hR, hT, hN, hD, hn1, hn2⟩, hf⟩
set_option maxHeartbeats 2000000 in
set_option maxRecDepth 20000 in
theorem c_Memory_leastFree {l : Launch} {L : Nat} {xs : Nat → Int32} {h : pz_H} {z : Nat} {np : Nat} {mw mo mr mt : Nat → Int32} {mn : Nat → Bool} {md : Nat → Int32} {ts ck : Nat} (hm : MEM h np mw mo mr mt mn md ts ck) : pz_K l L xs M_Memory_leastFree 0 0 0 [.ref 1] h z (fun v h' z' => v = some (.int (orm np (ff (fun j => decide (mo j = -1)) (np - 0) 0))) ∧ h = h' ∧ z = z') := by
  obtain ⟨hM, hW, hO, hR, hT, hN, hD, hn1, hn2⟩ := id hm
  refine pz_K.of rfl (Nat.le_of_ble_eq_true rfl) ?_
  have loop : ∀ (n : Nat) (i : Nat), i ≤ np → np + 1 ≤ i + n → pz_E l L xs M_Memory_leastFree 0 0 0 2 [some (.ref 1), some (.int (nI i))] [] h z (fun v h' z' => v = some (.int (orm np (ff (fun j => decide (mo j = -1)) (np - i) i))) ∧ h = h' ∧ z = z') := by
    intro n
    induction n with
    | zero => intros; omega
    | succ n ih =>
      intro i hi hin
      refine pe_iload_n d_Memory_leastFree_2 rfl ?_
      refine pe_aload_n d_Memory_leastFree_3 rfl ?_
      refine pe_getf d_Memory_leastFree_4 f_Memory_9 hM rfl ?_
      refine pe_icmpN_ge (tgt := 28) d_Memory_leastFree_7 (by decide) (by omega) (by omega) (fun c_7 => ?_) (fun c_7 => ?_)
      · refine pe_iconst (v := -1) d_Memory_leastFree_28 (by decide) ?_
        refine pe_iret d_Memory_leastFree_29 rfl ?_
        exact ⟨by rw [ff_end (by omega), orm_ge (by omega)], rfl, rfl⟩
      · have c_7 : i < np := by omega
        refine pe_aload_n d_Memory_leastFree_10 rfl ?_
        refine pe_getf d_Memory_leastFree_11 f_Memory_19 hM rfl ?_
        refine pe_iload_n d_Memory_leastFree_14 rfl ?_
        refine pe_ialdN d_Memory_leastFree_15 hO (by omega) (by omega) ?_
        refine pe_iconst (v := -1) d_Memory_leastFree_16 (by decide) ?_
        refine pe_icmp_ne (tgt := 22) d_Memory_leastFree_17 (by decide) (fun c_17 => ?_) (fun c_17 => ?_)
        · refine pe_iincN d_Memory_leastFree_22 rfl (by decide) rfl ?_
          dsimp only [List.set]
          refine pe_goto (tgt := 2) d_Memory_leastFree_25 (by decide) ?_
          have e := ih (i + 1) (by omega) (by omega)
          rw [← ff_no c_7 (by simpa using c_17)] at e
          exact e
        · refine pe_iload_n d_Memory_leastFree_20 rfl ?_
          refine pe_iret d_Memory_leastFree_21 rfl ?_
          exact ⟨by rw [ff_yes c_7 (decide_eq_true c_17), orm_lt c_7], rfl, rfl⟩
  change pz_E l L xs M_Memory_leastFree 0 0 0 0 [some (.ref 1), none] [] h z _
  refine pe_iconst (v := nI 0) d_Memory_leastFree_0 (by decide) ?_
  refine pe_istore_n d_Memory_leastFree_1 (by decide) rfl ?_
  dsimp only [List.set]
  exact loop (np + 1) 0 (by omega) (by omega)
set_option maxHeartbeats 2000000 in
set_option maxRecDepth 20000 in
theorem c_Memory_pagesOf {l : Launch} {L : Nat} {xs : Nat → Int32} {h : pz_H} {z : Nat} {np : Nat} {mw mo mr mt : Nat → Int32} {mn : Nat → Bool} {md : Nat → Int32} {ts ck : Nat} (hm : MEM h np mw mo mr mt mn md ts ck) (x : Int32) : pz_K l L xs M_Memory_pagesOf 0 0 0 [.ref 1, .int x] h z (fun v h' z' => v = some (.int (nI (cnt (fun j => decide (mo j = x)) (np - 0) 0))) ∧ h = h' ∧ z = z') := by
  obtain ⟨hM, hW, hO, hR, hT, hN, hD, hn1, hn2⟩ := id hm
  refine pz_K.of rfl (Nat.le_of_ble_eq_true rfl) ?_
  have loop : ∀ (n : Nat) (i u : Nat), i ≤ np → u ≤ i → np + 1 ≤ i + n → pz_E l L xs M_Memory_pagesOf 0 0 0 4 [some (.ref 1), some (.int x), some (.int (nI u)), some (.int (nI i))] [] h z (fun v h' z' => v = some (.int (nI (u + cnt (fun j => decide (mo j = x)) (np - i) i))) ∧ h = h' ∧ z = z') := by
    intro n
    induction n with
    | zero => intros; omega
    | succ n ih =>
      intro i u hi hu hin
      refine pe_iload_n d_Memory_pagesOf_4 rfl ?_
      refine pe_aload_n d_Memory_pagesOf_5 rfl ?_
      refine pe_getf d_Memory_pagesOf_6 f_Memory_9 hM rfl ?_
      refine pe_icmpN_ge (tgt := 31) d_Memory_pagesOf_9 (by decide) (by omega) (by omega) (fun c_9 => ?_) (fun c_9 => ?_)
      · refine pe_iload_n d_Memory_pagesOf_31 rfl ?_
        refine pe_iret d_Memory_pagesOf_32 rfl ?_
        rw [cnt_end (P := (fun j => decide (mo j = x))) (by omega)]
        exact ⟨rfl, rfl, rfl⟩
      · have c_9 : i < np := by omega
        refine pe_aload_n d_Memory_pagesOf_12 rfl ?_
        refine pe_getf d_Memory_pagesOf_13 f_Memory_19 hM rfl ?_
        refine pe_iload_n d_Memory_pagesOf_16 rfl ?_
        refine pe_ialdN d_Memory_pagesOf_17 hO (by omega) (by omega) ?_
        refine pe_iload_n d_Memory_pagesOf_18 rfl ?_
        refine pe_icmp_ne (tgt := 25) d_Memory_pagesOf_19 (by decide) (fun c_19 => ?_) (fun c_19 => ?_)
        · refine pe_iincN d_Memory_pagesOf_25 rfl (by decide) rfl ?_
          dsimp only [List.set]
          refine pe_goto (tgt := 4) d_Memory_pagesOf_28 (by decide) ?_
          have e := ih (i + 1) u (by omega) (by omega) (by omega)
          rw [cnt_no (P := (fun j => decide (mo j = x))) c_9 (by simp_all)]
          exact e
        · refine pe_iincN d_Memory_pagesOf_22 rfl (by decide) rfl ?_
          dsimp only [List.set]
          refine pe_iincN d_Memory_pagesOf_25 rfl (by decide) rfl ?_
          dsimp only [List.set]
          refine pe_goto (tgt := 4) d_Memory_pagesOf_28 (by decide) ?_
          have e := ih (i + 1) (u + 1) (by omega) (by omega) (by omega)
          rw [cnt_yes (P := (fun j => decide (mo j = x))) c_9 (by simp_all)]
          exact e
  change pz_E l L xs M_Memory_pagesOf 0 0 0 0 [some (.ref 1), some (.int x), none, none] [] h z _
  refine pe_iconst (v := nI 0) d_Memory_pagesOf_0 (by decide) ?_
  refine pe_istore_n d_Memory_pagesOf_1 (by decide) rfl ?_
  dsimp only [List.set]
  refine pe_iconst (v := nI 0) d_Memory_pagesOf_2 (by decide) ?_
  refine pe_istore_n d_Memory_pagesOf_3 (by decide) rfl ?_
  dsimp only [List.set]
  have e := loop (np + 1) 0 0 (by omega) (by omega) (by omega)
  rw [Nat.zero_add] at e
  exact e
set_option maxHeartbeats 2000000 in
set_option maxRecDepth 20000 in
theorem c_Memory_namedPagesOf {l : Launch} {L : Nat} {xs : Nat → Int32} {h : pz_H} {z : Nat} {np : Nat} {mw mo mr mt : Nat → Int32} {mn : Nat → Bool} {md : Nat → Int32} {ts ck : Nat} (hm : MEM h np mw mo mr mt mn md ts ck) (x : Int32) : pz_K l L xs M_Memory_namedPagesOf 0 0 0 [.ref 1, .int x] h z (fun v h' z' => v = some (.int (nI (cnt (fun j => decide (mo j = x) && mn j) (np - 0) 0))) ∧ h = h' ∧ z = z') := by
  obtain ⟨hM, hW, hO, hR, hT, hN, hD, hn1, hn2⟩ := id hm
  refine pz_K.of rfl (Nat.le_of_ble_eq_true rfl) ?_
  have loop : ∀ (n : Nat) (i u : Nat), i ≤ np → u ≤ i → np + 1 ≤ i + n → pz_E l L xs M_Memory_namedPagesOf 0 0 0 4 [some (.ref 1), some (.int x), some (.int (nI u)), some (.int (nI i))] [] h z (fun v h' z' => v = some (.int (nI (u + cnt (fun j => decide (mo j = x) && mn j) (np - i) i))) ∧ h = h' ∧ z = z') := by
    intro n
    induction n with
    | zero => intros; omega
    | succ n ih =>
      intro i u hi hu hin
      refine pe_iload_n d_Memory_namedPagesOf_4 rfl ?_
      refine pe_aload_n d_Memory_namedPagesOf_5 rfl ?_
      refine pe_getf d_Memory_namedPagesOf_6 f_Memory_9 hM rfl ?_
      refine pe_icmpN_ge (tgt := 40) d_Memory_namedPagesOf_9 (by decide) (by omega) (by omega) (fun c_9 => ?_) (fun c_9 => ?_)
      · refine pe_iload_n d_Memory_namedPagesOf_40 rfl ?_
        refine pe_iret d_Memory_namedPagesOf_41 rfl ?_
        rw [cnt_end (P := (fun j => decide (mo j = x) && mn j)) (by omega)]
        exact ⟨rfl, rfl, rfl⟩
      · have c_9 : i < np := by omega
        refine pe_aload_n d_Memory_namedPagesOf_12 rfl ?_
        refine pe_getf d_Memory_namedPagesOf_13 f_Memory_19 hM rfl ?_
        refine pe_iload_n d_Memory_namedPagesOf_16 rfl ?_
        refine pe_ialdN d_Memory_namedPagesOf_17 hO (by omega) (by omega) ?_
        refine pe_iload_n d_Memory_namedPagesOf_18 rfl ?_
        refine pe_icmp_ne (tgt := 34) d_Memory_namedPagesOf_19 (by decide) (fun c_19 => ?_) (fun c_19 => ?_)
        · refine pe_iincN d_Memory_namedPagesOf_34 rfl (by decide) rfl ?_
          dsimp only [List.set]
          refine pe_goto (tgt := 4) d_Memory_namedPagesOf_37 (by decide) ?_
          have e := ih (i + 1) u (by omega) (by omega) (by omega)
          rw [cnt_no (P := (fun j => decide (mo j = x) && mn j)) c_9 (by simp_all)]
          exact e
        · refine pe_aload_n d_Memory_namedPagesOf_22 rfl ?_
          refine pe_getf d_Memory_namedPagesOf_23 f_Memory_28 hM rfl ?_
          refine pe_iload_n d_Memory_namedPagesOf_26 rfl ?_
          refine pe_zaldN d_Memory_namedPagesOf_27 hN (by omega) (by omega) ?_
          refine pe_if_eq (tgt := 34) d_Memory_namedPagesOf_28 (by decide) (fun c_28 => ?_) (fun c_28 => ?_)
          · have c_28 := pb_0.mp c_28
            refine pe_iincN d_Memory_namedPagesOf_34 rfl (by decide) rfl ?_
            dsimp only [List.set]
            refine pe_goto (tgt := 4) d_Memory_namedPagesOf_37 (by decide) ?_
            have e := ih (i + 1) u (by omega) (by omega) (by omega)
            rw [cnt_no (P := (fun j => decide (mo j = x) && mn j)) c_9 (by simp_all)]
            exact e
          · have c_28 := pb_n0.mp c_28
            refine pe_iincN d_Memory_namedPagesOf_31 rfl (by decide) rfl ?_
            dsimp only [List.set]
            refine pe_iincN d_Memory_namedPagesOf_34 rfl (by decide) rfl ?_
            dsimp only [List.set]
            refine pe_goto (tgt := 4) d_Memory_namedPagesOf_37 (by decide) ?_
            have e := ih (i + 1) (u + 1) (by omega) (by omega) (by omega)
            rw [cnt_yes (P := (fun j => decide (mo j = x) && mn j)) c_9 (by simp_all)]
            exact e
  change pz_E l L xs M_Memory_namedPagesOf 0 0 0 0 [some (.ref 1), some (.int x), none, none] [] h z _
  refine pe_iconst (v := nI 0) d_Memory_namedPagesOf_0 (by decide) ?_
  refine pe_istore_n d_Memory_namedPagesOf_1 (by decide) rfl ?_
  dsimp only [List.set]
  refine pe_iconst (v := nI 0) d_Memory_namedPagesOf_2 (by decide) ?_
  refine pe_istore_n d_Memory_namedPagesOf_3 (by decide) rfl ?_
  dsimp only [List.set]
  have e := loop (np + 1) 0 0 (by omega) (by omega) (by omega)
  rw [Nat.zero_add] at e
  exact e
set_option maxHeartbeats 2000000 in
set_option maxRecDepth 20000 in
theorem c_Memory_bind {l : Launch} {L : Nat} {xs : Nat → Int32} {h : pz_H} {z : Nat} {np : Nat} {mw mo mr mt : Nat → Int32} {mn : Nat → Bool} {md : Nat → Int32} {ts ck : Nat} (hm : MEM h np mw mo mr mt mn md ts ck) {p : Nat} (hp : p < np) (x : Int32) : pz_K l L xs M_Memory_bind 1 0 0 [.ref 1, .int (nI p), .int x] h z (fun v h' z' => v = none ∧ z = z' ∧ MEM h' np (fil mw (fun _ => 0) (p * 4) 4) (upd mo p x) mr (upd mt p (nI ts)) mn md (ts + 1) ck ∧ frm 1 8 h h') := by
  obtain ⟨hM, hW, hO, hR, hT, hN, hD, hn1, hn2⟩ := id hm
  have hf : frm 1 8 h h := frm.rf
  refine pz_K.of rfl (Nat.le_of_ble_eq_true rfl) ?_
  have loop : ∀ (n : Nat) (i : Nat) (k : pz_H), i ≤ 4 → 5 ≤ i + n → MEM k np (fil mw (fun _ => 0) (p * 4) i) (upd mo p x) mr (upd mt p (nI ts)) mn md (ts + 1) ck → frm 1 8 h k → pz_E l L xs M_Memory_bind 1 0 0 29 [some (.ref 1), some (.int (nI p)), some (.int x), some (.int (nI i))] [] k z (fun v h' z' => v = none ∧ z = z' ∧ MEM h' np (fil mw (fun _ => 0) (p * 4) 4) (upd mo p x) mr (upd mt p (nI ts)) mn md (ts + 1) ck ∧ frm 1 8 h h') := by
    intro n
    induction n with
    | zero => intros; omega
    | succ n ih =>
      intro i k hi hin hm hf
      obtain ⟨hM, hW, hO, hR, hT, hN, hD, hn1, hn2⟩ := id hm
      refine pe_iload_n d_Memory_bind_29 rfl ?_
      refine pe_iconst (v := nI 4) d_Memory_bind_30 (by decide) ?_
      refine pe_icmpN_ge (tgt := 47) d_Memory_bind_31 (by decide) (by omega) (by omega) (fun c_31 => ?_) (fun c_31 => ?_)
      · refine pe_vret d_Memory_bind_47 rfl ?_
        have e : i = 4 := by omega
        subst e
        exact ⟨rfl, rfl, hm, hf⟩
      · refine pe_aload_n d_Memory_bind_34 rfl ?_
        refine pe_iload_n d_Memory_bind_35 rfl ?_
        refine pe_iload_n d_Memory_bind_36 rfl ?_
        refine pe_iconst (v := nI 0) d_Memory_bind_37 (by decide) ?_
        -- 38: Memory_setWord
        refine pe_callV d_Memory_bind_38 m_Memory_41 j_Memory_setWord v_Memory_setWord (c_Memory_setWord hm (p := p) (q := i) (by omega) (by omega) (nI 0)) rfl rfl (by simp [Value.category]) (by decide) hM rfl rfl ?_
        intro v1 h1 z1 hq1
        obtain ⟨rfl, rfl, hm, hf1⟩ := hq1
        obtain ⟨hM, hW, hO, hR, hT, hN, hD, hn1, hn2⟩ := id hm
        have hf := hf.tr hf1
        change pz_E _ _ _ _ _ _ _ _ _ _ _ _ _
        refine pe_iincN d_Memory_bind_41 rfl (by decide) rfl ?_
        dsimp only [List.set]
        refine pe_goto (tgt := 29) d_Memory_bind_44 (by decide) ?_
        rw [show nI 0 = (fun _ => (0 : Int32)) (p * 4 + i) from rfl, fil_s] at hm
        exact ih (i + 1) _ (by omega) (by omega) hm hf
  change pz_E l L xs M_Memory_bind 1 0 0 0 [some (.ref 1), some (.int (nI p)), some (.int x), none] [] h z _
  refine pe_aload_n d_Memory_bind_0 rfl ?_
  refine pe_getf d_Memory_bind_1 f_Memory_19 hM rfl ?_
  refine pe_iload_n d_Memory_bind_4 rfl ?_
  refine pe_iload_n d_Memory_bind_5 rfl ?_
  refine pe_iastN d_Memory_bind_6 hO (by omega) (by omega) ?_
  refine pe_pu (fun h2 e2 o2 => ?_)
  have hM := (o2 (1) (by omega)).trans hM
  have hW := (o2 (2) (by omega)).trans hW
  have hO := e2
  have hR := (o2 (4) (by omega)).trans hR
  have hT := (o2 (5) (by omega)).trans hT
  have hN := (o2 (6) (by omega)).trans hN
  have hD := (o2 (7) (by omega)).trans hD
  have hf := hf.st o2 (by omega) (by omega)
  refine pe_aload_n d_Memory_bind_7 rfl ?_
  refine pe_getf d_Memory_bind_8 f_Memory_25 hM rfl ?_
  refine pe_iload_n d_Memory_bind_11 rfl ?_
  refine pe_aload_n d_Memory_bind_12 rfl ?_
  refine pe_getf d_Memory_bind_13 f_Memory_35 hM rfl ?_
  refine pe_iastN d_Memory_bind_16 hT (by omega) (by omega) ?_
  refine pe_pu (fun h2 e2 o2 => ?_)
  have hM := (o2 (1) (by omega)).trans hM
  have hW := (o2 (2) (by omega)).trans hW
  have hO := (o2 (3) (by omega)).trans hO
  have hR := (o2 (4) (by omega)).trans hR
  have hT := e2
  have hN := (o2 (6) (by omega)).trans hN
  have hD := (o2 (7) (by omega)).trans hD
  have hf := hf.st o2 (by omega) (by omega)
  refine pe_aload_n d_Memory_bind_17 rfl ?_
  refine pe_dup d_Memory_bind_18 rfl ?_
  refine pe_getf d_Memory_bind_19 f_Memory_35 hM rfl ?_
  refine pe_iconst (v := nI 1) d_Memory_bind_22 (by decide) ?_
  refine pe_iaddN d_Memory_bind_23 ?_
  refine pe_put d_Memory_bind_24 g_Memory_35 hM (Nat.le_of_ble_eq_true rfl) rfl ?_
  refine pe_pu (fun h2 e2 o2 => ?_)
  have hM := e2
  have hW := (o2 (2) (by omega)).trans hW
  have hO := (o2 (3) (by omega)).trans hO
  have hR := (o2 (4) (by omega)).trans hR
  have hT := (o2 (5) (by omega)).trans hT
  have hN := (o2 (6) (by omega)).trans hN
  have hD := (o2 (7) (by omega)).trans hD
  have hf := hf.st o2 (by omega) (by omega)
  refine pe_iconst (v := nI 0) d_Memory_bind_27 (by decide) ?_
  refine pe_istore_n d_Memory_bind_28 (by decide) rfl ?_
  dsimp only [List.set]
  have hm : MEM h2 np (fil mw (fun _ => 0) (p * 4) 0) (upd mo p x) mr (upd mt p (nI ts)) mn md (ts + 1) ck := by rw [fil_0]; exact ⟨hM, hW, hO, hR, hT, hN, hD, hn1, hn2⟩
  exact loop 5 0 _ (by omega) (by omega) hm hf
set_option maxHeartbeats 2000000 in
set_option maxRecDepth 20000 in
theorem c_Memory_free {l : Launch} {L : Nat} {xs : Nat → Int32} {h : pz_H} {z : Nat} {np : Nat} {mw mo mr mt : Nat → Int32} {mn : Nat → Bool} {md : Nat → Int32} {ts ck : Nat} (hm : MEM h np mw mo mr mt mn md ts ck) {p : Nat} (hp : p < np) : pz_K l L xs M_Memory_free 1 0 0 [.ref 1, .int (nI p)] h z (fun v h' z' => v = none ∧ z = z' ∧ MEM h' np mw (upd mo p (-1)) (fil mr (fun _ => 0) (p * 6) 6) mt (updB mn p false) md ts ck ∧ frm 1 8 h h') := by
  obtain ⟨hM, hW, hO, hR, hT, hN, hD, hn1, hn2⟩ := id hm
  have hf : frm 1 8 h h := frm.rf
  refine pz_K.of rfl (Nat.le_of_ble_eq_true rfl) ?_
  have loop : ∀ (n : Nat) (i : Nat) (k : pz_H), i ≤ 6 → 7 ≤ i + n → MEM k np mw (upd mo p (-1)) (fil mr (fun _ => 0) (p * 6) i) mt (updB mn p false) md ts ck → frm 1 8 h k → pz_E l L xs M_Memory_free 1 0 0 16 [some (.ref 1), some (.int (nI p)), some (.int (nI i))] [] k z (fun v h' z' => v = none ∧ z = z' ∧ MEM h' np mw (upd mo p (-1)) (fil mr (fun _ => 0) (p * 6) 6) mt (updB mn p false) md ts ck ∧ frm 1 8 h h') := by
    intro n
    induction n with
    | zero => intros; omega
    | succ n ih =>
      intro i k hi hin hm hf
      obtain ⟨hM, hW, hO, hR, hT, hN, hD, hn1, hn2⟩ := id hm
      refine pe_iload_n d_Memory_free_16 rfl ?_
      refine pe_bipush (v := nI 6) d_Memory_free_17 (by decide) ?_
      refine pe_icmpN_ge (tgt := 35) d_Memory_free_19 (by decide) (by omega) (by omega) (fun c_19 => ?_) (fun c_19 => ?_)
      · refine pe_vret d_Memory_free_35 rfl ?_
        have e : i = 6 := by omega
        subst e
        exact ⟨rfl, rfl, hm, hf⟩
      · refine pe_aload_n d_Memory_free_22 rfl ?_
        refine pe_iload_n d_Memory_free_23 rfl ?_
        refine pe_iload_n d_Memory_free_24 rfl ?_
        refine pe_iconst (v := nI 0) d_Memory_free_25 (by decide) ?_
        -- 26: Memory_setRight
        refine pe_callV d_Memory_free_26 m_Memory_45 j_Memory_setRight v_Memory_setRight (c_Memory_setRight hm (p := p) (q := i) (by omega) (by omega) (nI 0)) rfl rfl (by simp [Value.category]) (by decide) hM rfl rfl ?_
        intro v1 h1 z1 hq1
        obtain ⟨rfl, rfl, hm, hf1⟩ := hq1
        obtain ⟨hM, hW, hO, hR, hT, hN, hD, hn1, hn2⟩ := id hm
        have hf := hf.tr hf1
        change pz_E _ _ _ _ _ _ _ _ _ _ _ _ _
        refine pe_iincN d_Memory_free_29 rfl (by decide) rfl ?_
        dsimp only [List.set]
        refine pe_goto (tgt := 16) d_Memory_free_32 (by decide) ?_
        rw [show nI 0 = (fun _ => (0 : Int32)) (p * 6 + i) from rfl, fil_s] at hm
        exact ih (i + 1) _ (by omega) (by omega) hm hf
  change pz_E l L xs M_Memory_free 1 0 0 0 [some (.ref 1), some (.int (nI p)), none] [] h z _
  refine pe_aload_n d_Memory_free_0 rfl ?_
  refine pe_getf d_Memory_free_1 f_Memory_19 hM rfl ?_
  refine pe_iload_n d_Memory_free_4 rfl ?_
  refine pe_iconst (v := -1) d_Memory_free_5 (by decide) ?_
  refine pe_iastN d_Memory_free_6 hO (by omega) (by omega) ?_
  refine pe_pu (fun h2 e2 o2 => ?_)
  have hM := (o2 (1) (by omega)).trans hM
  have hW := (o2 (2) (by omega)).trans hW
  have hO := e2
  have hR := (o2 (4) (by omega)).trans hR
  have hT := (o2 (5) (by omega)).trans hT
  have hN := (o2 (6) (by omega)).trans hN
  have hD := (o2 (7) (by omega)).trans hD
  have hf := hf.st o2 (by omega) (by omega)
  refine pe_aload_n d_Memory_free_7 rfl ?_
  refine pe_getf d_Memory_free_8 f_Memory_28 hM rfl ?_
  refine pe_iload_n d_Memory_free_11 rfl ?_
  refine pe_iconst (v := nI 0) d_Memory_free_12 (by decide) ?_
  refine pe_top (y := .int (pb false)) (by decide) ?_
  refine pe_zastN d_Memory_free_13 hN (by omega) (by omega) ?_
  rw [upb]
  refine pe_pu (fun h2 e2 o2 => ?_)
  have hM := (o2 (1) (by omega)).trans hM
  have hW := (o2 (2) (by omega)).trans hW
  have hO := (o2 (3) (by omega)).trans hO
  have hR := (o2 (4) (by omega)).trans hR
  have hT := (o2 (5) (by omega)).trans hT
  have hN := e2
  have hD := (o2 (7) (by omega)).trans hD
  have hf := hf.st o2 (by omega) (by omega)
  refine pe_iconst (v := nI 0) d_Memory_free_14 (by decide) ?_
  refine pe_istore_n d_Memory_free_15 (by decide) rfl ?_
  dsimp only [List.set]
  have hm : MEM h2 np mw (upd mo p (-1)) (fil mr (fun _ => 0) (p * 6) 0) mt (updB mn p false) md ts ck := by rw [fil_0]; exact ⟨hM, hW, hO, hR, hT, hN, hD, hn1, hn2⟩
  exact loop 7 0 _ (by omega) (by omega) hm hf
/-- what forgetting x (= nI a) leaves behind the pages below i -/
def fgO (mo : Nat → Int32) (x : Int32) (i : Nat) : Nat → Int32 := fun j => if j < i ∧ mo j = x then -1 else mo j
def fgN (mo : Nat → Int32) (mn : Nat → Bool) (x : Int32) (i : Nat) : Nat → Bool := fun j => if j < i ∧ mo j = x then false else mn j
def fgR (mo mr : Nat → Int32) (x : Int32) (a i : Nat) : Nat → Int32 := fun t => if t / 6 < i ∧ (mo (t / 6) = x ∨ t % 6 = a) then 0 else mr t
theorem fg_0 (mo mr : Nat → Int32) (mn : Nat → Bool) (x : Int32) (a : Nat) : fgO mo x 0 = mo ∧ fgN mo mn x 0 = mn ∧ fgR mo mr x a 0 = mr := by
  refine ⟨?_, ?_, ?_⟩ <;> funext j <;> simp [fgO, fgN, fgR]
theorem fgO_i (mo : Nat → Int32) (x : Int32) (i : Nat) : fgO mo x i i = mo i := by simp [fgO]
theorem fg_y {mo mr : Nat → Int32} {mn : Nat → Bool} {x : Int32} {a i : Nat} (ha : a < 6) (hx : mo i = x) : upd (fgO mo x i) i (-1) = fgO mo x (i + 1) ∧ updB (fgN mo mn x i) i false = fgN mo mn x (i + 1) ∧ fil (upd (fgR mo mr x a i) (i * 6 + a) 0) (fun _ => 0) (i * 6) 6 = fgR mo mr x a (i + 1) := by
  refine ⟨?_, ?_, ?_⟩
  · funext j
    by_cases e : j = i
    · subst e; simp [upd, fgO, hx]
    · have h1 : (j < i) ↔ (j < i + 1) := by omega
      simp [upd, fgO, e, h1]
  · funext j
    by_cases e : j = i
    · subst e; simp [updB, fgN, hx]
    · have h1 : (j < i) ↔ (j < i + 1) := by omega
      simp [updB, fgN, e, h1]
  · funext t
    unfold fil
    by_cases e : i * 6 ≤ t ∧ t < i * 6 + 6
    · have h1 : t / 6 = i := by omega
      rw [if_pos e]
      simp [fgR, h1, hx]
    · rw [if_neg e]
      have h1 : (t / 6 < i) ↔ (t / 6 < i + 1) := by omega
      have h2 : t ≠ i * 6 + a := by omega
      simp [upd, h2, fgR, h1]
theorem fg_n {mo mr : Nat → Int32} {mn : Nat → Bool} {x : Int32} {a i : Nat} (ha : a < 6) (hx : ¬ mo i = x) : fgO mo x i = fgO mo x (i + 1) ∧ fgN mo mn x i = fgN mo mn x (i + 1) ∧ upd (fgR mo mr x a i) (i * 6 + a) 0 = fgR mo mr x a (i + 1) := by
  refine ⟨?_, ?_, ?_⟩
  · funext j
    by_cases e : j = i
    · subst e; simp [fgO, hx]
    · have h1 : (j < i) ↔ (j < i + 1) := by omega
      simp [fgO, h1]
  · funext j
    by_cases e : j = i
    · subst e; simp [fgN, hx]
    · have h1 : (j < i) ↔ (j < i + 1) := by omega
      simp [fgN, h1]
  · funext t
    by_cases e : t = i * 6 + a
    · have h1 : t / 6 = i := by omega
      have h2 : t % 6 = a := by omega
      simp [upd, e, fgR]
      omega
    · rw [upd_ne e]
      by_cases h1 : t / 6 = i
      · have h2 : ¬ t % 6 = a := by omega
        simp [fgR, h1, h2, hx]
      · have h3 : (t / 6 < i) ↔ (t / 6 < i + 1) := by omega
        simp [fgR, h3]
set_option maxHeartbeats 2000000 in
set_option maxRecDepth 20000 in
theorem c_Memory_forget {l : Launch} {L : Nat} {xs : Nat → Int32} {h : pz_H} {z : Nat} {np : Nat} {mw mo mr mt : Nat → Int32} {mn : Nat → Bool} {md : Nat → Int32} {ts ck : Nat} (hm : MEM h np mw mo mr mt mn md ts ck) {a : Nat} (ha : a < 6) : pz_K l L xs M_Memory_forget 2 0 0 [.ref 1, .int (nI a)] h z (fun v h' z' => v = none ∧ z = z' ∧ MEM h' np mw (fgO mo (nI a) np) (fgR mo mr (nI a) a np) mt (fgN mo mn (nI a) np) md ts ck ∧ frm 1 8 h h') := by
  obtain ⟨hM, hW, hO, hR, hT, hN, hD, hn1, hn2⟩ := id hm
  have hf : frm 1 8 h h := frm.rf
  refine pz_K.of rfl (Nat.le_of_ble_eq_true rfl) ?_
  have loop : ∀ (n : Nat) (i : Nat) (k : pz_H), i ≤ np → np + 1 ≤ i + n → MEM k np mw (fgO mo (nI a) i) (fgR mo mr (nI a) a i) mt (fgN mo mn (nI a) i) md ts ck → frm 1 8 h k → pz_E l L xs M_Memory_forget 2 0 0 2 [some (.ref 1), some (.int (nI a)), some (.int (nI i))] [] k z (fun v h' z' => v = none ∧ z = z' ∧ MEM h' np mw (fgO mo (nI a) np) (fgR mo mr (nI a) a np) mt (fgN mo mn (nI a) np) md ts ck ∧ frm 1 8 h h') := by
    intro n
    induction n with
    | zero => intros; omega
    | succ n ih =>
      intro i k hi hin hm hf
      obtain ⟨hM, hW, hO, hR, hT, hN, hD, hn1, hn2⟩ := id hm
      refine pe_iload_n d_Memory_forget_2 rfl ?_
      refine pe_aload_n d_Memory_forget_3 rfl ?_
      refine pe_getf d_Memory_forget_4 f_Memory_9 hM rfl ?_
      refine pe_icmpN_ge (tgt := 38) d_Memory_forget_7 (by decide) (by omega) (by omega) (fun c_7 => ?_) (fun c_7 => ?_)
      · refine pe_vret d_Memory_forget_38 rfl ?_
        have e : i = np := by omega
        subst e
        exact ⟨rfl, rfl, hm, hf⟩
      · have c_7 : i < np := by omega
        refine pe_aload_n d_Memory_forget_10 rfl ?_
        refine pe_iload_n d_Memory_forget_11 rfl ?_
        refine pe_iload_n d_Memory_forget_12 rfl ?_
        refine pe_iconst (v := nI 0) d_Memory_forget_13 (by decide) ?_
        -- 14: Memory_setRight
        refine pe_callV d_Memory_forget_14 m_Memory_45 j_Memory_setRight v_Memory_setRight (c_Memory_setRight hm (p := i) (q := a) (by omega) (by omega) (nI 0)) rfl rfl (by simp [Value.category]) (by decide) hM rfl rfl ?_
        intro v1 h1 z1 hq1
        obtain ⟨rfl, rfl, hm, hf1⟩ := hq1
        obtain ⟨hM, hW, hO, hR, hT, hN, hD, hn1, hn2⟩ := id hm
        have hf := hf.tr hf1
        change pz_E _ _ _ _ _ _ _ _ _ _ _ _ _
        refine pe_aload_n d_Memory_forget_17 rfl ?_
        refine pe_getf d_Memory_forget_18 f_Memory_19 hM rfl ?_
        refine pe_iload_n d_Memory_forget_21 rfl ?_
        refine pe_ialdN d_Memory_forget_22 hO (by omega) (by omega) ?_
        refine pe_iload_n d_Memory_forget_23 rfl ?_
        refine pe_icmp_ne (tgt := 32) d_Memory_forget_24 (by decide) (fun c_24 => ?_) (fun c_24 => ?_)
        · refine pe_iincN d_Memory_forget_32 rfl (by decide) rfl ?_
          dsimp only [List.set]
          refine pe_goto (tgt := 2) d_Memory_forget_35 (by decide) ?_
          rw [fgO_i] at c_24
          first | (obtain ⟨e1, e2, e3⟩ := fg_y (mr := mr) (mn := mn) ha c_24; rw [show nI 0 = (0 : Int32) from rfl, e1, e2, e3] at hm; exact ih (i + 1) _ (by omega) (by omega) hm hf) | (obtain ⟨e1, e2, e3⟩ := fg_n (mr := mr) (mn := mn) ha c_24; rw [show nI 0 = (0 : Int32) from rfl, e1, e2, e3] at hm; exact ih (i + 1) _ (by omega) (by omega) hm hf)
        · refine pe_aload_n d_Memory_forget_27 rfl ?_
          refine pe_iload_n d_Memory_forget_28 rfl ?_
          -- 29: Memory_free
          refine pe_callV d_Memory_forget_29 m_Memory_48 j_Memory_free v_Memory_free (c_Memory_free hm (p := i) (by omega)) rfl rfl (by simp [Value.category]) (by decide) hM rfl rfl ?_
          intro v1 h1 z1 hq1
          obtain ⟨rfl, rfl, hm, hf1⟩ := hq1
          obtain ⟨hM, hW, hO, hR, hT, hN, hD, hn1, hn2⟩ := id hm
          have hf := hf.tr hf1
          change pz_E _ _ _ _ _ _ _ _ _ _ _ _ _
          refine pe_iincN d_Memory_forget_32 rfl (by decide) rfl ?_
          dsimp only [List.set]
          refine pe_goto (tgt := 2) d_Memory_forget_35 (by decide) ?_
          rw [fgO_i] at c_24
          first | (obtain ⟨e1, e2, e3⟩ := fg_y (mr := mr) (mn := mn) ha c_24; rw [show nI 0 = (0 : Int32) from rfl, e1, e2, e3] at hm; exact ih (i + 1) _ (by omega) (by omega) hm hf) | (obtain ⟨e1, e2, e3⟩ := fg_n (mr := mr) (mn := mn) ha c_24; rw [show nI 0 = (0 : Int32) from rfl, e1, e2, e3] at hm; exact ih (i + 1) _ (by omega) (by omega) hm hf)
  change pz_E l L xs M_Memory_forget 2 0 0 0 [some (.ref 1), some (.int (nI a)), none] [] h z _
  refine pe_iconst (v := nI 0) d_Memory_forget_0 (by decide) ?_
  refine pe_istore_n d_Memory_forget_1 (by decide) rfl ?_
  dsimp only [List.set]
  obtain ⟨e1, e2, e3⟩ := fg_0 mo mr mn (nI a) a
  have hm : MEM h np mw (fgO mo (nI a) 0) (fgR mo mr (nI a) a 0) mt (fgN mo mn (nI a) 0) md ts ck := by rw [e1, e2, e3]; exact hm
  exact loop (np + 1) 0 _ (by omega) (by omega) hm hf
set_option maxHeartbeats 2000000 in
set_option maxRecDepth 20000 in
theorem c_Memory_pageToName {l : Launch} {L : Nat} {xs : Nat → Int32} {h : pz_H} {z : Nat} {np : Nat} {mw mo mr mt : Nat → Int32} {mn : Nat → Bool} {md : Nat → Int32} {ts ck : Nat} (hm : MEM h np mw mo mr mt mn md ts ck) (x : Int32) : pz_K l L xs M_Memory_pageToName 0 0 0 [.ref 1, .int x] h z (fun v h' z' => v = some (.int (if 2 < cnt (fun j => decide (mo j = x) && !mn j) (np - 0) 0 then omi (sel (fun j => decide (mo j = x) && !mn j) (fun i l => !decide (mt i ≤ mt l)) (np - 0) 0 none) else -1)) ∧ h = h' ∧ z = z') := by
  obtain ⟨hM, hW, hO, hR, hT, hN, hD, hn1, hn2⟩ := id hm
  refine pz_K.of rfl (Nat.le_of_ble_eq_true rfl) ?_
  have loop : ∀ (n : Nat) (i u : Nat) (b : Option Nat), i ≤ np → u ≤ i → (∀ y, b = some y → y < i) → np + 1 ≤ i + n → pz_E l L xs M_Memory_pageToName 0 0 0 7 [some (.ref 1), some (.int x), some (.int (nI u)), some (.int (omi b)), some (.int (nI i))] [] h z (fun v h' z' => v = some (.int (if 2 < u + cnt (fun j => decide (mo j = x) && !mn j) (np - i) i then omi (sel (fun j => decide (mo j = x) && !mn j) (fun i l => !decide (mt i ≤ mt l)) (np - i) i b) else -1)) ∧ h = h' ∧ z = z') := by
    intro n
    induction n with
    | zero => intros; omega
    | succ n ih =>
      intro i u b hi hu hb hin
      match b, hb with
      | none, hb =>
        change pz_E l L xs M_Memory_pageToName 0 0 0 7 [some (.ref 1), some (.int x), some (.int (nI u)), some (.int (-1)), some (.int (nI i))] [] h z _
        refine pe_iload d_Memory_pageToName_7 rfl ?_
        refine pe_aload_n d_Memory_pageToName_9 rfl ?_
        refine pe_getf d_Memory_pageToName_10 f_Memory_9 hM rfl ?_
        refine pe_icmpN_ge (tgt := 70) d_Memory_pageToName_13 (by decide) (by omega) (by omega) (fun c_13 => ?_) (fun c_13 => ?_)
        · refine pe_iload_n d_Memory_pageToName_70 rfl ?_
          refine pe_iconst (v := nI 2) d_Memory_pageToName_71 (by decide) ?_
          refine pe_icmpN_le (tgt := 79) d_Memory_pageToName_72 (by decide) (by omega) (by omega) (fun c_72 => ?_) (fun c_72 => ?_)
          · refine pe_iconst (v := -1) d_Memory_pageToName_79 (by decide) ?_
            refine pe_iret d_Memory_pageToName_80 rfl ?_
            exact ⟨by rw [cnt_end (P := (fun j => decide (mo j = x) && !mn j)) (n := np) (i := i) (by omega), sel_end (C := (fun j => decide (mo j = x) && !mn j)) (lt := (fun i l => !decide (mt i ≤ mt l))) (n := np) (i := i) (by omega)]; first | (rw [if_pos (by omega)]; rfl) | (rw [if_neg (by omega)]), rfl, rfl⟩
          · refine pe_iload_n d_Memory_pageToName_75 rfl ?_
            refine pe_goto (tgt := 80) d_Memory_pageToName_76 (by decide) ?_
            refine pe_iret d_Memory_pageToName_80 rfl ?_
            exact ⟨by rw [cnt_end (P := (fun j => decide (mo j = x) && !mn j)) (n := np) (i := i) (by omega), sel_end (C := (fun j => decide (mo j = x) && !mn j)) (lt := (fun i l => !decide (mt i ≤ mt l))) (n := np) (i := i) (by omega)]; first | (rw [if_pos (by omega)]; rfl) | (rw [if_neg (by omega)]), rfl, rfl⟩
        · have c_13 : i < np := by omega
          refine pe_aload_n d_Memory_pageToName_16 rfl ?_
          refine pe_getf d_Memory_pageToName_17 f_Memory_19 hM rfl ?_
          refine pe_iload d_Memory_pageToName_20 rfl ?_
          refine pe_ialdN d_Memory_pageToName_22 hO (by omega) (by omega) ?_
          refine pe_iload_n d_Memory_pageToName_23 rfl ?_
          refine pe_icmp_ne (tgt := 64) d_Memory_pageToName_24 (by decide) (fun c_24 => ?_) (fun c_24 => ?_)
          · refine pe_iincN d_Memory_pageToName_64 rfl (by decide) rfl ?_
            dsimp only [List.set]
            refine pe_goto (tgt := 7) d_Memory_pageToName_67 (by decide) ?_
            have e := ih (i + 1) u none (by omega) (by omega) (fun y hy => by cases hy) (by omega)
            have hb9 : bst (fun j => decide (mo j = x) && !mn j) (fun i l => !decide (mt i ≤ mt l)) i none = none := by first | exact absurd c_42 (nI_nem1 (by omega)) | (simp_all [bst]; done)
            rw [sel_step (C := (fun j => decide (mo j = x) && !mn j)) (lt := (fun i l => !decide (mt i ≤ mt l))) c_13, hb9]
            rw [cnt_no (P := (fun j => decide (mo j = x) && !mn j)) c_13 (by simp_all)]
            exact e
          · refine pe_aload_n d_Memory_pageToName_27 rfl ?_
            refine pe_getf d_Memory_pageToName_28 f_Memory_28 hM rfl ?_
            refine pe_iload d_Memory_pageToName_31 rfl ?_
            refine pe_zaldN d_Memory_pageToName_33 hN (by omega) (by omega) ?_
            refine pe_if_ne (tgt := 64) d_Memory_pageToName_34 (by decide) (fun c_34 => ?_) (fun c_34 => ?_)
            · have c_34 := pb_n0.mp c_34
              refine pe_iincN d_Memory_pageToName_64 rfl (by decide) rfl ?_
              dsimp only [List.set]
              refine pe_goto (tgt := 7) d_Memory_pageToName_67 (by decide) ?_
              have e := ih (i + 1) u none (by omega) (by omega) (fun y hy => by cases hy) (by omega)
              have hb9 : bst (fun j => decide (mo j = x) && !mn j) (fun i l => !decide (mt i ≤ mt l)) i none = none := by first | exact absurd c_42 (nI_nem1 (by omega)) | (simp_all [bst]; done)
              rw [sel_step (C := (fun j => decide (mo j = x) && !mn j)) (lt := (fun i l => !decide (mt i ≤ mt l))) c_13, hb9]
              rw [cnt_no (P := (fun j => decide (mo j = x) && !mn j)) c_13 (by simp_all)]
              exact e
            · have c_34 := pb_0.mp c_34
              refine pe_iincN d_Memory_pageToName_37 rfl (by decide) rfl ?_
              dsimp only [List.set]
              refine pe_iload_n d_Memory_pageToName_40 rfl ?_
              refine pe_iconst (v := -1) d_Memory_pageToName_41 (by decide) ?_
              refine pe_icmp_eq (tgt := 61) d_Memory_pageToName_42 (by decide) (fun c_42 => ?_) (fun c_42 => ?_)
              · refine pe_iload d_Memory_pageToName_61 rfl ?_
                refine pe_istore_n d_Memory_pageToName_63 (by decide) rfl ?_
                dsimp only [List.set]
                refine pe_iincN d_Memory_pageToName_64 rfl (by decide) rfl ?_
                dsimp only [List.set]
                refine pe_goto (tgt := 7) d_Memory_pageToName_67 (by decide) ?_
                have e := ih (i + 1) (u + 1) (some i) (by omega) (by omega) (fun y hy => by cases hy; omega) (by omega)
                have hb9 : bst (fun j => decide (mo j = x) && !mn j) (fun i l => !decide (mt i ≤ mt l)) i none = (some i) := by first | exact absurd c_42 (nI_nem1 (by omega)) | (simp_all [bst]; done)
                rw [sel_step (C := (fun j => decide (mo j = x) && !mn j)) (lt := (fun i l => !decide (mt i ≤ mt l))) c_13, hb9]
                rw [cnt_yes (P := (fun j => decide (mo j = x) && !mn j)) c_13 (by simp_all)]
                exact e
              · exact absurd rfl c_42
      | some y1, hb =>
        have hl : y1 < i := hb y1 rfl
        change pz_E l L xs M_Memory_pageToName 0 0 0 7 [some (.ref 1), some (.int x), some (.int (nI u)), some (.int (nI y1)), some (.int (nI i))] [] h z _
        refine pe_iload d_Memory_pageToName_7 rfl ?_
        refine pe_aload_n d_Memory_pageToName_9 rfl ?_
        refine pe_getf d_Memory_pageToName_10 f_Memory_9 hM rfl ?_
        refine pe_icmpN_ge (tgt := 70) d_Memory_pageToName_13 (by decide) (by omega) (by omega) (fun c_13 => ?_) (fun c_13 => ?_)
        · refine pe_iload_n d_Memory_pageToName_70 rfl ?_
          refine pe_iconst (v := nI 2) d_Memory_pageToName_71 (by decide) ?_
          refine pe_icmpN_le (tgt := 79) d_Memory_pageToName_72 (by decide) (by omega) (by omega) (fun c_72 => ?_) (fun c_72 => ?_)
          · refine pe_iconst (v := -1) d_Memory_pageToName_79 (by decide) ?_
            refine pe_iret d_Memory_pageToName_80 rfl ?_
            exact ⟨by rw [cnt_end (P := (fun j => decide (mo j = x) && !mn j)) (n := np) (i := i) (by omega), sel_end (C := (fun j => decide (mo j = x) && !mn j)) (lt := (fun i l => !decide (mt i ≤ mt l))) (n := np) (i := i) (by omega)]; first | (rw [if_pos (by omega)]; rfl) | (rw [if_neg (by omega)]), rfl, rfl⟩
          · refine pe_iload_n d_Memory_pageToName_75 rfl ?_
            refine pe_goto (tgt := 80) d_Memory_pageToName_76 (by decide) ?_
            refine pe_iret d_Memory_pageToName_80 rfl ?_
            exact ⟨by rw [cnt_end (P := (fun j => decide (mo j = x) && !mn j)) (n := np) (i := i) (by omega), sel_end (C := (fun j => decide (mo j = x) && !mn j)) (lt := (fun i l => !decide (mt i ≤ mt l))) (n := np) (i := i) (by omega)]; first | (rw [if_pos (by omega)]; rfl) | (rw [if_neg (by omega)]), rfl, rfl⟩
        · have c_13 : i < np := by omega
          refine pe_aload_n d_Memory_pageToName_16 rfl ?_
          refine pe_getf d_Memory_pageToName_17 f_Memory_19 hM rfl ?_
          refine pe_iload d_Memory_pageToName_20 rfl ?_
          refine pe_ialdN d_Memory_pageToName_22 hO (by omega) (by omega) ?_
          refine pe_iload_n d_Memory_pageToName_23 rfl ?_
          refine pe_icmp_ne (tgt := 64) d_Memory_pageToName_24 (by decide) (fun c_24 => ?_) (fun c_24 => ?_)
          · refine pe_iincN d_Memory_pageToName_64 rfl (by decide) rfl ?_
            dsimp only [List.set]
            refine pe_goto (tgt := 7) d_Memory_pageToName_67 (by decide) ?_
            have e := ih (i + 1) u (some y1) (by omega) (by omega) (fun y hy => by cases hy; omega) (by omega)
            have hb9 : bst (fun j => decide (mo j = x) && !mn j) (fun i l => !decide (mt i ≤ mt l)) i (some y1) = (some y1) := by first | exact absurd c_42 (nI_nem1 (by omega)) | (simp_all [bst]; done)
            rw [sel_step (C := (fun j => decide (mo j = x) && !mn j)) (lt := (fun i l => !decide (mt i ≤ mt l))) c_13, hb9]
            rw [cnt_no (P := (fun j => decide (mo j = x) && !mn j)) c_13 (by simp_all)]
            exact e
          · refine pe_aload_n d_Memory_pageToName_27 rfl ?_
            refine pe_getf d_Memory_pageToName_28 f_Memory_28 hM rfl ?_
            refine pe_iload d_Memory_pageToName_31 rfl ?_
            refine pe_zaldN d_Memory_pageToName_33 hN (by omega) (by omega) ?_
            refine pe_if_ne (tgt := 64) d_Memory_pageToName_34 (by decide) (fun c_34 => ?_) (fun c_34 => ?_)
            · have c_34 := pb_n0.mp c_34
              refine pe_iincN d_Memory_pageToName_64 rfl (by decide) rfl ?_
              dsimp only [List.set]
              refine pe_goto (tgt := 7) d_Memory_pageToName_67 (by decide) ?_
              have e := ih (i + 1) u (some y1) (by omega) (by omega) (fun y hy => by cases hy; omega) (by omega)
              have hb9 : bst (fun j => decide (mo j = x) && !mn j) (fun i l => !decide (mt i ≤ mt l)) i (some y1) = (some y1) := by first | exact absurd c_42 (nI_nem1 (by omega)) | (simp_all [bst]; done)
              rw [sel_step (C := (fun j => decide (mo j = x) && !mn j)) (lt := (fun i l => !decide (mt i ≤ mt l))) c_13, hb9]
              rw [cnt_no (P := (fun j => decide (mo j = x) && !mn j)) c_13 (by simp_all)]
              exact e
            · have c_34 := pb_0.mp c_34
              refine pe_iincN d_Memory_pageToName_37 rfl (by decide) rfl ?_
              dsimp only [List.set]
              refine pe_iload_n d_Memory_pageToName_40 rfl ?_
              refine pe_iconst (v := -1) d_Memory_pageToName_41 (by decide) ?_
              refine pe_icmp_eq (tgt := 61) d_Memory_pageToName_42 (by decide) (fun c_42 => ?_) (fun c_42 => ?_)
              · refine pe_iload d_Memory_pageToName_61 rfl ?_
                refine pe_istore_n d_Memory_pageToName_63 (by decide) rfl ?_
                dsimp only [List.set]
                refine pe_iincN d_Memory_pageToName_64 rfl (by decide) rfl ?_
                dsimp only [List.set]
                refine pe_goto (tgt := 7) d_Memory_pageToName_67 (by decide) ?_
                have e := ih (i + 1) (u + 1) (some i) (by omega) (by omega) (fun y hy => by cases hy; omega) (by omega)
                have hb9 : bst (fun j => decide (mo j = x) && !mn j) (fun i l => !decide (mt i ≤ mt l)) i (some y1) = (some i) := by first | exact absurd c_42 (nI_nem1 (by omega)) | (simp_all [bst]; done)
                rw [sel_step (C := (fun j => decide (mo j = x) && !mn j)) (lt := (fun i l => !decide (mt i ≤ mt l))) c_13, hb9]
                rw [cnt_yes (P := (fun j => decide (mo j = x) && !mn j)) c_13 (by simp_all)]
                exact e
              · refine pe_aload_n d_Memory_pageToName_45 rfl ?_
                refine pe_getf d_Memory_pageToName_46 f_Memory_25 hM rfl ?_
                refine pe_iload d_Memory_pageToName_49 rfl ?_
                refine pe_ialdN d_Memory_pageToName_51 hT (by omega) (by omega) ?_
                refine pe_aload_n d_Memory_pageToName_52 rfl ?_
                refine pe_getf d_Memory_pageToName_53 f_Memory_25 hM rfl ?_
                refine pe_iload_n d_Memory_pageToName_56 rfl ?_
                refine pe_ialdN d_Memory_pageToName_57 hT (by omega) (by omega) ?_
                refine pe_icmp_le (tgt := 64) d_Memory_pageToName_58 (by decide) (fun c_58 => ?_) (fun c_58 => ?_)
                · refine pe_iincN d_Memory_pageToName_64 rfl (by decide) rfl ?_
                  dsimp only [List.set]
                  refine pe_goto (tgt := 7) d_Memory_pageToName_67 (by decide) ?_
                  have e := ih (i + 1) (u + 1) (some y1) (by omega) (by omega) (fun y hy => by cases hy; omega) (by omega)
                  have hb9 : bst (fun j => decide (mo j = x) && !mn j) (fun i l => !decide (mt i ≤ mt l)) i (some y1) = (some y1) := by first | exact absurd c_42 (nI_nem1 (by omega)) | (simp_all [bst]; done)
                  rw [sel_step (C := (fun j => decide (mo j = x) && !mn j)) (lt := (fun i l => !decide (mt i ≤ mt l))) c_13, hb9]
                  rw [cnt_yes (P := (fun j => decide (mo j = x) && !mn j)) c_13 (by simp_all)]
                  exact e
                · refine pe_iload d_Memory_pageToName_61 rfl ?_
                  refine pe_istore_n d_Memory_pageToName_63 (by decide) rfl ?_
                  dsimp only [List.set]
                  refine pe_iincN d_Memory_pageToName_64 rfl (by decide) rfl ?_
                  dsimp only [List.set]
                  refine pe_goto (tgt := 7) d_Memory_pageToName_67 (by decide) ?_
                  have e := ih (i + 1) (u + 1) (some i) (by omega) (by omega) (fun y hy => by cases hy; omega) (by omega)
                  have hb9 : bst (fun j => decide (mo j = x) && !mn j) (fun i l => !decide (mt i ≤ mt l)) i (some y1) = (some i) := by first | exact absurd c_42 (nI_nem1 (by omega)) | (simp_all [bst]; done)
                  rw [sel_step (C := (fun j => decide (mo j = x) && !mn j)) (lt := (fun i l => !decide (mt i ≤ mt l))) c_13, hb9]
                  rw [cnt_yes (P := (fun j => decide (mo j = x) && !mn j)) c_13 (by simp_all)]
                  exact e

  change pz_E l L xs M_Memory_pageToName 0 0 0 0 [some (.ref 1), some (.int x), none, none, none] [] h z _
  refine pe_iconst (v := nI 0) d_Memory_pageToName_0 (by decide) ?_
  refine pe_istore_n d_Memory_pageToName_1 (by decide) rfl ?_
  dsimp only [List.set]
  refine pe_iconst (v := -1) d_Memory_pageToName_2 (by decide) ?_
  refine pe_istore_n d_Memory_pageToName_3 (by decide) rfl ?_
  dsimp only [List.set]
  refine pe_iconst (v := nI 0) d_Memory_pageToName_4 (by decide) ?_
  refine pe_istore d_Memory_pageToName_5 (by decide) rfl ?_
  dsimp only [List.set]
  have e := loop (np + 1) 0 0 none (by omega) (by omega) (fun y hy => by cases hy) (by omega)
  rw [Nat.zero_add] at e
  exact e
set_option maxHeartbeats 2000000 in
set_option maxRecDepth 20000 in
theorem c_Memory_firstDue {l : Launch} {L : Nat} {xs : Nat → Int32} {h : pz_H} {z : Nat} {np : Nat} {mw mo mr mt : Nat → Int32} {mn : Nat → Bool} {md : Nat → Int32} {ts ck : Nat} (hm : MEM h np mw mo mr mt mn md ts ck) : pz_K l L xs M_Memory_firstDue 0 0 0 [.ref 1] h z (fun v h' z' => v = some (.int (omi (sel (fun j => mn j && !decide (nI ck < md j)) (fun i l => !decide (md l ≤ md i)) (np - 0) 0 none))) ∧ h = h' ∧ z = z') := by
  obtain ⟨hM, hW, hO, hR, hT, hN, hD, hn1, hn2⟩ := id hm
  refine pz_K.of rfl (Nat.le_of_ble_eq_true rfl) ?_
  have loop : ∀ (n : Nat) (i : Nat) (b : Option Nat), i ≤ np → (∀ y, b = some y → y < i) → np + 1 ≤ i + n → pz_E l L xs M_Memory_firstDue 0 0 0 4 [some (.ref 1), some (.int (omi b)), some (.int (nI i))] [] h z (fun v h' z' => v = some (.int (omi (sel (fun j => mn j && !decide (nI ck < md j)) (fun i l => !decide (md l ≤ md i)) (np - i) i b))) ∧ h = h' ∧ z = z') := by
    intro n
    induction n with
    | zero => intros; omega
    | succ n ih =>
      intro i b hi hb hin
      match b, hb with
      | none, hb =>
        change pz_E l L xs M_Memory_firstDue 0 0 0 4 [some (.ref 1), some (.int (-1)), some (.int (nI i))] [] h z _
        refine pe_iload_n d_Memory_firstDue_4 rfl ?_
        refine pe_aload_n d_Memory_firstDue_5 rfl ?_
        refine pe_getf d_Memory_firstDue_6 f_Memory_9 hM rfl ?_
        refine pe_icmpN_ge (tgt := 62) d_Memory_firstDue_9 (by decide) (by omega) (by omega) (fun c_9 => ?_) (fun c_9 => ?_)
        · refine pe_iload_n d_Memory_firstDue_62 rfl ?_
          refine pe_iret d_Memory_firstDue_63 rfl ?_
          exact ⟨by rw [sel_end (C := (fun j => mn j && !decide (nI ck < md j))) (lt := (fun i l => !decide (md l ≤ md i))) (n := np) (i := i) (by omega)]; rfl, rfl, rfl⟩
        · have c_9 : i < np := by omega
          refine pe_aload_n d_Memory_firstDue_12 rfl ?_
          refine pe_getf d_Memory_firstDue_13 f_Memory_28 hM rfl ?_
          refine pe_iload_n d_Memory_firstDue_16 rfl ?_
          refine pe_zaldN d_Memory_firstDue_17 hN (by omega) (by omega) ?_
          refine pe_if_eq (tgt := 56) d_Memory_firstDue_18 (by decide) (fun c_18 => ?_) (fun c_18 => ?_)
          · have c_18 := pb_0.mp c_18
            refine pe_iincN d_Memory_firstDue_56 rfl (by decide) rfl ?_
            dsimp only [List.set]
            refine pe_goto (tgt := 4) d_Memory_firstDue_59 (by decide) ?_
            have e := ih (i + 1) none (by omega) (fun y hy => by cases hy) (by omega)
            have hb9 : bst (fun j => mn j && !decide (nI ck < md j)) (fun i l => !decide (md l ≤ md i)) i none = none := by first | exact absurd c_36 (nI_nem1 (by omega)) | (simp_all [bst]; done)
            rw [sel_step (C := (fun j => mn j && !decide (nI ck < md j))) (lt := (fun i l => !decide (md l ≤ md i))) c_9, hb9]
            exact e
          · have c_18 := pb_n0.mp c_18
            refine pe_aload_n d_Memory_firstDue_21 rfl ?_
            refine pe_getf d_Memory_firstDue_22 f_Memory_32 hM rfl ?_
            refine pe_iload_n d_Memory_firstDue_25 rfl ?_
            refine pe_ialdN d_Memory_firstDue_26 hD (by omega) (by omega) ?_
            refine pe_aload_n d_Memory_firstDue_27 rfl ?_
            refine pe_getf d_Memory_firstDue_28 f_Memory_38 hM rfl ?_
            refine pe_icmp_gt (tgt := 56) d_Memory_firstDue_31 (by decide) (fun c_31 => ?_) (fun c_31 => ?_)
            · refine pe_iincN d_Memory_firstDue_56 rfl (by decide) rfl ?_
              dsimp only [List.set]
              refine pe_goto (tgt := 4) d_Memory_firstDue_59 (by decide) ?_
              have e := ih (i + 1) none (by omega) (fun y hy => by cases hy) (by omega)
              have hb9 : bst (fun j => mn j && !decide (nI ck < md j)) (fun i l => !decide (md l ≤ md i)) i none = none := by first | exact absurd c_36 (nI_nem1 (by omega)) | (simp_all [bst]; done)
              rw [sel_step (C := (fun j => mn j && !decide (nI ck < md j))) (lt := (fun i l => !decide (md l ≤ md i))) c_9, hb9]
              exact e
            · refine pe_iload_n d_Memory_firstDue_34 rfl ?_
              refine pe_iconst (v := -1) d_Memory_firstDue_35 (by decide) ?_
              refine pe_icmp_eq (tgt := 54) d_Memory_firstDue_36 (by decide) (fun c_36 => ?_) (fun c_36 => ?_)
              · refine pe_iload_n d_Memory_firstDue_54 rfl ?_
                refine pe_istore_n d_Memory_firstDue_55 (by decide) rfl ?_
                dsimp only [List.set]
                refine pe_iincN d_Memory_firstDue_56 rfl (by decide) rfl ?_
                dsimp only [List.set]
                refine pe_goto (tgt := 4) d_Memory_firstDue_59 (by decide) ?_
                have e := ih (i + 1) (some i) (by omega) (fun y hy => by cases hy; omega) (by omega)
                have hb9 : bst (fun j => mn j && !decide (nI ck < md j)) (fun i l => !decide (md l ≤ md i)) i none = (some i) := by first | exact absurd c_36 (nI_nem1 (by omega)) | (simp_all [bst]; done)
                rw [sel_step (C := (fun j => mn j && !decide (nI ck < md j))) (lt := (fun i l => !decide (md l ≤ md i))) c_9, hb9]
                exact e
              · exact absurd rfl c_36
      | some y1, hb =>
        have hl : y1 < i := hb y1 rfl
        change pz_E l L xs M_Memory_firstDue 0 0 0 4 [some (.ref 1), some (.int (nI y1)), some (.int (nI i))] [] h z _
        refine pe_iload_n d_Memory_firstDue_4 rfl ?_
        refine pe_aload_n d_Memory_firstDue_5 rfl ?_
        refine pe_getf d_Memory_firstDue_6 f_Memory_9 hM rfl ?_
        refine pe_icmpN_ge (tgt := 62) d_Memory_firstDue_9 (by decide) (by omega) (by omega) (fun c_9 => ?_) (fun c_9 => ?_)
        · refine pe_iload_n d_Memory_firstDue_62 rfl ?_
          refine pe_iret d_Memory_firstDue_63 rfl ?_
          exact ⟨by rw [sel_end (C := (fun j => mn j && !decide (nI ck < md j))) (lt := (fun i l => !decide (md l ≤ md i))) (n := np) (i := i) (by omega)]; rfl, rfl, rfl⟩
        · have c_9 : i < np := by omega
          refine pe_aload_n d_Memory_firstDue_12 rfl ?_
          refine pe_getf d_Memory_firstDue_13 f_Memory_28 hM rfl ?_
          refine pe_iload_n d_Memory_firstDue_16 rfl ?_
          refine pe_zaldN d_Memory_firstDue_17 hN (by omega) (by omega) ?_
          refine pe_if_eq (tgt := 56) d_Memory_firstDue_18 (by decide) (fun c_18 => ?_) (fun c_18 => ?_)
          · have c_18 := pb_0.mp c_18
            refine pe_iincN d_Memory_firstDue_56 rfl (by decide) rfl ?_
            dsimp only [List.set]
            refine pe_goto (tgt := 4) d_Memory_firstDue_59 (by decide) ?_
            have e := ih (i + 1) (some y1) (by omega) (fun y hy => by cases hy; omega) (by omega)
            have hb9 : bst (fun j => mn j && !decide (nI ck < md j)) (fun i l => !decide (md l ≤ md i)) i (some y1) = (some y1) := by first | exact absurd c_36 (nI_nem1 (by omega)) | (simp_all [bst]; done)
            rw [sel_step (C := (fun j => mn j && !decide (nI ck < md j))) (lt := (fun i l => !decide (md l ≤ md i))) c_9, hb9]
            exact e
          · have c_18 := pb_n0.mp c_18
            refine pe_aload_n d_Memory_firstDue_21 rfl ?_
            refine pe_getf d_Memory_firstDue_22 f_Memory_32 hM rfl ?_
            refine pe_iload_n d_Memory_firstDue_25 rfl ?_
            refine pe_ialdN d_Memory_firstDue_26 hD (by omega) (by omega) ?_
            refine pe_aload_n d_Memory_firstDue_27 rfl ?_
            refine pe_getf d_Memory_firstDue_28 f_Memory_38 hM rfl ?_
            refine pe_icmp_gt (tgt := 56) d_Memory_firstDue_31 (by decide) (fun c_31 => ?_) (fun c_31 => ?_)
            · refine pe_iincN d_Memory_firstDue_56 rfl (by decide) rfl ?_
              dsimp only [List.set]
              refine pe_goto (tgt := 4) d_Memory_firstDue_59 (by decide) ?_
              have e := ih (i + 1) (some y1) (by omega) (fun y hy => by cases hy; omega) (by omega)
              have hb9 : bst (fun j => mn j && !decide (nI ck < md j)) (fun i l => !decide (md l ≤ md i)) i (some y1) = (some y1) := by first | exact absurd c_36 (nI_nem1 (by omega)) | (simp_all [bst]; done)
              rw [sel_step (C := (fun j => mn j && !decide (nI ck < md j))) (lt := (fun i l => !decide (md l ≤ md i))) c_9, hb9]
              exact e
            · refine pe_iload_n d_Memory_firstDue_34 rfl ?_
              refine pe_iconst (v := -1) d_Memory_firstDue_35 (by decide) ?_
              refine pe_icmp_eq (tgt := 54) d_Memory_firstDue_36 (by decide) (fun c_36 => ?_) (fun c_36 => ?_)
              · refine pe_iload_n d_Memory_firstDue_54 rfl ?_
                refine pe_istore_n d_Memory_firstDue_55 (by decide) rfl ?_
                dsimp only [List.set]
                refine pe_iincN d_Memory_firstDue_56 rfl (by decide) rfl ?_
                dsimp only [List.set]
                refine pe_goto (tgt := 4) d_Memory_firstDue_59 (by decide) ?_
                have e := ih (i + 1) (some i) (by omega) (fun y hy => by cases hy; omega) (by omega)
                have hb9 : bst (fun j => mn j && !decide (nI ck < md j)) (fun i l => !decide (md l ≤ md i)) i (some y1) = (some i) := by first | exact absurd c_36 (nI_nem1 (by omega)) | (simp_all [bst]; done)
                rw [sel_step (C := (fun j => mn j && !decide (nI ck < md j))) (lt := (fun i l => !decide (md l ≤ md i))) c_9, hb9]
                exact e
              · refine pe_aload_n d_Memory_firstDue_39 rfl ?_
                refine pe_getf d_Memory_firstDue_40 f_Memory_32 hM rfl ?_
                refine pe_iload_n d_Memory_firstDue_43 rfl ?_
                refine pe_ialdN d_Memory_firstDue_44 hD (by omega) (by omega) ?_
                refine pe_aload_n d_Memory_firstDue_45 rfl ?_
                refine pe_getf d_Memory_firstDue_46 f_Memory_32 hM rfl ?_
                refine pe_iload_n d_Memory_firstDue_49 rfl ?_
                refine pe_ialdN d_Memory_firstDue_50 hD (by omega) (by omega) ?_
                refine pe_icmp_ge (tgt := 56) d_Memory_firstDue_51 (by decide) (fun c_51 => ?_) (fun c_51 => ?_)
                · refine pe_iincN d_Memory_firstDue_56 rfl (by decide) rfl ?_
                  dsimp only [List.set]
                  refine pe_goto (tgt := 4) d_Memory_firstDue_59 (by decide) ?_
                  have e := ih (i + 1) (some y1) (by omega) (fun y hy => by cases hy; omega) (by omega)
                  have hb9 : bst (fun j => mn j && !decide (nI ck < md j)) (fun i l => !decide (md l ≤ md i)) i (some y1) = (some y1) := by first | exact absurd c_36 (nI_nem1 (by omega)) | (simp_all [bst]; done)
                  rw [sel_step (C := (fun j => mn j && !decide (nI ck < md j))) (lt := (fun i l => !decide (md l ≤ md i))) c_9, hb9]
                  exact e
                · refine pe_iload_n d_Memory_firstDue_54 rfl ?_
                  refine pe_istore_n d_Memory_firstDue_55 (by decide) rfl ?_
                  dsimp only [List.set]
                  refine pe_iincN d_Memory_firstDue_56 rfl (by decide) rfl ?_
                  dsimp only [List.set]
                  refine pe_goto (tgt := 4) d_Memory_firstDue_59 (by decide) ?_
                  have e := ih (i + 1) (some i) (by omega) (fun y hy => by cases hy; omega) (by omega)
                  have hb9 : bst (fun j => mn j && !decide (nI ck < md j)) (fun i l => !decide (md l ≤ md i)) i (some y1) = (some i) := by first | exact absurd c_36 (nI_nem1 (by omega)) | (simp_all [bst]; done)
                  rw [sel_step (C := (fun j => mn j && !decide (nI ck < md j))) (lt := (fun i l => !decide (md l ≤ md i))) c_9, hb9]
                  exact e

  change pz_E l L xs M_Memory_firstDue 0 0 0 0 [some (.ref 1), none, none] [] h z _
  refine pe_iconst (v := -1) d_Memory_firstDue_0 (by decide) ?_
  refine pe_istore_n d_Memory_firstDue_1 (by decide) rfl ?_
  dsimp only [List.set]
  refine pe_iconst (v := nI 0) d_Memory_firstDue_2 (by decide) ?_
  refine pe_istore_n d_Memory_firstDue_3 (by decide) rfl ?_
  dsimp only [List.set]
  exact loop (np + 1) 0 none (by omega) (fun y hy => by cases hy) (by omega)
end
section
/-! the blocks, the order of filters: contracts of Disk, FilterOrder -/
theorem fil_g {f g g' : Nat → Int32} {lo k : Nat} (h : ∀ j, lo ≤ j → j < lo + k → g j = g' j) : fil f g lo k = fil f g' lo k := by
  funext j
  unfold fil
  by_cases e : lo ≤ j ∧ j < lo + k
  · rw [if_pos e, if_pos e, h j e.1 e.2]
  · rw [if_neg e, if_neg e]
/-- what a new block's words hold: LINK words from fi on, lk of them -/
def lkw (b fi lk : Nat) : Nat → Int32 := fun j => if fi ≤ j - b * 8 ∧ j - b * 8 < fi + lk then -1 else 0
/-- the blocks of x among those below i are free -/
def frA (dn : Nat → Int32) (x : Int32) (i : Nat) : Nat → Int32 := fun j => if j < i ∧ dn j = x then -1 else dn j
theorem frA_0 (dn : Nat → Int32) (x : Int32) : frA dn x 0 = dn := by funext j; simp [frA]
theorem frA_i (dn : Nat → Int32) (x : Int32) (i : Nat) : frA dn x i i = dn i := by simp [frA]
theorem frA_y {dn : Nat → Int32} {x : Int32} {i : Nat} (hx : dn i = x) : upd (frA dn x i) i (-1) = frA dn x (i + 1) := by
  funext j
  by_cases e : j = i
  · subst e; simp [upd, frA, hx]
  · have h1 : (j < i) ↔ (j < i + 1) := by omega
    simp [upd, frA, e, h1]
theorem frA_n {dn : Nat → Int32} {x : Int32} {i : Nat} (hx : ¬ dn i = x) : frA dn x i = frA dn x (i + 1) := by
  funext j
  by_cases e : j = i
  · subst e; simp [frA, hx]
  · have h1 : (j < i) ↔ (j < i + 1) := by omega
    simp [frA, h1]
set_option maxHeartbeats 4000000 in
set_option maxRecDepth 20000 in
theorem c_Disk_hasBlock {l : Launch} {L : Nat} {xs : Nat → Int32} {h : pz_H} {z : Nat}  {nb : Nat} {dw dn : Nat → Int32} (hd : DSK h nb dw dn) (x : Int32) : pz_K l L xs M_Disk_hasBlock 0 0 0 [.ref 8, .int x] h z (fun v h' z' => v = some (.int (pb (decide (¬ x < 0 ∧ ¬ nI nb ≤ x)))) ∧ h = h' ∧ z = z') := by
  obtain ⟨hDS, hDW, hDO, hb1, hb2⟩ := id hd
  refine pz_K.of rfl (Nat.le_of_ble_eq_true rfl) ?_
  change pz_E l L xs M_Disk_hasBlock 0 0 0 0 [some (.ref 8), some (.int x)] [] h z _
  refine pe_iload_n d_Disk_hasBlock_0 rfl ?_
  refine pe_if_lt (tgt := 16) d_Disk_hasBlock_1 (by decide) (fun c_1 => ?_) (fun c_1 => ?_)
  · refine pe_iconst (v := nI 0) d_Disk_hasBlock_16 (by decide) ?_
    refine pe_zret d_Disk_hasBlock_17 rfl (by decide) ?_
    exact ⟨pb_no (fun q => by first | exact q.1 c_1 | exact q.2 c_9), rfl, rfl⟩
  · refine pe_iload_n d_Disk_hasBlock_4 rfl ?_
    refine pe_aload_n d_Disk_hasBlock_5 rfl ?_
    refine pe_getf d_Disk_hasBlock_6 f_Disk_9 hDS rfl ?_
    refine pe_icmp_ge (tgt := 16) d_Disk_hasBlock_9 (by decide) (fun c_9 => ?_) (fun c_9 => ?_)
    · refine pe_iconst (v := nI 0) d_Disk_hasBlock_16 (by decide) ?_
      refine pe_zret d_Disk_hasBlock_17 rfl (by decide) ?_
      exact ⟨pb_no (fun q => by first | exact q.1 c_1 | exact q.2 c_9), rfl, rfl⟩
    · refine pe_iconst (v := nI 1) d_Disk_hasBlock_12 (by decide) ?_
      refine pe_goto (tgt := 17) d_Disk_hasBlock_13 (by decide) ?_
      refine pe_zret d_Disk_hasBlock_17 rfl (by decide) ?_
      exact ⟨pb_yes ⟨c_1, c_9⟩, rfl, rfl⟩
set_option maxHeartbeats 4000000 in
set_option maxRecDepth 20000 in
theorem c_Disk_ownerOf {l : Launch} {L : Nat} {xs : Nat → Int32} {h : pz_H} {z : Nat}  {nb : Nat} {dw dn : Nat → Int32} (hd : DSK h nb dw dn) {b : Nat} (hb : b < nb) : pz_K l L xs M_Disk_ownerOf 0 0 0 [.ref 8, .int (nI b)] h z (fun v h' z' => v = some (.int (dn b)) ∧ h = h' ∧ z = z') := by
  obtain ⟨hDS, hDW, hDO, hb1, hb2⟩ := id hd
  refine pz_K.of rfl (Nat.le_of_ble_eq_true rfl) ?_
  change pz_E l L xs M_Disk_ownerOf 0 0 0 0 [some (.ref 8), some (.int (nI b))] [] h z _
  refine pe_aload_n d_Disk_ownerOf_0 rfl ?_
  refine pe_getf d_Disk_ownerOf_1 f_Disk_19 hDS rfl ?_
  refine pe_iload_n d_Disk_ownerOf_4 rfl ?_
  refine pe_ialdN d_Disk_ownerOf_5 hDO (by omega) (by omega) ?_
  refine pe_iret d_Disk_ownerOf_6 rfl ?_
  exact ⟨rfl, rfl, rfl⟩
set_option maxHeartbeats 4000000 in
set_option maxRecDepth 20000 in
theorem c_Disk_isFree {l : Launch} {L : Nat} {xs : Nat → Int32} {h : pz_H} {z : Nat}  {nb : Nat} {dw dn : Nat → Int32} (hd : DSK h nb dw dn) {b : Nat} (hb : b < nb) : pz_K l L xs M_Disk_isFree 0 0 0 [.ref 8, .int (nI b)] h z (fun v h' z' => v = some (.int (pb (decide (dn b = -1)))) ∧ h = h' ∧ z = z') := by
  obtain ⟨hDS, hDW, hDO, hb1, hb2⟩ := id hd
  refine pz_K.of rfl (Nat.le_of_ble_eq_true rfl) ?_
  change pz_E l L xs M_Disk_isFree 0 0 0 0 [some (.ref 8), some (.int (nI b))] [] h z _
  refine pe_aload_n d_Disk_isFree_0 rfl ?_
  refine pe_getf d_Disk_isFree_1 f_Disk_19 hDS rfl ?_
  refine pe_iload_n d_Disk_isFree_4 rfl ?_
  refine pe_ialdN d_Disk_isFree_5 hDO (by omega) (by omega) ?_
  refine pe_iconst (v := -1) d_Disk_isFree_6 (by decide) ?_
  refine pe_icmp_ne (tgt := 14) d_Disk_isFree_7 (by decide) (fun c_7 => ?_) (fun c_7 => ?_)
  · refine pe_iconst (v := nI 0) d_Disk_isFree_14 (by decide) ?_
    refine pe_zret d_Disk_isFree_15 rfl (by decide) ?_
    exact ⟨pb_no (fun q => by first | exact c_7 q), rfl, rfl⟩
  · refine pe_iconst (v := nI 1) d_Disk_isFree_10 (by decide) ?_
    refine pe_goto (tgt := 15) d_Disk_isFree_11 (by decide) ?_
    refine pe_zret d_Disk_isFree_15 rfl (by decide) ?_
    exact ⟨pb_yes c_7, rfl, rfl⟩
set_option maxHeartbeats 4000000 in
set_option maxRecDepth 20000 in
theorem c_Disk_wordOf {l : Launch} {L : Nat} {xs : Nat → Int32} {h : pz_H} {z : Nat}  {nb : Nat} {dw dn : Nat → Int32} (hd : DSK h nb dw dn) {b q : Nat} (hb : b < nb) (hq : q < 8) : pz_K l L xs M_Disk_wordOf 0 0 0 [.ref 8, .int (nI b), .int (nI q)] h z (fun v h' z' => v = some (.int (dw (b * 8 + q))) ∧ h = h' ∧ z = z') := by
  obtain ⟨hDS, hDW, hDO, hb1, hb2⟩ := id hd
  refine pz_K.of rfl (Nat.le_of_ble_eq_true rfl) ?_
  change pz_E l L xs M_Disk_wordOf 0 0 0 0 [some (.ref 8), some (.int (nI b)), some (.int (nI q))] [] h z _
  refine pe_aload_n d_Disk_wordOf_0 rfl ?_
  refine pe_getf d_Disk_wordOf_1 f_Disk_15 hDS rfl ?_
  refine pe_iload_n d_Disk_wordOf_4 rfl ?_
  refine pe_bipush (v := nI 8) d_Disk_wordOf_5 (by decide) ?_
  refine pe_imulN d_Disk_wordOf_7 ?_
  refine pe_iload_n d_Disk_wordOf_8 rfl ?_
  refine pe_iaddN d_Disk_wordOf_9 ?_
  refine pe_ialdN d_Disk_wordOf_10 hDW (by omega) (by omega) ?_
  refine pe_iret d_Disk_wordOf_11 rfl ?_
  exact ⟨rfl, rfl, rfl⟩
set_option maxHeartbeats 4000000 in
set_option maxRecDepth 20000 in
theorem c_Disk_setWord {l : Launch} {L : Nat} {xs : Nat → Int32} {h : pz_H} {z : Nat}  {nb : Nat} {dw dn : Nat → Int32} (hd : DSK h nb dw dn) {b q : Nat} (hb : b < nb) (hq : q < 8) (x : Int32) : pz_K l L xs M_Disk_setWord 0 0 0 [.ref 8, .int (nI b), .int (nI q), .int x] h z (fun v h' z' => v = none ∧ z = z' ∧ DSK h' nb (upd dw (b * 8 + q) x) dn ∧ frm 8 11 h h') := by
  obtain ⟨hDS, hDW, hDO, hb1, hb2⟩ := id hd
  have hf : frm 8 11 h h := frm.rf
  refine pz_K.of rfl (Nat.le_of_ble_eq_true rfl) ?_
  change pz_E l L xs M_Disk_setWord 0 0 0 0 [some (.ref 8), some (.int (nI b)), some (.int (nI q)), some (.int x)] [] h z _
  refine pe_aload_n d_Disk_setWord_0 rfl ?_
  refine pe_getf d_Disk_setWord_1 f_Disk_15 hDS rfl ?_
  refine pe_iload_n d_Disk_setWord_4 rfl ?_
  refine pe_bipush (v := nI 8) d_Disk_setWord_5 (by decide) ?_
  refine pe_imulN d_Disk_setWord_7 ?_
  refine pe_iload_n d_Disk_setWord_8 rfl ?_
  refine pe_iaddN d_Disk_setWord_9 ?_
  refine pe_iload_n d_Disk_setWord_10 rfl ?_
  refine pe_iastN d_Disk_setWord_11 hDW (by omega) (by omega) ?_
  refine pe_pu (fun h2 e2 o2 => ?_)
  have hDS := (o2 (8) (by omega)).trans hDS
  have hDW := e2
  have hDO := (o2 (10) (by omega)).trans hDO
  have hf := hf.st o2 (by omega) (by omega)
  refine pe_vret d_Disk_setWord_12 rfl ?_
  exact ⟨rfl, rfl, ⟨hDS, hDW, hDO, hb1, hb2⟩, hf⟩
set_option maxHeartbeats 4000000 in
set_option maxRecDepth 20000 in
theorem c_Disk_free {l : Launch} {L : Nat} {xs : Nat → Int32} {h : pz_H} {z : Nat}  {nb : Nat} {dw dn : Nat → Int32} (hd : DSK h nb dw dn) {b : Nat} (hb : b < nb) : pz_K l L xs M_Disk_free 0 0 0 [.ref 8, .int (nI b)] h z (fun v h' z' => v = none ∧ z = z' ∧ DSK h' nb dw (upd dn b (-1)) ∧ frm 8 11 h h') := by
  obtain ⟨hDS, hDW, hDO, hb1, hb2⟩ := id hd
  have hf : frm 8 11 h h := frm.rf
  refine pz_K.of rfl (Nat.le_of_ble_eq_true rfl) ?_
  change pz_E l L xs M_Disk_free 0 0 0 0 [some (.ref 8), some (.int (nI b))] [] h z _
  refine pe_aload_n d_Disk_free_0 rfl ?_
  refine pe_getf d_Disk_free_1 f_Disk_19 hDS rfl ?_
  refine pe_iload_n d_Disk_free_4 rfl ?_
  refine pe_iconst (v := -1) d_Disk_free_5 (by decide) ?_
  refine pe_iastN d_Disk_free_6 hDO (by omega) (by omega) ?_
  refine pe_pu (fun h2 e2 o2 => ?_)
  have hDS := (o2 (8) (by omega)).trans hDS
  have hDW := (o2 (9) (by omega)).trans hDW
  have hDO := e2
  have hf := hf.st o2 (by omega) (by omega)
  refine pe_vret d_Disk_free_7 rfl ?_
  exact ⟨rfl, rfl, ⟨hDS, hDW, hDO, hb1, hb2⟩, hf⟩
set_option maxHeartbeats 4000000 in
set_option maxRecDepth 20000 in
theorem c_Disk_leastFree {l : Launch} {L : Nat} {xs : Nat → Int32} {h : pz_H} {z : Nat}  {nb : Nat} {dw dn : Nat → Int32} (hd : DSK h nb dw dn) : pz_K l L xs M_Disk_leastFree 1 0 0 [.ref 8] h z (fun v h' z' => v = some (.int (orm nb (ff (fun j => decide (dn j = -1)) (nb - 0) 0))) ∧ h = h' ∧ z = z') := by
  obtain ⟨hDS, hDW, hDO, hb1, hb2⟩ := id hd
  refine pz_K.of rfl (Nat.le_of_ble_eq_true rfl) ?_
  have loop : ∀ (n : Nat) (i : Nat), i ≤ nb → nb + 1 ≤ i + n → pz_E l L xs M_Disk_leastFree 1 0 0 2 [some (.ref 8), some (.int (nI i))] [] h z (fun v h' z' => v = some (.int (orm nb (ff (fun j => decide (dn j = -1)) (nb - i) i))) ∧ h = h' ∧ z = z') := by
    intro n
    induction n with
    | zero => intros; omega
    | succ n ih =>
      intro i hi hin
      refine pe_iload_n d_Disk_leastFree_2 rfl ?_
      refine pe_aload_n d_Disk_leastFree_3 rfl ?_
      refine pe_getf d_Disk_leastFree_4 f_Disk_9 hDS rfl ?_
      refine pe_icmpN_ge (tgt := 26) d_Disk_leastFree_7 (by decide) (by omega) (by omega) (fun c_7 => ?_) (fun c_7 => ?_)
      · refine pe_iconst (v := -1) d_Disk_leastFree_26 (by decide) ?_
        refine pe_iret d_Disk_leastFree_27 rfl ?_
        exact ⟨by rw [ff_end (by omega), orm_ge (by omega)], rfl, rfl⟩
      · have c_7 : i < nb := by omega
        refine pe_aload_n d_Disk_leastFree_10 rfl ?_
        refine pe_iload_n d_Disk_leastFree_11 rfl ?_
        -- 12: Disk_isFree
        refine pe_callV d_Disk_leastFree_12 m_Disk_22 j_Disk_isFree v_Disk_isFree (c_Disk_isFree hd (b := i) (by omega)) rfl rfl (by simp [Value.category]) (by decide) hDS rfl rfl ?_
        intro v1 h1 z1 hq1
        obtain ⟨rfl, rfl, rfl⟩ := hq1
        change pz_E _ _ _ _ _ _ _ _ _ (_ :: _) _ _ _
        refine pe_if_eq (tgt := 20) d_Disk_leastFree_15 (by decide) (fun c_15 => ?_) (fun c_15 => ?_)
        · have c_15 := pb_0.mp c_15
          refine pe_iincN d_Disk_leastFree_20 rfl (by decide) rfl ?_
          dsimp only [List.set]
          refine pe_goto (tgt := 2) d_Disk_leastFree_23 (by decide) ?_
          have e := ih (i + 1) (by omega) (by omega)
          rw [← ff_no c_7 (by simpa using c_15)] at e
          exact e
        · have c_15 := pb_n0.mp c_15
          refine pe_iload_n d_Disk_leastFree_18 rfl ?_
          refine pe_iret d_Disk_leastFree_19 rfl ?_
          exact ⟨by rw [ff_yes c_7 (by simpa using c_15), orm_lt c_7], rfl, rfl⟩
  change pz_E l L xs M_Disk_leastFree 1 0 0 0 [some (.ref 8), none] [] h z _
  refine pe_iconst (v := nI 0) d_Disk_leastFree_0 (by decide) ?_
  refine pe_istore_n d_Disk_leastFree_1 (by decide) rfl ?_
  dsimp only [List.set]
  exact loop (nb + 1) 0 (by omega) (by omega)
set_option maxHeartbeats 4000000 in
set_option maxRecDepth 20000 in
theorem c_Disk_blocksOf {l : Launch} {L : Nat} {xs : Nat → Int32} {h : pz_H} {z : Nat}  {nb : Nat} {dw dn : Nat → Int32} (hd : DSK h nb dw dn) (x : Int32) : pz_K l L xs M_Disk_blocksOf 0 0 0 [.ref 8, .int x] h z (fun v h' z' => v = some (.int (nI (cnt (fun j => decide (dn j = x)) (nb - 0) 0))) ∧ h = h' ∧ z = z') := by
  obtain ⟨hDS, hDW, hDO, hb1, hb2⟩ := id hd
  refine pz_K.of rfl (Nat.le_of_ble_eq_true rfl) ?_
  have loop : ∀ (n : Nat) (i u : Nat), i ≤ nb → u ≤ i → nb + 1 ≤ i + n → pz_E l L xs M_Disk_blocksOf 0 0 0 4 [some (.ref 8), some (.int x), some (.int (nI u)), some (.int (nI i))] [] h z (fun v h' z' => v = some (.int (nI (u + cnt (fun j => decide (dn j = x)) (nb - i) i))) ∧ h = h' ∧ z = z') := by
    intro n
    induction n with
    | zero => intros; omega
    | succ n ih =>
      intro i u hi hu hin
      refine pe_iload_n d_Disk_blocksOf_4 rfl ?_
      refine pe_aload_n d_Disk_blocksOf_5 rfl ?_
      refine pe_getf d_Disk_blocksOf_6 f_Disk_9 hDS rfl ?_
      refine pe_icmpN_ge (tgt := 31) d_Disk_blocksOf_9 (by decide) (by omega) (by omega) (fun c_9 => ?_) (fun c_9 => ?_)
      · refine pe_iload_n d_Disk_blocksOf_31 rfl ?_
        refine pe_iret d_Disk_blocksOf_32 rfl ?_
        rw [cnt_end (P := (fun j => decide (dn j = x))) (by omega)]
        exact ⟨rfl, rfl, rfl⟩
      · have c_9 : i < nb := by omega
        refine pe_aload_n d_Disk_blocksOf_12 rfl ?_
        refine pe_getf d_Disk_blocksOf_13 f_Disk_19 hDS rfl ?_
        refine pe_iload_n d_Disk_blocksOf_16 rfl ?_
        refine pe_ialdN d_Disk_blocksOf_17 hDO (by omega) (by omega) ?_
        refine pe_iload_n d_Disk_blocksOf_18 rfl ?_
        refine pe_icmp_ne (tgt := 25) d_Disk_blocksOf_19 (by decide) (fun c_19 => ?_) (fun c_19 => ?_)
        · refine pe_iincN d_Disk_blocksOf_25 rfl (by decide) rfl ?_
          dsimp only [List.set]
          refine pe_goto (tgt := 4) d_Disk_blocksOf_28 (by decide) ?_
          have e := ih (i + 1) u (by omega) (by omega) (by omega)
          rw [cnt_no (P := (fun j => decide (dn j = x))) c_9 (by simp_all)]
          exact e
        · refine pe_iincN d_Disk_blocksOf_22 rfl (by decide) rfl ?_
          dsimp only [List.set]
          refine pe_iincN d_Disk_blocksOf_25 rfl (by decide) rfl ?_
          dsimp only [List.set]
          refine pe_goto (tgt := 4) d_Disk_blocksOf_28 (by decide) ?_
          have e := ih (i + 1) (u + 1) (by omega) (by omega) (by omega)
          rw [cnt_yes (P := (fun j => decide (dn j = x))) c_9 (by simp_all)]
          exact e
  change pz_E l L xs M_Disk_blocksOf 0 0 0 0 [some (.ref 8), some (.int x), none, none] [] h z _
  refine pe_iconst (v := nI 0) d_Disk_blocksOf_0 (by decide) ?_
  refine pe_istore_n d_Disk_blocksOf_1 (by decide) rfl ?_
  dsimp only [List.set]
  refine pe_iconst (v := nI 0) d_Disk_blocksOf_2 (by decide) ?_
  refine pe_istore_n d_Disk_blocksOf_3 (by decide) rfl ?_
  dsimp only [List.set]
  have e := loop (nb + 1) 0 0 (by omega) (by omega) (by omega)
  rw [Nat.zero_add] at e
  exact e
set_option maxHeartbeats 4000000 in
set_option maxRecDepth 20000 in
theorem c_Disk_freeAllOf {l : Launch} {L : Nat} {xs : Nat → Int32} {h : pz_H} {z : Nat}  {nb : Nat} {dw dn : Nat → Int32} (hd : DSK h nb dw dn) (x : Int32) : pz_K l L xs M_Disk_freeAllOf 1 0 0 [.ref 8, .int x] h z (fun v h' z' => v = none ∧ z = z' ∧ DSK h' nb dw (frA dn x nb) ∧ frm 8 11 h h') := by
  obtain ⟨hDS, hDW, hDO, hb1, hb2⟩ := id hd
  have hf : frm 8 11 h h := frm.rf
  refine pz_K.of rfl (Nat.le_of_ble_eq_true rfl) ?_
  have loop : ∀ (n : Nat) (i : Nat) (k : pz_H), i ≤ nb → nb + 1 ≤ i + n → DSK k nb dw (frA dn x i) → frm 8 11 h k → pz_E l L xs M_Disk_freeAllOf 1 0 0 2 [some (.ref 8), some (.int x), some (.int (nI i))] [] k z (fun v h' z' => v = none ∧ z = z' ∧ DSK h' nb dw (frA dn x nb) ∧ frm 8 11 h h') := by
    intro n
    induction n with
    | zero => intros; omega
    | succ n ih =>
      intro i k hi hin hd hf
      obtain ⟨hDS, hDW, hDO, hb1, hb2⟩ := id hd
      refine pe_iload_n d_Disk_freeAllOf_2 rfl ?_
      refine pe_aload_n d_Disk_freeAllOf_3 rfl ?_
      refine pe_getf d_Disk_freeAllOf_4 f_Disk_9 hDS rfl ?_
      refine pe_icmpN_ge (tgt := 31) d_Disk_freeAllOf_7 (by decide) (by omega) (by omega) (fun c_7 => ?_) (fun c_7 => ?_)
      · refine pe_vret d_Disk_freeAllOf_31 rfl ?_
        have e : i = nb := by omega
        subst e
        exact ⟨rfl, rfl, hd, hf⟩
      · have c_7 : i < nb := by omega
        refine pe_aload_n d_Disk_freeAllOf_10 rfl ?_
        refine pe_getf d_Disk_freeAllOf_11 f_Disk_19 hDS rfl ?_
        refine pe_iload_n d_Disk_freeAllOf_14 rfl ?_
        refine pe_ialdN d_Disk_freeAllOf_15 hDO (by omega) (by omega) ?_
        refine pe_iload_n d_Disk_freeAllOf_16 rfl ?_
        refine pe_icmp_ne (tgt := 25) d_Disk_freeAllOf_17 (by decide) (fun c_17 => ?_) (fun c_17 => ?_)
        · refine pe_iincN d_Disk_freeAllOf_25 rfl (by decide) rfl ?_
          dsimp only [List.set]
          refine pe_goto (tgt := 2) d_Disk_freeAllOf_28 (by decide) ?_
          rw [frA_i] at c_17
          first | (rw [frA_y c_17] at hd; exact ih (i + 1) _ (by omega) (by omega) hd hf) | (rw [frA_n c_17] at hd; exact ih (i + 1) _ (by omega) (by omega) hd hf)
        · refine pe_aload_n d_Disk_freeAllOf_20 rfl ?_
          refine pe_iload_n d_Disk_freeAllOf_21 rfl ?_
          -- 22: Disk_free
          refine pe_callV d_Disk_freeAllOf_22 m_Disk_30 j_Disk_free v_Disk_free (c_Disk_free hd (b := i) (by omega)) rfl rfl (by simp [Value.category]) (by decide) hDS rfl rfl ?_
          intro v1 h1 z1 hq1
          obtain ⟨rfl, rfl, hd, hf1⟩ := hq1
          obtain ⟨hDS, hDW, hDO, hb1, hb2⟩ := id hd
          have hf := hf.tr hf1
          change pz_E _ _ _ _ _ _ _ _ _ _ _ _ _
          refine pe_iincN d_Disk_freeAllOf_25 rfl (by decide) rfl ?_
          dsimp only [List.set]
          refine pe_goto (tgt := 2) d_Disk_freeAllOf_28 (by decide) ?_
          rw [frA_i] at c_17
          first | (rw [frA_y c_17] at hd; exact ih (i + 1) _ (by omega) (by omega) hd hf) | (rw [frA_n c_17] at hd; exact ih (i + 1) _ (by omega) (by omega) hd hf)
  change pz_E l L xs M_Disk_freeAllOf 1 0 0 0 [some (.ref 8), some (.int x), none] [] h z _
  refine pe_iconst (v := nI 0) d_Disk_freeAllOf_0 (by decide) ?_
  refine pe_istore_n d_Disk_freeAllOf_1 (by decide) rfl ?_
  dsimp only [List.set]
  have hd : DSK h nb dw (frA dn x 0) := by rw [frA_0]; exact hd
  exact loop (nb + 1) 0 _ (by omega) (by omega) hd hf
set_option maxHeartbeats 4000000 in
set_option maxRecDepth 20000 in
theorem c_Disk_bind {l : Launch} {L : Nat} {xs : Nat → Int32} {h : pz_H} {z : Nat}  {nb : Nat} {dw dn : Nat → Int32} (hd : DSK h nb dw dn) {b fi lk : Nat} (hb : b < nb) (hfl : fi + lk ≤ 8) (x : Int32) : pz_K l L xs M_Disk_bind 1 0 0 [.ref 8, .int (nI b), .int x, .int (nI fi), .int (nI lk)] h z (fun v h' z' => v = none ∧ z = z' ∧ DSK h' nb (fil dw (lkw b fi lk) (b * 8) 8) (upd dn b x) ∧ frm 8 11 h h') := by
  obtain ⟨hDS, hDW, hDO, hb1, hb2⟩ := id hd
  have hf : frm 8 11 h h := frm.rf
  refine pz_K.of rfl (Nat.le_of_ble_eq_true rfl) ?_
  have loop : ∀ (n : Nat) (i : Nat) (k : pz_H), i ≤ 8 → 9 ≤ i + n → DSK k nb (fil dw (lkw b fi lk) (b * 8) i) (upd dn b x) → frm 8 11 h k → pz_E l L xs M_Disk_bind 1 0 0 10 [some (.ref 8), some (.int (nI b)), some (.int x), some (.int (nI fi)), some (.int (nI lk)), some (.int (nI i)), none] [] k z (fun v h' z' => v = none ∧ z = z' ∧ DSK h' nb (fil dw (lkw b fi lk) (b * 8) 8) (upd dn b x) ∧ frm 8 11 h h') := by
    intro n
    induction n with
    | zero => intros; omega
    | succ n ih =>
      intro i k hi hin hd hf
      obtain ⟨hDS, hDW, hDO, hb1, hb2⟩ := id hd
      refine pe_iload d_Disk_bind_10 rfl ?_
      refine pe_bipush (v := nI 8) d_Disk_bind_12 (by decide) ?_
      refine pe_icmpN_ge (tgt := 62) d_Disk_bind_14 (by decide) (by omega) (by omega) (fun c_14 => ?_) (fun c_14 => ?_)
      · refine pe_vret d_Disk_bind_62 rfl ?_
        have e : i = 8 := by omega
        subst e
        exact ⟨rfl, rfl, hd, hf⟩
      · refine pe_iload d_Disk_bind_17 rfl ?_
        refine pe_iload_n d_Disk_bind_19 rfl ?_
        refine pe_icmpN_lt (tgt := 36) d_Disk_bind_20 (by decide) (by omega) (by omega) (fun c_20 => ?_) (fun c_20 => ?_)
        · refine pe_iconst (v := nI 0) d_Disk_bind_36 (by decide) ?_
          refine pe_istore d_Disk_bind_37 (by decide) rfl ?_
          dsimp only [List.set]
          refine pe_aload_n d_Disk_bind_39 rfl ?_
          refine pe_iload_n d_Disk_bind_40 rfl ?_
          refine pe_iload d_Disk_bind_41 rfl ?_
          refine pe_iload d_Disk_bind_43 rfl ?_
          refine pe_if_eq (tgt := 52) d_Disk_bind_45 (by decide) (fun c_45 => ?_) (fun c_45 => ?_)
          · refine pe_iconst (v := nI 0) d_Disk_bind_52 (by decide) ?_
            -- 53: Disk_setWord
            refine pe_callV d_Disk_bind_53 m_Disk_26 j_Disk_setWord v_Disk_setWord (c_Disk_setWord hd (b := b) (q := i) (by omega) (by omega) (nI 0)) rfl rfl (by simp [Value.category]) (by decide) hDS rfl rfl ?_
            intro v1 h1 z1 hq1
            obtain ⟨rfl, rfl, hd, hf1⟩ := hq1
            obtain ⟨hDS, hDW, hDO, hb1, hb2⟩ := id hd
            have hf := hf.tr hf1
            rw [show (nI 0) = lkw b fi lk (b * 8 + i) from by unfold lkw; rw [show b * 8 + i - b * 8 = i by omega]; first | (rw [if_pos (by omega)]; done) | (rw [if_neg (by omega)]; rfl) | (exfalso; revert c_45; decide), fil_s] at hd
            change pz_E _ _ _ _ _ _ _ _ _ _ _ _ _
            refine pe_iincN d_Disk_bind_56 rfl (by decide) rfl ?_
            dsimp only [List.set]
            refine pe_goto (tgt := 10) d_Disk_bind_59 (by decide) ?_
            exact pe_ls (ls' := [some (.ref 8), some (.int (nI b)), some (.int x), some (.int (nI fi)), some (.int (nI lk)), some (.int (nI (i + 1))), none]) (fun j v hj => by match j, hj with | 0, hj => exact hj | 1, hj => exact hj | 2, hj => exact hj | 3, hj => exact hj | 4, hj => exact hj | 5, hj => exact hj | 6, hj => cases hj | j + 7, hj => cases hj) (ih (i + 1) _ (by omega) (by omega) hd hf)
          · refine pe_iconst (v := -1) d_Disk_bind_48 (by decide) ?_
            refine pe_goto (tgt := 53) d_Disk_bind_49 (by decide) ?_
            -- 53: Disk_setWord
            refine pe_callV d_Disk_bind_53 m_Disk_26 j_Disk_setWord v_Disk_setWord (c_Disk_setWord hd (b := b) (q := i) (by omega) (by omega) (-1)) rfl rfl (by simp [Value.category]) (by decide) hDS rfl rfl ?_
            intro v1 h1 z1 hq1
            obtain ⟨rfl, rfl, hd, hf1⟩ := hq1
            obtain ⟨hDS, hDW, hDO, hb1, hb2⟩ := id hd
            have hf := hf.tr hf1
            rw [show (-1) = lkw b fi lk (b * 8 + i) from by unfold lkw; rw [show b * 8 + i - b * 8 = i by omega]; first | (rw [if_pos (by omega)]; done) | (rw [if_neg (by omega)]; rfl) | (exfalso; revert c_45; decide), fil_s] at hd
            change pz_E _ _ _ _ _ _ _ _ _ _ _ _ _
            refine pe_iincN d_Disk_bind_56 rfl (by decide) rfl ?_
            dsimp only [List.set]
            refine pe_goto (tgt := 10) d_Disk_bind_59 (by decide) ?_
            exact pe_ls (ls' := [some (.ref 8), some (.int (nI b)), some (.int x), some (.int (nI fi)), some (.int (nI lk)), some (.int (nI (i + 1))), none]) (fun j v hj => by match j, hj with | 0, hj => exact hj | 1, hj => exact hj | 2, hj => exact hj | 3, hj => exact hj | 4, hj => exact hj | 5, hj => exact hj | 6, hj => cases hj | j + 7, hj => cases hj) (ih (i + 1) _ (by omega) (by omega) hd hf)
        · refine pe_iload d_Disk_bind_23 rfl ?_
          refine pe_iload_n d_Disk_bind_25 rfl ?_
          refine pe_iload d_Disk_bind_26 rfl ?_
          refine pe_iaddN d_Disk_bind_28 ?_
          refine pe_icmpN_ge (tgt := 36) d_Disk_bind_29 (by decide) (by omega) (by omega) (fun c_29 => ?_) (fun c_29 => ?_)
          · refine pe_iconst (v := nI 0) d_Disk_bind_36 (by decide) ?_
            refine pe_istore d_Disk_bind_37 (by decide) rfl ?_
            dsimp only [List.set]
            refine pe_aload_n d_Disk_bind_39 rfl ?_
            refine pe_iload_n d_Disk_bind_40 rfl ?_
            refine pe_iload d_Disk_bind_41 rfl ?_
            refine pe_iload d_Disk_bind_43 rfl ?_
            refine pe_if_eq (tgt := 52) d_Disk_bind_45 (by decide) (fun c_45 => ?_) (fun c_45 => ?_)
            · refine pe_iconst (v := nI 0) d_Disk_bind_52 (by decide) ?_
              -- 53: Disk_setWord
              refine pe_callV d_Disk_bind_53 m_Disk_26 j_Disk_setWord v_Disk_setWord (c_Disk_setWord hd (b := b) (q := i) (by omega) (by omega) (nI 0)) rfl rfl (by simp [Value.category]) (by decide) hDS rfl rfl ?_
              intro v1 h1 z1 hq1
              obtain ⟨rfl, rfl, hd, hf1⟩ := hq1
              obtain ⟨hDS, hDW, hDO, hb1, hb2⟩ := id hd
              have hf := hf.tr hf1
              rw [show (nI 0) = lkw b fi lk (b * 8 + i) from by unfold lkw; rw [show b * 8 + i - b * 8 = i by omega]; first | (rw [if_pos (by omega)]; done) | (rw [if_neg (by omega)]; rfl) | (exfalso; revert c_45; decide), fil_s] at hd
              change pz_E _ _ _ _ _ _ _ _ _ _ _ _ _
              refine pe_iincN d_Disk_bind_56 rfl (by decide) rfl ?_
              dsimp only [List.set]
              refine pe_goto (tgt := 10) d_Disk_bind_59 (by decide) ?_
              exact pe_ls (ls' := [some (.ref 8), some (.int (nI b)), some (.int x), some (.int (nI fi)), some (.int (nI lk)), some (.int (nI (i + 1))), none]) (fun j v hj => by match j, hj with | 0, hj => exact hj | 1, hj => exact hj | 2, hj => exact hj | 3, hj => exact hj | 4, hj => exact hj | 5, hj => exact hj | 6, hj => cases hj | j + 7, hj => cases hj) (ih (i + 1) _ (by omega) (by omega) hd hf)
            · refine pe_iconst (v := -1) d_Disk_bind_48 (by decide) ?_
              refine pe_goto (tgt := 53) d_Disk_bind_49 (by decide) ?_
              -- 53: Disk_setWord
              refine pe_callV d_Disk_bind_53 m_Disk_26 j_Disk_setWord v_Disk_setWord (c_Disk_setWord hd (b := b) (q := i) (by omega) (by omega) (-1)) rfl rfl (by simp [Value.category]) (by decide) hDS rfl rfl ?_
              intro v1 h1 z1 hq1
              obtain ⟨rfl, rfl, hd, hf1⟩ := hq1
              obtain ⟨hDS, hDW, hDO, hb1, hb2⟩ := id hd
              have hf := hf.tr hf1
              rw [show (-1) = lkw b fi lk (b * 8 + i) from by unfold lkw; rw [show b * 8 + i - b * 8 = i by omega]; first | (rw [if_pos (by omega)]; done) | (rw [if_neg (by omega)]; rfl) | (exfalso; revert c_45; decide), fil_s] at hd
              change pz_E _ _ _ _ _ _ _ _ _ _ _ _ _
              refine pe_iincN d_Disk_bind_56 rfl (by decide) rfl ?_
              dsimp only [List.set]
              refine pe_goto (tgt := 10) d_Disk_bind_59 (by decide) ?_
              exact pe_ls (ls' := [some (.ref 8), some (.int (nI b)), some (.int x), some (.int (nI fi)), some (.int (nI lk)), some (.int (nI (i + 1))), none]) (fun j v hj => by match j, hj with | 0, hj => exact hj | 1, hj => exact hj | 2, hj => exact hj | 3, hj => exact hj | 4, hj => exact hj | 5, hj => exact hj | 6, hj => cases hj | j + 7, hj => cases hj) (ih (i + 1) _ (by omega) (by omega) hd hf)
          · refine pe_iconst (v := nI 1) d_Disk_bind_32 (by decide) ?_
            refine pe_goto (tgt := 37) d_Disk_bind_33 (by decide) ?_
            refine pe_istore d_Disk_bind_37 (by decide) rfl ?_
            dsimp only [List.set]
            refine pe_aload_n d_Disk_bind_39 rfl ?_
            refine pe_iload_n d_Disk_bind_40 rfl ?_
            refine pe_iload d_Disk_bind_41 rfl ?_
            refine pe_iload d_Disk_bind_43 rfl ?_
            refine pe_if_eq (tgt := 52) d_Disk_bind_45 (by decide) (fun c_45 => ?_) (fun c_45 => ?_)
            · refine pe_iconst (v := nI 0) d_Disk_bind_52 (by decide) ?_
              -- 53: Disk_setWord
              refine pe_callV d_Disk_bind_53 m_Disk_26 j_Disk_setWord v_Disk_setWord (c_Disk_setWord hd (b := b) (q := i) (by omega) (by omega) (nI 0)) rfl rfl (by simp [Value.category]) (by decide) hDS rfl rfl ?_
              intro v1 h1 z1 hq1
              obtain ⟨rfl, rfl, hd, hf1⟩ := hq1
              obtain ⟨hDS, hDW, hDO, hb1, hb2⟩ := id hd
              have hf := hf.tr hf1
              rw [show (nI 0) = lkw b fi lk (b * 8 + i) from by unfold lkw; rw [show b * 8 + i - b * 8 = i by omega]; first | (rw [if_pos (by omega)]; done) | (rw [if_neg (by omega)]; rfl) | (exfalso; revert c_45; decide), fil_s] at hd
              change pz_E _ _ _ _ _ _ _ _ _ _ _ _ _
              refine pe_iincN d_Disk_bind_56 rfl (by decide) rfl ?_
              dsimp only [List.set]
              refine pe_goto (tgt := 10) d_Disk_bind_59 (by decide) ?_
              exact pe_ls (ls' := [some (.ref 8), some (.int (nI b)), some (.int x), some (.int (nI fi)), some (.int (nI lk)), some (.int (nI (i + 1))), none]) (fun j v hj => by match j, hj with | 0, hj => exact hj | 1, hj => exact hj | 2, hj => exact hj | 3, hj => exact hj | 4, hj => exact hj | 5, hj => exact hj | 6, hj => cases hj | j + 7, hj => cases hj) (ih (i + 1) _ (by omega) (by omega) hd hf)
            · refine pe_iconst (v := -1) d_Disk_bind_48 (by decide) ?_
              refine pe_goto (tgt := 53) d_Disk_bind_49 (by decide) ?_
              -- 53: Disk_setWord
              refine pe_callV d_Disk_bind_53 m_Disk_26 j_Disk_setWord v_Disk_setWord (c_Disk_setWord hd (b := b) (q := i) (by omega) (by omega) (-1)) rfl rfl (by simp [Value.category]) (by decide) hDS rfl rfl ?_
              intro v1 h1 z1 hq1
              obtain ⟨rfl, rfl, hd, hf1⟩ := hq1
              obtain ⟨hDS, hDW, hDO, hb1, hb2⟩ := id hd
              have hf := hf.tr hf1
              rw [show (-1) = lkw b fi lk (b * 8 + i) from by unfold lkw; rw [show b * 8 + i - b * 8 = i by omega]; first | (rw [if_pos (by omega)]; done) | (rw [if_neg (by omega)]; rfl) | (exfalso; revert c_45; decide), fil_s] at hd
              change pz_E _ _ _ _ _ _ _ _ _ _ _ _ _
              refine pe_iincN d_Disk_bind_56 rfl (by decide) rfl ?_
              dsimp only [List.set]
              refine pe_goto (tgt := 10) d_Disk_bind_59 (by decide) ?_
              exact pe_ls (ls' := [some (.ref 8), some (.int (nI b)), some (.int x), some (.int (nI fi)), some (.int (nI lk)), some (.int (nI (i + 1))), none]) (fun j v hj => by match j, hj with | 0, hj => exact hj | 1, hj => exact hj | 2, hj => exact hj | 3, hj => exact hj | 4, hj => exact hj | 5, hj => exact hj | 6, hj => cases hj | j + 7, hj => cases hj) (ih (i + 1) _ (by omega) (by omega) hd hf)
  change pz_E l L xs M_Disk_bind 1 0 0 0 [some (.ref 8), some (.int (nI b)), some (.int x), some (.int (nI fi)), some (.int (nI lk)), none, none] [] h z _
  refine pe_aload_n d_Disk_bind_0 rfl ?_
  refine pe_getf d_Disk_bind_1 f_Disk_19 hDS rfl ?_
  refine pe_iload_n d_Disk_bind_4 rfl ?_
  refine pe_iload_n d_Disk_bind_5 rfl ?_
  refine pe_iastN d_Disk_bind_6 hDO (by omega) (by omega) ?_
  refine pe_pu (fun h2 e2 o2 => ?_)
  have hDS := (o2 (8) (by omega)).trans hDS
  have hDW := (o2 (9) (by omega)).trans hDW
  have hDO := e2
  have hf := hf.st o2 (by omega) (by omega)
  refine pe_iconst (v := nI 0) d_Disk_bind_7 (by decide) ?_
  refine pe_istore d_Disk_bind_8 (by decide) rfl ?_
  dsimp only [List.set]
  have hd : DSK h2 nb (fil dw (lkw b fi lk) (b * 8) 0) (upd dn b x) := by rw [fil_0]; exact ⟨hDS, hDW, hDO, hb1, hb2⟩
  exact loop 9 0 _ (by omega) (by omega) hd hf
set_option maxHeartbeats 4000000 in
set_option maxRecDepth 20000 in
theorem c_Disk_namesBlocks {l : Launch} {L : Nat} {xs : Nat → Int32} {h : pz_H} {z : Nat}  {nb : Nat} {dw dn : Nat → Int32} (hd : DSK h nb dw dn) {b fi lk : Nat} (hb : b < nb) (hfl : fi + lk ≤ 8) : pz_K l L xs M_Disk_namesBlocks 1 0 0 [.ref 8, .int (nI b), .int (nI fi), .int (nI lk)] h z (fun v h' z' => v = some (.int (pb (decide (ff (fun j => !decide (dw (b * 8 + j) = -1)) (fi + lk - fi) fi < fi + lk)))) ∧ h = h' ∧ z = z') := by
  obtain ⟨hDS, hDW, hDO, hb1, hb2⟩ := id hd
  refine pz_K.of rfl (Nat.le_of_ble_eq_true rfl) ?_
  have loop : ∀ (n : Nat) (i : Nat), fi ≤ i → i ≤ fi + lk → fi + lk + 1 ≤ i + n → pz_E l L xs M_Disk_namesBlocks 1 0 0 3 [some (.ref 8), some (.int (nI b)), some (.int (nI fi)), some (.int (nI lk)), some (.int (nI i))] [] h z (fun v h' z' => v = some (.int (pb (decide (ff (fun j => !decide (dw (b * 8 + j) = -1)) (fi + lk - i) i < fi + lk)))) ∧ h = h' ∧ z = z') := by
    intro n
    induction n with
    | zero => intros; omega
    | succ n ih =>
      intro i hi0 hi hin
      refine pe_iload d_Disk_namesBlocks_3 rfl ?_
      refine pe_iload_n d_Disk_namesBlocks_5 rfl ?_
      refine pe_iload_n d_Disk_namesBlocks_6 rfl ?_
      refine pe_iaddN d_Disk_namesBlocks_7 ?_
      refine pe_icmpN_ge (tgt := 30) d_Disk_namesBlocks_8 (by decide) (by omega) (by omega) (fun c_8 => ?_) (fun c_8 => ?_)
      · refine pe_iconst (v := nI 0) d_Disk_namesBlocks_30 (by decide) ?_
        refine pe_zret d_Disk_namesBlocks_31 rfl (by decide) ?_
        exact ⟨pb_no (by rw [ff_end (by omega)]; omega), rfl, rfl⟩
      · have c_8 : i < fi + lk := by omega
        refine pe_aload_n d_Disk_namesBlocks_11 rfl ?_
        refine pe_iload_n d_Disk_namesBlocks_12 rfl ?_
        refine pe_iload d_Disk_namesBlocks_13 rfl ?_
        -- 15: Disk_wordOf
        refine pe_callV d_Disk_namesBlocks_15 m_Disk_34 j_Disk_wordOf v_Disk_wordOf (c_Disk_wordOf hd (b := b) (q := i) (by omega) (by omega)) rfl rfl (by simp [Value.category]) (by decide) hDS rfl rfl ?_
        intro v1 h1 z1 hq1
        obtain ⟨rfl, rfl, rfl⟩ := hq1
        change pz_E _ _ _ _ _ _ _ _ _ (_ :: _) _ _ _
        refine pe_iconst (v := -1) d_Disk_namesBlocks_18 (by decide) ?_
        refine pe_icmp_eq (tgt := 24) d_Disk_namesBlocks_19 (by decide) (fun c_19 => ?_) (fun c_19 => ?_)
        · refine pe_iincN d_Disk_namesBlocks_24 rfl (by decide) rfl ?_
          dsimp only [List.set]
          refine pe_goto (tgt := 3) d_Disk_namesBlocks_27 (by decide) ?_
          have e := ih (i + 1) (by omega) (by omega) (by omega)
          rw [← ff_no c_8 (by simpa using c_19)] at e
          exact e
        · refine pe_iconst (v := nI 1) d_Disk_namesBlocks_22 (by decide) ?_
          refine pe_zret d_Disk_namesBlocks_23 rfl (by decide) ?_
          exact ⟨pb_yes (by rw [ff_yes c_8 (by simpa using c_19)]; exact c_8), rfl, rfl⟩
  change pz_E l L xs M_Disk_namesBlocks 1 0 0 0 [some (.ref 8), some (.int (nI b)), some (.int (nI fi)), some (.int (nI lk)), none] [] h z _
  refine pe_iload_n d_Disk_namesBlocks_0 rfl ?_
  refine pe_istore d_Disk_namesBlocks_1 (by decide) rfl ?_
  dsimp only [List.set]
  exact loop (lk + 1) fi (by omega) (by omega) (by omega)
end
section
/-! a contract of a method of another package; a copy of a stretch of ints -/
theorem pz_K.ofF {l : Launch} {L : Nat} {xs : Nat → Int32} {M : pz_M} {d mc ms : Nat} {as : List Value} {h : pz_H} {z : Nat} {Q : pz_Q} (hy : plainFor M.1 = true) (hn : (as.map Value.category).sum ≤ M.2.2.1) (kk : pz_E l L xs M d mc ms 0 (pz_in M.2.2.1 as) [] h z Q) : pz_K l L xs M d mc ms as h z Q := by
  intro D g b cA
  refine MetFree.of_bodySF (code := M.2.1) (maxLocals := M.2.2.1) (ret := M.2.2.2) hy ?_ ?_
  · intro args s m h hn
    obtain ⟨meth, c, h1, h2, h3, h4, h5, h6, -, -⟩ := Cond.code_spec hn (atoms_spec (ws := pz_ws M) h _ List.mem_cons_self)
    exact ⟨meth, c, h1, h2, h3, h4, h5, h6⟩
  intro p e s m args below meth c s₁ B hml hv _
  have hh0 : s₁.heap = s.heap := by rw [B.state]; rfl
  have K9 : W p l e (headSpec (pz_ws M) (pz_rm d mc ms)).room s m args below meth c s.heap [] 0 0 (MQ below (pz_Qc D g b cA Q) args s mc ms (fun q => g ≤ q)) (entryFrame m args M.2.2.1) := by
    obtain ⟨rfl, hG, hP⟩ := hv
    have hx := B.exec
    have hb := B.bytes
    have hr := B.returns
    have hts := atoms_spec (ws := pz_ws M) B.pre
    have hown : s.vm.findClass M.1.cls = some m.cls := findClass_of_methodNamed B.named
    have hlocks := B.notSynchronized
    have hin : meth.name = M.1.name := (name_of_methodNamed B.named B.method).1
    have hl := pz_entry g b as M.2.2.1 (by rw [pz_sl]; exact hn)
    rw [lg_entry_eq]
    refine kk p e s m _ below meth c (pz_rm d mc ms) s.heap [] 0 0 D g b cA mc ms _ _ ⟨⟨hx, hb, hml, hown, fun w hw => hts w (List.mem_cons_of_mem _ hw)⟩, hin, ⟨Nat.le_refl _, Nat.le_refl _, Nat.le_refl _, Nat.le_refl _⟩, hG, hP, va_S.rf, hl, ⟨by omega, by omega⟩, ?_⟩
    intro v h' z' H' locs' cells' slots' pc' A' hret hq hP' hS' hc1 hc2
    refine W.widen hc1 hc2 ?_
    have hQ : ∀ t : State, t.heap = H' → pz_Qc D g b cA Q (as.map (pz_v g b)).toArray s (.returned (v.map (pz_v g b))) t := fun t ht => ⟨v, h', z', rfl, hq, by rw [ht]; exact hP', hS'.F ht⟩
    match v, hret, hQ with
    | none, hret, hQ => exact W.vret hx hb (hr.trans hret.2) (fun t ht _ => hQ t ht) hS'.2.2 hret.1
    | some (.int x), hret, hQ =>
      obtain ⟨h1, ty, h2, h3⟩ := hret
      exact W.zret hx hb (hr.trans h2) h3 (fun t ht _ => hQ t ht) hS'.2.2 h1
    | some (.long x), hret, hQ => exact W.lret hx hb (hr.trans hret.2) (fun t ht _ => hQ t ht) hS'.2.2 hret.1
    | some (.ref x), hret, hQ =>
      obtain ⟨h1, C, h2⟩ := hret
      exact W.aret hx hb (hr.trans h2) (Or.inl ⟨C, rfl⟩) (Or.inr ⟨_, rfl⟩) (fun t ht _ => hQ t ht) hS'.2.2 h1
  obtain ⟨t, a1, o, b1, b2, b3⟩ := K9 s₁ hh0 (Stand.of_body B)
  exact ⟨t, o, a1, b1, b2, ⟨b3.1, b3.2⟩⟩

set_option maxHeartbeats 4000000 in
theorem pe_copy {l : Launch} {L : Nat} {xs : Nat → Int32} {M : pz_M} {d fc fs pc : Nat} {ls : List (Option Value)} {st : List Value} {h : pz_H} {z : Nat} {Q : pz_Q} {idx a0 a n0 n1 n : Nat} {f f1 : Nat → Int32} (hd : decode M.2.1 pc = .ok (.invokestatic idx, 3)) (hw1 : Cond.methodLink M.1.cls idx arraycopyName ∈ px_tbl) (hw2 : Cond.native arraycopyName ∈ px_tbl) (hw3 : Cond.static arraycopyName ∈ px_tbl) (hw4 : Cond.initialized "java/lang/System" ∈ px_tbl) (hh0 : h a0 = some (.inl (0, n0, .inl f))) (hh1 : h a = some (.inl (0, n1, .inl f1))) (h4 : n ≤ n0) (h5 : n ≤ n1) (hnn : n < 2147483648) (hst : (st.map Value.category).sum ≤ 8) (hdd : 1 ≤ d)
    (kk : pz_E l L xs M d fc fs (pc + 3) ls st (pu h a (.inl (0, n1, .inl (va_cpy f f1 0 0 n)))) z Q) : pz_E l L xs M d fc fs pc ls (.int (nI n) :: .int (nI 0) :: .ref a :: .int (nI 0) :: .ref a0 :: st) h z Q := by
  intro p e s m args below meth c R H locs cells slots D g b cA mc ms Qm A X
  obtain ⟨⟨hx, hb, hml, hown, hts⟩, hnm, ⟨hR1, hR2, hR3, hR4⟩, ⟨hK, hN, hbg, hgs, hX⟩, ⟨hP, hsz, hd1, hd2⟩, hS, hlv, ⟨hc1, hc2⟩, hret⟩ := id X
  have hat0 := pz_w_at (g := g) (b := b) (cA := cA) (h := h) (hd1 a0 _ hh0)
  rw [hh0] at hat0
  have hat1 := pz_w_at (g := g) (b := b) (cA := cA) (h := h) (hd1 a _ hh1)
  rw [hh1] at hat1
  have hrm : ((st.map (pz_v g b)).map fun v => v.category).sum ≤ 8 := by
    rw [List.map_map, show ((fun v => v.category) ∘ pz_v g b) = Value.category from funext (fun v => pz_cat g b v)]
    exact hst
  have hlo : 32 ≤ R.locals := by
    have h8 : px_lc * 1 ≤ px_lc * d := Nat.mul_le_mul_left _ hdd
    have h7 : px_lc = 32 := rfl
    omega
  intro T hT Y
  have hcs : H[g + a0]? = some (vp_cell (cA 0) (n0, .inl f)) := hP a0 _ hat0
  have hcd : H[g + a]? = some (vp_cell (cA 0) (n1, .inl f1)) := hP a _ hat1
  obtain ⟨-, k0, hk0, cm0, hkk0⟩ := (hK.2 0 _ (pz_tys_at (t := 0) rfl)).1 n0 (fun j => .int (f j))
  obtain ⟨-, k1, hk1, cm1, hkk1⟩ := (hK.2 0 _ (pz_tys_at (t := 0) rfl)).1 n1 (fun j => .int (f1 j))
  have z0 : (nI 0).toInt = 0 := by decide
  have c0 : (nI 0).toNatClampNeg = 0 := by decide
  have cn : (nI n).toNatClampNeg = n := nI_clamp hnn
  have zn : (nI n).toInt = (n : Int) := nI_toInt hnn
  obtain ⟨vm', X', step⟩ := Y.arraycopy hx hown (hts _ hw1) (hts _ hw2) (hts _ hw3) (hts _ hw4) (src := g + a0) (dst := g + a) (cs := vp_cell (cA 0) (n0, .inl f)) (cd := vp_cell (cA 0) (n1, .inl f1)) (srcPos := nI 0) (destPos := nI 0) (n := nI n) (by rw [hT]; exact hcs) (by rw [hT]; exact hcd)
    (fun _ h => by cases h) (fun _ h => by cases h) (fun h => by cases h) (fun h => by cases h) hk0 hk1 hkk0 hkk1 rfl (by decide) (by decide) (nI_pos hnn)
    (by rw [z0, zn]; show ¬ _ > ((arrV (cA 0) n0 (fun j => .int (f j))).slots.size : Int); rw [arrV_size]; omega)
    (by rw [z0, zn]; show ¬ _ > ((arrV (cA 0) n1 (fun j => .int (f1 j))).slots.size : Int); rw [arrV_size]; omega)
    (fun vm₁ _ i hi => by
      rw [cn] at hi
      have e : (vp_cell (cA 0) (n0, .inl f)).slots.getD ((nI 0).toNatClampNeg + i) .null = .int (f i) := by
        show (arrV (cA 0) n0 (fun j => .int (f j))).slots.getD _ _ = _
        rw [c0, Nat.zero_add, Array.getD_eq_getD_getElem?, arrV_read _ _ (by omega)]
        rfl
      refine ⟨?_, ?_⟩
      · rw [e]
        rfl
      · rw [e]
        exact trivial)
    (g := F0 m pc A (.int (nI n) :: .int (nI 0) :: .ref (g + a) :: .int (nI 0) :: .ref (g + a0) :: st.map (pz_v g b))) rfl (by rw [hml]; exact hlv.1) (rest := st.map (pz_v g b)) rfl (by rw [hb]; exact hd) (by omega) (by show 2 * 0 + _ + (nativeFrameWords "java/lang/System" "arraycopy" 5 + 11) ≤ _; have h9 : nativeFrameWords "java/lang/System" "arraycopy" 5 = 7 := (by decide); omega)
  have e1 : copied (vp_cell (cA 0) (n0, .inl f)) (vp_cell (cA 0) (n1, .inl f1)) (nI 0) (nI 0) (nI n) = vp_cell (cA 0) (n1, .inl (va_cpy f f1 0 0 n)) := by
    have h9 := va_copied (fun z => Value.int z) (cA 0) (cA 0) (n0 := n0) (n1 := n1) (sp := 0) (dp := 0) (n := n) f f1 (by omega)
    rw [← cn, ← c0] at h9
    rw [cn, c0] at h9
    unfold copied
    rw [cn, c0]
    exact h9
  rw [e1] at X' step
  have hl : g + a < H.size := (Array.getElem?_eq_some_iff.mp hcd).1
  have oq : ∀ q : Nat, q ≠ g + a → (H.setIfInBounds (g + a) (vp_cell (cA 0) (n1, .inl (va_cpy f f1 0 0 n))))[q]? = H[q]? := fun q hq => by simp [Array.getElem?_setIfInBounds, Ne.symm hq]
  have hz9 : (H.setIfInBounds (g + a) (vp_cell (cA 0) (n1, .inl (va_cpy f f1 0 0 n)))).size = H.size := by simp
  have hheap : ((T.setVm vm').setCell (g + a) (vp_cell (cA 0) (n1, .inl (va_cpy f f1 0 0 n)))).heap = H.setIfInBounds (g + a) (vp_cell (cA 0) (n1, .inl (va_cpy f f1 0 0 n))) := by rw [← hT]; rfl
  obtain ⟨t, a1, b1⟩ := kk p e s m args below meth c R (H.setIfInBounds (g + a) (vp_cell (cA 0) (n1, .inl (va_cpy f f1 0 0 n)))) _ cells slots D g b cA mc ms Qm A ⟨X.1, X.2.1, X.2.2.1, X.2.2.2.1, X.2.2.2.2.1.upd hh1 (show (H.setIfInBounds (g + a) _)[g + a]? = some (vp_cell (cA 0) (n1, .inl (va_cpy f f1 0 0 n))) by simp [Array.getElem?_setIfInBounds, hl]) hz9 oq, ⟨by rw [hz9]; exact hS.1, fun q g1 g2 => by
      rw [oq q (fun e => g2 (by rw [e]; exact Nat.le_add_right g a))]
      exact hS.2.1 q g1 g2, fun q hq => by
      rcases List.mem_append.mp hq with h | h
      · exact hS.2.2 q h
      · obtain ⟨z, -, hz⟩ := List.mem_map.mp h
        rw [← hz]
        exact Nat.le_add_right g a⟩, X.2.2.2.2.2.2⟩ _ hheap X'
  exact ⟨t, step t a1, b1⟩
theorem FRA.st {a k : Nat} {h h2 : pz_H} {fb : Nat → Int32} {fl : Nat} (m : FRA a h fb fl) (o : ∀ j, j ≠ k → h2 j = h j) (h1 : k ≠ a) (h1' : k ≠ a + 1) : FRA a h2 fb fl := by
  unfold FRA
  rw [o a (Ne.symm h1), o (a + 1) (Ne.symm h1')]
  exact m
theorem ay_Frame_17 : Cond.methodLink "BindingKernel$Frame" 17 arraycopyName ∈ px_tbl := px_in 522 (by decide +kernel) rfl
theorem ay_n : Cond.native arraycopyName ∈ px_tbl := px_in 524 (by decide +kernel) rfl
theorem ay_s : Cond.static arraycopyName ∈ px_tbl := px_in 523 (by decide +kernel) rfl
theorem ay_i : Cond.initialized "java/lang/System" ∈ px_tbl := px_in 13 (by decide +kernel) rfl
end
section
/-! small ones: Math, ranges, FilterOrder, Frame, PageList -/
def imin (x y : Int32) : Int32 := if y < x then y else x
def imax (x y : Int32) : Int32 := if x < y then y else x
theorem imin_N {a b : Nat} (ha : a < 2147483648) (hb : b < 2147483648) : imin (nI a) (nI b) = nI (if b < a then b else a) := by
  unfold imin
  by_cases c : b < a
  · rw [if_pos c, if_pos ((nI_ltI hb ha).mpr c)]
  · rw [if_neg c, if_neg (fun q => c ((nI_ltI hb ha).mp q))]
theorem imax_N {a b : Nat} (ha : a < 2147483648) (hb : b < 2147483648) : imax (nI a) (nI b) = nI (if a < b then b else a) := by
  unfold imax
  by_cases c : a < b
  · rw [if_pos c, if_pos ((nI_ltI ha hb).mpr c)]
  · rw [if_neg c, if_neg (fun q => c ((nI_ltI ha hb).mp q))]
def fdv (x y : Int32) : Int32 := if ¬ (0 ≤ x ^^^ y) ∧ ¬ (x / y * y = x) then x / y - nI 1 else x / y
def fmd (x y : Int32) : Int32 := if ¬ (0 ≤ x ^^^ y) ∧ ¬ (x - x / y * y = 0) then x - x / y * y + y else x - x / y * y
set_option maxHeartbeats 4000000 in
set_option maxRecDepth 20000 in
theorem c_Math_min {l : Launch} {L : Nat} {xs : Nat → Int32} {h : pz_H} {z : Nat} (x y : Int32) : pz_K l L xs M_Math_min 0 0 0 [.int x, .int y] h z (fun v h' z' => v = some (.int (imin x y)) ∧ h = h' ∧ z = z') := by
  refine pz_K.ofF (by decide +kernel) (Nat.le_of_ble_eq_true rfl) ?_
  change pz_E l L xs M_Math_min 0 0 0 0 [some (.int x), some (.int y)] [] h z _
  refine pe_iload_n d_Math_min_0 rfl ?_
  refine pe_iload_n d_Math_min_1 rfl ?_
  refine pe_icmp_gt (tgt := 9) d_Math_min_2 (by decide) (fun c_2 => ?_) (fun c_2 => ?_)
  · refine pe_iload_n d_Math_min_9 rfl ?_
    refine pe_iret d_Math_min_10 rfl ?_
    exact ⟨by unfold imin; first | rw [if_pos c_2] | rw [if_neg c_2], rfl, rfl⟩
  · refine pe_iload_n d_Math_min_5 rfl ?_
    refine pe_goto (tgt := 10) d_Math_min_6 (by decide) ?_
    refine pe_iret d_Math_min_10 rfl ?_
    exact ⟨by unfold imin; first | rw [if_pos c_2] | rw [if_neg c_2], rfl, rfl⟩
set_option maxHeartbeats 4000000 in
set_option maxRecDepth 20000 in
theorem c_Math_max {l : Launch} {L : Nat} {xs : Nat → Int32} {h : pz_H} {z : Nat} (x y : Int32) : pz_K l L xs M_Math_max 0 0 0 [.int x, .int y] h z (fun v h' z' => v = some (.int (imax x y)) ∧ h = h' ∧ z = z') := by
  refine pz_K.ofF (by decide +kernel) (Nat.le_of_ble_eq_true rfl) ?_
  change pz_E l L xs M_Math_max 0 0 0 0 [some (.int x), some (.int y)] [] h z _
  refine pe_iload_n d_Math_max_0 rfl ?_
  refine pe_iload_n d_Math_max_1 rfl ?_
  refine pe_icmp_lt (tgt := 9) d_Math_max_2 (by decide) (fun c_2 => ?_) (fun c_2 => ?_)
  · refine pe_iload_n d_Math_max_9 rfl ?_
    refine pe_iret d_Math_max_10 rfl ?_
    exact ⟨by unfold imax; first | rw [if_pos c_2] | rw [if_neg c_2], rfl, rfl⟩
  · refine pe_iload_n d_Math_max_5 rfl ?_
    refine pe_goto (tgt := 10) d_Math_max_6 (by decide) ?_
    refine pe_iret d_Math_max_10 rfl ?_
    exact ⟨by unfold imax; first | rw [if_pos c_2] | rw [if_neg c_2], rfl, rfl⟩
set_option maxHeartbeats 4000000 in
set_option maxRecDepth 20000 in
theorem c_Math_floorDiv {l : Launch} {L : Nat} {xs : Nat → Int32} {h : pz_H} {z : Nat} (x y : Int32) (hy : ¬ y = 0) : pz_K l L xs M_Math_floorDiv 0 0 0 [.int x, .int y] h z (fun v h' z' => v = some (.int (fdv x y)) ∧ h = h' ∧ z = z') := by
  refine pz_K.ofF (by decide +kernel) (Nat.le_of_ble_eq_true rfl) ?_
  change pz_E l L xs M_Math_floorDiv 0 0 0 0 [some (.int x), some (.int y), none] [] h z _
  refine pe_iload_n d_Math_floorDiv_0 rfl ?_
  refine pe_iload_n d_Math_floorDiv_1 rfl ?_
  refine pe_idiv d_Math_floorDiv_2 hy ?_
  refine pe_istore_n d_Math_floorDiv_3 (by decide) rfl ?_
  dsimp only [List.set]
  refine pe_iload_n d_Math_floorDiv_4 rfl ?_
  refine pe_iload_n d_Math_floorDiv_5 rfl ?_
  refine pe_ixor d_Math_floorDiv_6 ?_
  refine pe_if_ge (tgt := 21) d_Math_floorDiv_7 (by decide) (fun c_7 => ?_) (fun c_7 => ?_)
  · refine pe_iload_n d_Math_floorDiv_21 rfl ?_
    refine pe_iret d_Math_floorDiv_22 rfl ?_
    exact ⟨by unfold fdv; exact congrArg (fun t => some (Value.int t)) (by first | exact (if_neg (fun q => by first | exact q.1 c_7 | exact q.2 c_14)).symm), rfl, rfl⟩
  · refine pe_iload_n d_Math_floorDiv_10 rfl ?_
    refine pe_iload_n d_Math_floorDiv_11 rfl ?_
    refine pe_imul d_Math_floorDiv_12 ?_
    refine pe_iload_n d_Math_floorDiv_13 rfl ?_
    refine pe_icmp_eq (tgt := 21) d_Math_floorDiv_14 (by decide) (fun c_14 => ?_) (fun c_14 => ?_)
    · refine pe_iload_n d_Math_floorDiv_21 rfl ?_
      refine pe_iret d_Math_floorDiv_22 rfl ?_
      exact ⟨by unfold fdv; exact congrArg (fun t => some (Value.int t)) (by first | exact (if_neg (fun q => by first | exact q.1 c_7 | exact q.2 c_14)).symm), rfl, rfl⟩
    · refine pe_iload_n d_Math_floorDiv_17 rfl ?_
      refine pe_iconst (v := nI 1) d_Math_floorDiv_18 (by decide) ?_
      refine pe_isub d_Math_floorDiv_19 ?_
      refine pe_iret d_Math_floorDiv_20 rfl ?_
      exact ⟨by unfold fdv; exact congrArg (fun t => some (Value.int t)) (by first | exact (if_pos ⟨c_7, c_14⟩).symm), rfl, rfl⟩
set_option maxHeartbeats 4000000 in
set_option maxRecDepth 20000 in
theorem c_Math_floorMod {l : Launch} {L : Nat} {xs : Nat → Int32} {h : pz_H} {z : Nat} (x y : Int32) (hy : ¬ y = 0) : pz_K l L xs M_Math_floorMod 0 0 0 [.int x, .int y] h z (fun v h' z' => v = some (.int (fmd x y)) ∧ h = h' ∧ z = z') := by
  refine pz_K.ofF (by decide +kernel) (Nat.le_of_ble_eq_true rfl) ?_
  change pz_E l L xs M_Math_floorMod 0 0 0 0 [some (.int x), some (.int y), none] [] h z _
  refine pe_iload_n d_Math_floorMod_0 rfl ?_
  refine pe_iload_n d_Math_floorMod_1 rfl ?_
  refine pe_irem d_Math_floorMod_2 hy ?_
  refine pe_istore_n d_Math_floorMod_3 (by decide) rfl ?_
  dsimp only [List.set]
  refine pe_iload_n d_Math_floorMod_4 rfl ?_
  refine pe_iload_n d_Math_floorMod_5 rfl ?_
  refine pe_ixor d_Math_floorMod_6 ?_
  refine pe_if_ge (tgt := 18) d_Math_floorMod_7 (by decide) (fun c_7 => ?_) (fun c_7 => ?_)
  · refine pe_iload_n d_Math_floorMod_18 rfl ?_
    refine pe_iret d_Math_floorMod_19 rfl ?_
    exact ⟨by unfold fmd; exact congrArg (fun t => some (Value.int t)) (by first | exact (if_neg (fun q => by first | exact q.1 c_7 | exact q.2 c_11)).symm), rfl, rfl⟩
  · refine pe_iload_n d_Math_floorMod_10 rfl ?_
    refine pe_if_eq (tgt := 18) d_Math_floorMod_11 (by decide) (fun c_11 => ?_) (fun c_11 => ?_)
    · refine pe_iload_n d_Math_floorMod_18 rfl ?_
      refine pe_iret d_Math_floorMod_19 rfl ?_
      exact ⟨by unfold fmd; exact congrArg (fun t => some (Value.int t)) (by first | exact (if_neg (fun q => by first | exact q.1 c_7 | exact q.2 c_11)).symm), rfl, rfl⟩
    · refine pe_iload_n d_Math_floorMod_14 rfl ?_
      refine pe_iload_n d_Math_floorMod_15 rfl ?_
      refine pe_iadd d_Math_floorMod_16 ?_
      refine pe_iret d_Math_floorMod_17 rfl ?_
      exact ⟨by unfold fmd; exact congrArg (fun t => some (Value.int t)) (by first | exact (if_pos ⟨c_7, c_11⟩).symm), rfl, rfl⟩
set_option maxHeartbeats 4000000 in
set_option maxRecDepth 20000 in
theorem c_K_isIn {l : Launch} {L : Nat} {xs : Nat → Int32} {h : pz_H} {z : Nat} (x a b : Int32) : pz_K l L xs M_K_isIn 0 0 0 [.int x, .int a, .int b] h z (fun v h' z' => v = some (.int (pb (decide (¬ x < a ∧ ¬ b < x)))) ∧ h = h' ∧ z = z') := by
  refine pz_K.of rfl (Nat.le_of_ble_eq_true rfl) ?_
  change pz_E l L xs M_K_isIn 0 0 0 0 [some (.int x), some (.int a), some (.int b)] [] h z _
  refine pe_iload_n d_K_isIn_0 rfl ?_
  refine pe_iload_n d_K_isIn_1 rfl ?_
  refine pe_icmp_lt (tgt := 14) d_K_isIn_2 (by decide) (fun c_2 => ?_) (fun c_2 => ?_)
  · refine pe_iconst (v := nI 0) d_K_isIn_14 (by decide) ?_
    refine pe_zret d_K_isIn_15 rfl (by decide) ?_
    exact ⟨pb_no (fun q => by first | exact q.1 c_2 | exact q.2 c_7), rfl, rfl⟩
  · refine pe_iload_n d_K_isIn_5 rfl ?_
    refine pe_iload_n d_K_isIn_6 rfl ?_
    refine pe_icmp_gt (tgt := 14) d_K_isIn_7 (by decide) (fun c_7 => ?_) (fun c_7 => ?_)
    · refine pe_iconst (v := nI 0) d_K_isIn_14 (by decide) ?_
      refine pe_zret d_K_isIn_15 rfl (by decide) ?_
      exact ⟨pb_no (fun q => by first | exact q.1 c_2 | exact q.2 c_7), rfl, rfl⟩
    · refine pe_iconst (v := nI 1) d_K_isIn_10 (by decide) ?_
      refine pe_goto (tgt := 15) d_K_isIn_11 (by decide) ?_
      refine pe_zret d_K_isIn_15 rfl (by decide) ?_
      exact ⟨pb_yes ⟨c_2, c_7⟩, rfl, rfl⟩
set_option maxHeartbeats 4000000 in
set_option maxRecDepth 20000 in
theorem c_K_isApp {l : Launch} {L : Nat} {xs : Nat → Int32} {h : pz_H} {z : Nat} (x : Int32) : pz_K l L xs M_K_isApp 1 0 0 [.int x] h z (fun v h' z' => v = some (.int (pb (decide (¬ x < nI 0 ∧ ¬ nI 5 < x)))) ∧ h = h' ∧ z = z') := by
  refine pz_K.of rfl (Nat.le_of_ble_eq_true rfl) ?_
  change pz_E l L xs M_K_isApp 1 0 0 0 [some (.int x)] [] h z _
  refine pe_iload_n d_K_isApp_0 rfl ?_
  refine pe_iconst (v := nI 0) d_K_isApp_1 (by decide) ?_
  refine pe_iconst (v := nI 5) d_K_isApp_2 (by decide) ?_
  -- 3: K_isIn
  refine pe_callS d_K_isApp_3 m_K_108 s_K_isIn (c_K_isIn _ _ _) rfl rfl (by simp [Value.category]) (by decide) ?_
  intro v1 h1 z1 hq1
  obtain ⟨rfl, rfl, rfl⟩ := hq1
  change pz_E _ _ _ _ _ _ _ _ _ (_ :: _) _ _ _
  refine pe_zret d_K_isApp_6 rfl (pb_and _) ?_
  exact ⟨rfl, rfl, rfl⟩
set_option maxHeartbeats 4000000 in
set_option maxRecDepth 20000 in
theorem c_K_isLayout {l : Launch} {L : Nat} {xs : Nat → Int32} {h : pz_H} {z : Nat} (x y : Int32) : pz_K l L xs M_K_isLayout 1 0 0 [.int x, .int y] h z (fun v h' z' => v = some (.int (pb (decide (¬ x < nI 0 ∧ ¬ nI 7 < x ∧ ¬ y < nI 0 ∧ ¬ nI 8 - x < y)))) ∧ h = h' ∧ z = z') := by
  refine pz_K.of rfl (Nat.le_of_ble_eq_true rfl) ?_
  change pz_E l L xs M_K_isLayout 1 0 0 0 [some (.int x), some (.int y)] [] h z _
  refine pe_iload_n d_K_isLayout_0 rfl ?_
  refine pe_iconst (v := nI 0) d_K_isLayout_1 (by decide) ?_
  refine pe_bipush (v := nI 7) d_K_isLayout_2 (by decide) ?_
  -- 4: K_isIn
  refine pe_callS d_K_isLayout_4 m_K_108 s_K_isIn (c_K_isIn _ _ _) rfl rfl (by simp [Value.category]) (by decide) ?_
  intro v1 h1 z1 hq1
  obtain ⟨rfl, rfl, rfl⟩ := hq1
  change pz_E _ _ _ _ _ _ _ _ _ (_ :: _) _ _ _
  refine pe_if_eq (tgt := 26) d_K_isLayout_7 (by decide) (fun c_7 => ?_) (fun c_7 => ?_)
  · have c_7 := pb_0.mp c_7
    refine pe_iconst (v := nI 0) d_K_isLayout_26 (by decide) ?_
    refine pe_zret d_K_isLayout_27 rfl (by decide) ?_
    exact ⟨pb_no (fun q => by first | exact absurd (show _ ∧ _ from ⟨q.1, q.2.1⟩) (of_decide_eq_false c_7) | exact absurd q.2.2 (of_decide_eq_false c_19)), rfl, rfl⟩
  · have c_7 := pb_n0.mp c_7
    refine pe_iload_n d_K_isLayout_10 rfl ?_
    refine pe_iconst (v := nI 0) d_K_isLayout_11 (by decide) ?_
    refine pe_bipush (v := nI 8) d_K_isLayout_12 (by decide) ?_
    refine pe_iload_n d_K_isLayout_14 rfl ?_
    refine pe_isub d_K_isLayout_15 ?_
    -- 16: K_isIn
    refine pe_callS d_K_isLayout_16 m_K_108 s_K_isIn (c_K_isIn _ _ _) rfl rfl (by simp [Value.category]) (by decide) ?_
    intro v1 h1 z1 hq1
    obtain ⟨rfl, rfl, rfl⟩ := hq1
    change pz_E _ _ _ _ _ _ _ _ _ (_ :: _) _ _ _
    refine pe_if_eq (tgt := 26) d_K_isLayout_19 (by decide) (fun c_19 => ?_) (fun c_19 => ?_)
    · have c_19 := pb_0.mp c_19
      refine pe_iconst (v := nI 0) d_K_isLayout_26 (by decide) ?_
      refine pe_zret d_K_isLayout_27 rfl (by decide) ?_
      exact ⟨pb_no (fun q => by first | exact absurd (show _ ∧ _ from ⟨q.1, q.2.1⟩) (of_decide_eq_false c_7) | exact absurd q.2.2 (of_decide_eq_false c_19)), rfl, rfl⟩
    · have c_19 := pb_n0.mp c_19
      refine pe_iconst (v := nI 1) d_K_isLayout_22 (by decide) ?_
      refine pe_goto (tgt := 27) d_K_isLayout_23 (by decide) ?_
      refine pe_zret d_K_isLayout_27 rfl (by decide) ?_
      have d1 := of_decide_eq_true c_7
      have d2 := of_decide_eq_true c_19
      exact ⟨pb_yes ⟨d1.1, d1.2, d2⟩, rfl, rfl⟩
set_option maxHeartbeats 4000000 in
set_option maxRecDepth 20000 in
theorem c_Program_isTest {l : Launch} {L : Nat} {xs : Nat → Int32} {h : pz_H} {z : Nat} (x : Int32) : pz_K l L xs M_Program_isTest 1 0 0 [.int x] h z (fun v h' z' => v = some (.int (pb (decide (¬ x < nI 7 ∧ ¬ nI 9 < x)))) ∧ h = h' ∧ z = z') := by
  refine pz_K.of rfl (Nat.le_of_ble_eq_true rfl) ?_
  change pz_E l L xs M_Program_isTest 1 0 0 0 [some (.int x)] [] h z _
  refine pe_iload_n d_Program_isTest_0 rfl ?_
  refine pe_bipush (v := nI 7) d_Program_isTest_1 (by decide) ?_
  refine pe_bipush (v := nI 9) d_Program_isTest_3 (by decide) ?_
  -- 5: K_isIn
  refine pe_callS d_Program_isTest_5 m_Program_26 s_K_isIn (c_K_isIn _ _ _) rfl rfl (by simp [Value.category]) (by decide) ?_
  intro v1 h1 z1 hq1
  obtain ⟨rfl, rfl, rfl⟩ := hq1
  change pz_E _ _ _ _ _ _ _ _ _ (_ :: _) _ _ _
  refine pe_zret d_Program_isTest_8 rfl (pb_and _) ?_
  exact ⟨rfl, rfl, rfl⟩
set_option maxHeartbeats 4000000 in
set_option maxRecDepth 20000 in
theorem c_FilterOrder_placeOf {l : Launch} {L : Nat} {xs : Nat → Int32} {h : pz_H} {z : Nat}  {os : Nat → Int32} {ol : Nat} (ho : ORD h os ol) (x : Int32) : pz_K l L xs M_FilterOrder_placeOf 0 0 0 [.ref 11, .int x] h z (fun v h' z' => v = some (.int (orm ol (ff (fun j => decide (os j = x)) (ol - 0) 0))) ∧ h = h' ∧ z = z') := by
  obtain ⟨hOO, hOA, hol⟩ := id ho
  refine pz_K.of rfl (Nat.le_of_ble_eq_true rfl) ?_
  have loop : ∀ (n : Nat) (i : Nat), i ≤ ol → ol + 1 ≤ i + n → pz_E l L xs M_FilterOrder_placeOf 0 0 0 2 [some (.ref 11), some (.int x), some (.int (nI i))] [] h z (fun v h' z' => v = some (.int (orm ol (ff (fun j => decide (os j = x)) (ol - i) i))) ∧ h = h' ∧ z = z') := by
    intro n
    induction n with
    | zero => intros; omega
    | succ n ih =>
      intro i hi hin
      refine pe_iload_n d_FilterOrder_placeOf_2 rfl ?_
      refine pe_aload_n d_FilterOrder_placeOf_3 rfl ?_
      refine pe_getf d_FilterOrder_placeOf_4 f_FilterOrder_15 hOO rfl ?_
      refine pe_icmpN_ge (tgt := 28) d_FilterOrder_placeOf_7 (by decide) (by omega) (by omega) (fun c_7 => ?_) (fun c_7 => ?_)
      · refine pe_iconst (v := -1) d_FilterOrder_placeOf_28 (by decide) ?_
        refine pe_iret d_FilterOrder_placeOf_29 rfl ?_
        exact ⟨by rw [ff_end (by omega), orm_ge (by omega)], rfl, rfl⟩
      · have c_7 : i < ol := by omega
        refine pe_aload_n d_FilterOrder_placeOf_10 rfl ?_
        refine pe_getf d_FilterOrder_placeOf_11 f_FilterOrder_9 hOO rfl ?_
        refine pe_iload_n d_FilterOrder_placeOf_14 rfl ?_
        refine pe_ialdN d_FilterOrder_placeOf_15 hOA (by omega) (by omega) ?_
        refine pe_iload_n d_FilterOrder_placeOf_16 rfl ?_
        refine pe_icmp_ne (tgt := 22) d_FilterOrder_placeOf_17 (by decide) (fun c_17 => ?_) (fun c_17 => ?_)
        · refine pe_iincN d_FilterOrder_placeOf_22 rfl (by decide) rfl ?_
          dsimp only [List.set]
          refine pe_goto (tgt := 2) d_FilterOrder_placeOf_25 (by decide) ?_
          have e := ih (i + 1) (by omega) (by omega)
          rw [← ff_no c_7 (by simpa using c_17)] at e
          exact e
        · refine pe_iload_n d_FilterOrder_placeOf_20 rfl ?_
          refine pe_iret d_FilterOrder_placeOf_21 rfl ?_
          exact ⟨by rw [ff_yes c_7 (decide_eq_true c_17), orm_lt c_7], rfl, rfl⟩
  change pz_E l L xs M_FilterOrder_placeOf 0 0 0 0 [some (.ref 11), some (.int x), none] [] h z _
  refine pe_iconst (v := nI 0) d_FilterOrder_placeOf_0 (by decide) ?_
  refine pe_istore_n d_FilterOrder_placeOf_1 (by decide) rfl ?_
  dsimp only [List.set]
  exact loop (ol + 1) 0 (by omega) (by omega)
set_option maxHeartbeats 4000000 in
set_option maxRecDepth 20000 in
theorem c_FilterOrder_appAt {l : Launch} {L : Nat} {xs : Nat → Int32} {h : pz_H} {z : Nat}  {os : Nat → Int32} {ol : Nat} (ho : ORD h os ol) {q : Nat} (hq : q < 6) : pz_K l L xs M_FilterOrder_appAt 0 0 0 [.ref 11, .int (nI q)] h z (fun v h' z' => v = some (.int (os q)) ∧ h = h' ∧ z = z') := by
  obtain ⟨hOO, hOA, hol⟩ := id ho
  refine pz_K.of rfl (Nat.le_of_ble_eq_true rfl) ?_
  change pz_E l L xs M_FilterOrder_appAt 0 0 0 0 [some (.ref 11), some (.int (nI q))] [] h z _
  refine pe_aload_n d_FilterOrder_appAt_0 rfl ?_
  refine pe_getf d_FilterOrder_appAt_1 f_FilterOrder_9 hOO rfl ?_
  refine pe_iload_n d_FilterOrder_appAt_4 rfl ?_
  refine pe_ialdN d_FilterOrder_appAt_5 hOA (by omega) (by omega) ?_
  refine pe_iret d_FilterOrder_appAt_6 rfl ?_
  exact ⟨rfl, rfl, rfl⟩
set_option maxHeartbeats 4000000 in
set_option maxRecDepth 20000 in
theorem c_FilterOrder_append {l : Launch} {L : Nat} {xs : Nat → Int32} {h : pz_H} {z : Nat}  {os : Nat → Int32} {ol : Nat} (ho : ORD h os ol) (x : Int32) (hlt : ol < 6) : pz_K l L xs M_FilterOrder_append 0 0 0 [.ref 11, .int x] h z (fun v h' z' => v = none ∧ z = z' ∧ ORD h' (upd os ol x) (ol + 1) ∧ frm 11 13 h h') := by
  obtain ⟨hOO, hOA, hol⟩ := id ho
  have hf : frm 11 13 h h := frm.rf
  refine pz_K.of rfl (Nat.le_of_ble_eq_true rfl) ?_
  change pz_E l L xs M_FilterOrder_append 0 0 0 0 [some (.ref 11), some (.int x)] [] h z _
  refine pe_aload_n d_FilterOrder_append_0 rfl ?_
  refine pe_getf d_FilterOrder_append_1 f_FilterOrder_9 hOO rfl ?_
  refine pe_aload_n d_FilterOrder_append_4 rfl ?_
  refine pe_getf d_FilterOrder_append_5 f_FilterOrder_15 hOO rfl ?_
  refine pe_iload_n d_FilterOrder_append_8 rfl ?_
  refine pe_iastN d_FilterOrder_append_9 hOA (by omega) (by omega) ?_
  refine pe_pu (fun h2 e2 o2 => ?_)
  have hOO := (o2 (11) (by omega)).trans hOO
  have hOA := e2
  have hf := hf.st o2 (by omega) (by omega)
  refine pe_aload_n d_FilterOrder_append_10 rfl ?_
  refine pe_dup d_FilterOrder_append_11 rfl ?_
  refine pe_getf d_FilterOrder_append_12 f_FilterOrder_15 hOO rfl ?_
  refine pe_iconst (v := nI 1) d_FilterOrder_append_15 (by decide) ?_
  refine pe_iaddN d_FilterOrder_append_16 ?_
  refine pe_put d_FilterOrder_append_17 g_FilterOrder_15 hOO (Nat.le_of_ble_eq_true rfl) rfl ?_
  refine pe_pu (fun h2 e2 o2 => ?_)
  have hOO := e2
  have hOA := (o2 (12) (by omega)).trans hOA
  have hf := hf.st o2 (by omega) (by omega)
  refine pe_vret d_FilterOrder_append_20 rfl ?_
  exact ⟨rfl, rfl, ⟨hOO, hOA, by omega⟩, hf⟩
/-- the order without x: what stood behind it moves down -/
def dro (os : Nat → Int32) (ol : Nat) (x : Int32) : Nat → Int32 := if ff (fun j => decide (os j = x)) ol 0 < ol then fil os (fun j => os (j + 1)) (ff (fun j => decide (os j = x)) ol 0) (ol - 1 - ff (fun j => decide (os j = x)) ol 0) else os
def drl (os : Nat → Int32) (ol : Nat) (x : Int32) : Nat := if ff (fun j => decide (os j = x)) ol 0 < ol then ol - 1 else ol
set_option maxHeartbeats 4000000 in
set_option maxRecDepth 20000 in
theorem c_FilterOrder_drop {l : Launch} {L : Nat} {xs : Nat → Int32} {h : pz_H} {z : Nat}  {os : Nat → Int32} {ol : Nat} (ho : ORD h os ol) (x : Int32) : pz_K l L xs M_FilterOrder_drop 1 0 0 [.ref 11, .int x] h z (fun v h' z' => v = none ∧ z = z' ∧ ORD h' (dro os ol x) (drl os ol x) ∧ frm 11 13 h h') := by
  obtain ⟨hOO, hOA, hol⟩ := id ho
  have hf : frm 11 13 h h := frm.rf
  refine pz_K.of rfl (Nat.le_of_ble_eq_true rfl) ?_
  change pz_E l L xs M_FilterOrder_drop 1 0 0 0 [some (.ref 11), some (.int x), none, none] [] h z _
  refine pe_aload_n d_FilterOrder_drop_0 rfl ?_
  refine pe_iload_n d_FilterOrder_drop_1 rfl ?_
  -- 2: FilterOrder_placeOf
  refine pe_callV d_FilterOrder_drop_2 m_FilterOrder_19 j_FilterOrder_placeOf v_FilterOrder_placeOf (c_FilterOrder_placeOf ho x) rfl rfl (by simp [Value.category]) (by decide) hOO rfl rfl ?_
  intro v1 h1 z1 hq1
  obtain ⟨rfl, rfl, rfl⟩ := hq1
  rw [Nat.sub_zero]
  obtain ⟨p, hpe⟩ : ∃ p, p = ff (fun j => decide (os j = x)) ol 0 := ⟨_, rfl⟩
  rw [← hpe]
  rcases Nat.lt_or_ge p ol with hp | hp9
  rotate_left
  · have hp : ¬ p < ol := Nat.not_lt.mpr hp9
    rw [orm_ge hp]
    refine pe_istore_n d_FilterOrder_drop_5 (by decide) rfl ?_
    refine pe_iload_n d_FilterOrder_drop_6 rfl ?_
    refine pe_iconst (v := -1) d_FilterOrder_drop_7 (by decide) ?_
    refine pe_icmp_ne (tgt := 12) d_FilterOrder_drop_8 (by decide) (fun c => absurd rfl c) (fun c => ?_)
    refine pe_vret d_FilterOrder_drop_11 rfl ?_
    refine ⟨rfl, rfl, ?_, hf⟩
    unfold dro drl
    rw [if_neg (by rw [← hpe]; exact hp), if_neg (by rw [← hpe]; exact hp)]
    exact ho
  rw [orm_lt hp]
  have loop : ∀ (n : Nat) (k : Nat) (g : pz_H), p + k ≤ ol - 1 → ol ≤ p + k + n → ORD g (fil os (fun j => os (j + 1)) p k) (ol - 1) → frm 11 13 h g → pz_E l L xs M_FilterOrder_drop 1 0 0 24 [some (.ref 11), some (.int x), some (.int (nI p)), some (.int (nI (p + k)))] [] g z (fun v h' z' => v = none ∧ z = z' ∧ ORD h' (dro os ol x) (drl os ol x) ∧ frm 11 13 h h') := by
    intro n
    induction n with
    | zero => intros; omega
    | succ n ih =>
      intro k g hi hin ho hf
      obtain ⟨hOO, hOA, hol⟩ := id ho
      refine pe_iload_n d_FilterOrder_drop_24 rfl ?_
      refine pe_aload_n d_FilterOrder_drop_25 rfl ?_
      refine pe_getf d_FilterOrder_drop_26 f_FilterOrder_15 hOO rfl ?_
      refine pe_icmpN_ge (tgt := 52) d_FilterOrder_drop_29 (by decide) (by omega) (by omega) (fun c_29 => ?_) (fun c_29 => ?_)
      · refine pe_vret d_FilterOrder_drop_52 rfl ?_
        have e : k = ol - 1 - p := by omega
        subst e
        refine ⟨rfl, rfl, ?_, hf⟩
        unfold dro drl
        rw [if_pos (by rw [← hpe]; exact hp), if_pos (by rw [← hpe]; exact hp), ← hpe]
        exact ho
      · refine pe_aload_n d_FilterOrder_drop_32 rfl ?_
        refine pe_getf d_FilterOrder_drop_33 f_FilterOrder_9 hOO rfl ?_
        refine pe_iload_n d_FilterOrder_drop_36 rfl ?_
        refine pe_aload_n d_FilterOrder_drop_37 rfl ?_
        refine pe_getf d_FilterOrder_drop_38 f_FilterOrder_9 hOO rfl ?_
        refine pe_iload_n d_FilterOrder_drop_41 rfl ?_
        refine pe_iconst (v := nI 1) d_FilterOrder_drop_42 (by decide) ?_
        refine pe_iaddN d_FilterOrder_drop_43 ?_
        refine pe_ialdN d_FilterOrder_drop_44 hOA (by omega) (by omega) ?_
        rw [show fil os (fun j => os (j + 1)) p k (p + k + 1) = (fun j => os (j + 1)) (p + k) from by unfold fil; rw [if_neg (by omega)]]
        refine pe_iastN d_FilterOrder_drop_45 hOA (by omega) (by omega) ?_
        refine pe_pu (fun h2 e2 o2 => ?_)
        have hOO := (o2 (11) (by omega)).trans hOO
        have hOA := e2
        have hf := hf.st o2 (by omega) (by omega)
        refine pe_iincN d_FilterOrder_drop_46 rfl (by decide) rfl ?_
        dsimp only [List.set]
        refine pe_goto (tgt := 24) d_FilterOrder_drop_49 (by decide) ?_
        rw [fil_s] at hOA
        exact ih (k + 1) _ (by omega) (by omega) ⟨hOO, hOA, hol⟩ hf
  change pz_E _ _ _ _ _ _ _ _ _ (_ :: _) _ _ _
  refine pe_istore_n d_FilterOrder_drop_5 (by decide) rfl ?_
  dsimp only [List.set]
  refine pe_iload_n d_FilterOrder_drop_6 rfl ?_
  refine pe_iconst (v := -1) d_FilterOrder_drop_7 (by decide) ?_
  refine pe_icmp_ne (tgt := 12) d_FilterOrder_drop_8 (by decide) (fun c_8 => ?_) (fun c_8 => ?_)
  · refine pe_aload_n d_FilterOrder_drop_12 rfl ?_
    refine pe_dup d_FilterOrder_drop_13 rfl ?_
    refine pe_getf d_FilterOrder_drop_14 f_FilterOrder_15 hOO rfl ?_
    refine pe_iconst (v := nI 1) d_FilterOrder_drop_17 (by decide) ?_
    refine pe_isubN d_FilterOrder_drop_18 (by omega) ?_
    refine pe_put d_FilterOrder_drop_19 g_FilterOrder_15 hOO (Nat.le_of_ble_eq_true rfl) rfl ?_
    refine pe_pu (fun h2 e2 o2 => ?_)
    have hOO := e2
    have hOA := (o2 (12) (by omega)).trans hOA
    have hf := hf.st o2 (by omega) (by omega)
    refine pe_iload_n d_FilterOrder_drop_22 rfl ?_
    refine pe_istore_n d_FilterOrder_drop_23 (by decide) rfl ?_
    dsimp only [List.set]
    exact loop (ol + 1) 0 _ (by omega) (by omega) (by rw [fil_0]; exact ⟨hOO, hOA, by omega⟩) hf
  · exact absurd c_8 (nI_nem1 (by omega))
set_option maxHeartbeats 4000000 in
set_option maxRecDepth 20000 in
theorem c_Frame_isFull {l : Launch} {L : Nat} {xs : Nat → Int32} {h : pz_H} {z : Nat}  {a : Nat} {fb : Nat → Int32} {fl : Nat} (hr : FRA a h fb fl) : pz_K l L xs M_Frame_isFull 0 0 0 [.ref a] h z (fun v h' z' => v = some (.int (pb (decide (fl = 16)))) ∧ h = h' ∧ z = z') := by
  obtain ⟨hFO, hFB, hfl⟩ := id hr
  refine pz_K.of rfl (Nat.le_of_ble_eq_true rfl) ?_
  change pz_E l L xs M_Frame_isFull 0 0 0 0 [some (.ref a)] [] h z _
  refine pe_aload_n d_Frame_isFull_0 rfl ?_
  refine pe_getf d_Frame_isFull_1 f_Frame_13 hFO rfl ?_
  refine pe_bipush (v := nI 16) d_Frame_isFull_4 (by decide) ?_
  refine pe_icmpN_ne (tgt := 13) d_Frame_isFull_6 (by decide) (by omega) (by omega) (fun c_6 => ?_) (fun c_6 => ?_)
  · refine pe_iconst (v := nI 0) d_Frame_isFull_13 (by decide) ?_
    refine pe_zret d_Frame_isFull_14 rfl (by decide) ?_
    exact ⟨pb_no (fun q => by first | exact c_6 q), rfl, rfl⟩
  · refine pe_iconst (v := nI 1) d_Frame_isFull_9 (by decide) ?_
    refine pe_goto (tgt := 14) d_Frame_isFull_10 (by decide) ?_
    refine pe_zret d_Frame_isFull_14 rfl (by decide) ?_
    exact ⟨pb_yes c_6, rfl, rfl⟩
set_option maxHeartbeats 4000000 in
set_option maxRecDepth 20000 in
theorem c_Frame_clear {l : Launch} {L : Nat} {xs : Nat → Int32} {h : pz_H} {z : Nat}  {a : Nat} {fb : Nat → Int32} {fl : Nat} (hr : FRA a h fb fl) : pz_K l L xs M_Frame_clear 0 0 0 [.ref a] h z (fun v h' z' => v = none ∧ z = z' ∧ FRA a h' fb 0 ∧ frm a (a + 2) h h') := by
  obtain ⟨hFO, hFB, hfl⟩ := id hr
  have hf : frm a (a + 2) h h := frm.rf
  refine pz_K.of rfl (Nat.le_of_ble_eq_true rfl) ?_
  change pz_E l L xs M_Frame_clear 0 0 0 0 [some (.ref a)] [] h z _
  refine pe_aload_n d_Frame_clear_0 rfl ?_
  refine pe_iconst (v := nI 0) d_Frame_clear_1 (by decide) ?_
  refine pe_put d_Frame_clear_2 g_Frame_13 hFO (Nat.le_of_ble_eq_true rfl) rfl ?_
  refine pe_pu (fun h2 e2 o2 => ?_)
  have hFO := e2
  have hFB := (o2 (a + 1) (by omega)).trans hFB
  have hf := hf.st o2 (by omega) (by omega)
  refine pe_vret d_Frame_clear_5 rfl ?_
  exact ⟨rfl, rfl, ⟨hFO, hFB, by omega⟩, hf⟩
set_option maxHeartbeats 4000000 in
set_option maxRecDepth 20000 in
theorem c_Frame_append {l : Launch} {L : Nat} {xs : Nat → Int32} {h : pz_H} {z : Nat}  {a : Nat} {fb : Nat → Int32} {fl : Nat} (hr : FRA a h fb fl) (x : Int32) (hlt : fl < 16) : pz_K l L xs M_Frame_append 0 0 0 [.ref a, .int x] h z (fun v h' z' => v = none ∧ z = z' ∧ FRA a h' (upd fb fl x) (fl + 1) ∧ frm a (a + 2) h h') := by
  obtain ⟨hFO, hFB, hfl⟩ := id hr
  have hf : frm a (a + 2) h h := frm.rf
  refine pz_K.of rfl (Nat.le_of_ble_eq_true rfl) ?_
  change pz_E l L xs M_Frame_append 0 0 0 0 [some (.ref a), some (.int x)] [] h z _
  refine pe_aload_n d_Frame_append_0 rfl ?_
  refine pe_getf d_Frame_append_1 f_Frame_9 hFO rfl ?_
  refine pe_aload_n d_Frame_append_4 rfl ?_
  refine pe_getf d_Frame_append_5 f_Frame_13 hFO rfl ?_
  refine pe_iload_n d_Frame_append_8 rfl ?_
  refine pe_iastN d_Frame_append_9 hFB (by omega) (by omega) ?_
  refine pe_pu (fun h2 e2 o2 => ?_)
  have hFO := (o2 (a) (by omega)).trans hFO
  have hFB := e2
  have hf := hf.st o2 (by omega) (by omega)
  refine pe_aload_n d_Frame_append_10 rfl ?_
  refine pe_dup d_Frame_append_11 rfl ?_
  refine pe_getf d_Frame_append_12 f_Frame_13 hFO rfl ?_
  refine pe_iconst (v := nI 1) d_Frame_append_15 (by decide) ?_
  refine pe_iaddN d_Frame_append_16 ?_
  refine pe_put d_Frame_append_17 g_Frame_13 hFO (Nat.le_of_ble_eq_true rfl) rfl ?_
  refine pe_pu (fun h2 e2 o2 => ?_)
  have hFO := e2
  have hFB := (o2 (a + 1) (by omega)).trans hFB
  have hf := hf.st o2 (by omega) (by omega)
  refine pe_vret d_Frame_append_20 rfl ?_
  exact ⟨rfl, rfl, ⟨hFO, hFB, by omega⟩, hf⟩
set_option maxHeartbeats 4000000 in
set_option maxRecDepth 20000 in
theorem c_Frame_byteAt {l : Launch} {L : Nat} {xs : Nat → Int32} {h : pz_H} {z : Nat}  {a : Nat} {fb : Nat → Int32} {fl : Nat} (hr : FRA a h fb fl) {q : Nat} (hq : q < 16) : pz_K l L xs M_Frame_byteAt 0 0 0 [.ref a, .int (nI q)] h z (fun v h' z' => v = some (.int (fb q)) ∧ h = h' ∧ z = z') := by
  obtain ⟨hFO, hFB, hfl⟩ := id hr
  refine pz_K.of rfl (Nat.le_of_ble_eq_true rfl) ?_
  change pz_E l L xs M_Frame_byteAt 0 0 0 0 [some (.ref a), some (.int (nI q))] [] h z _
  refine pe_aload_n d_Frame_byteAt_0 rfl ?_
  refine pe_getf d_Frame_byteAt_1 f_Frame_9 hFO rfl ?_
  refine pe_iload_n d_Frame_byteAt_4 rfl ?_
  refine pe_ialdN d_Frame_byteAt_5 hFB (by omega) (by omega) ?_
  refine pe_iret d_Frame_byteAt_6 rfl ?_
  exact ⟨rfl, rfl, rfl⟩
set_option maxHeartbeats 4000000 in
set_option maxRecDepth 20000 in
theorem c_Frame_hasByte {l : Launch} {L : Nat} {xs : Nat → Int32} {h : pz_H} {z : Nat}  {a : Nat} {fb : Nat → Int32} {fl : Nat} (hr : FRA a h fb fl) (y : Int64) : pz_K l L xs M_Frame_hasByte 0 0 0 [.ref a, .long y] h z (fun v h' z' => v = some (.int (pb (decide (¬ lg_cmp y 0 < 0 ∧ ¬ 0 ≤ lg_cmp y (nI fl).toInt64)))) ∧ h = h' ∧ z = z') := by
  obtain ⟨hFO, hFB, hfl⟩ := id hr
  refine pz_K.of rfl (Nat.le_of_ble_eq_true rfl) ?_
  change pz_E l L xs M_Frame_hasByte 0 0 0 0 [some (.ref a), some (.long y), none] [] h z _
  refine pe_lload_n d_Frame_hasByte_0 rfl ?_
  refine pe_lconst (v := 0) d_Frame_hasByte_1 (by decide) ?_
  refine pe_lcmp d_Frame_hasByte_2 ?_
  refine pe_if_lt (tgt := 20) d_Frame_hasByte_3 (by decide) (fun c_3 => ?_) (fun c_3 => ?_)
  · refine pe_iconst (v := nI 0) d_Frame_hasByte_20 (by decide) ?_
    refine pe_zret d_Frame_hasByte_21 rfl (by decide) ?_
    exact ⟨pb_no (fun q => by first | exact q.1 c_3 | exact q.2 c_13), rfl, rfl⟩
  · refine pe_lload_n d_Frame_hasByte_6 rfl ?_
    refine pe_aload_n d_Frame_hasByte_7 rfl ?_
    refine pe_getf d_Frame_hasByte_8 f_Frame_13 hFO rfl ?_
    refine pe_i2l d_Frame_hasByte_11 ?_
    refine pe_lcmp d_Frame_hasByte_12 ?_
    refine pe_if_ge (tgt := 20) d_Frame_hasByte_13 (by decide) (fun c_13 => ?_) (fun c_13 => ?_)
    · refine pe_iconst (v := nI 0) d_Frame_hasByte_20 (by decide) ?_
      refine pe_zret d_Frame_hasByte_21 rfl (by decide) ?_
      exact ⟨pb_no (fun q => by first | exact q.1 c_3 | exact q.2 c_13), rfl, rfl⟩
    · refine pe_iconst (v := nI 1) d_Frame_hasByte_16 (by decide) ?_
      refine pe_goto (tgt := 21) d_Frame_hasByte_17 (by decide) ?_
      refine pe_zret d_Frame_hasByte_21 rfl (by decide) ?_
      exact ⟨pb_yes ⟨c_3, c_13⟩, rfl, rfl⟩
set_option maxHeartbeats 4000000 in
set_option maxRecDepth 20000 in
theorem c_PageList_clear {l : Launch} {L : Nat} {xs : Nat → Int32} {h : pz_H} {z : Nat}  {a : Nat} {pp : Nat → Int32} {pl pe : Nat} (hg : PGL a h pp pl pe) : pz_K l L xs M_PageList_clear 0 0 0 [.ref a] h z (fun v h' z' => v = none ∧ z = z' ∧ PGL a h' pp 0 0 ∧ frm a (a + 2) h h') := by
  obtain ⟨hPO, hPP, hpl, hpe⟩ := id hg
  have hf : frm a (a + 2) h h := frm.rf
  refine pz_K.of rfl (Nat.le_of_ble_eq_true rfl) ?_
  change pz_E l L xs M_PageList_clear 0 0 0 0 [some (.ref a)] [] h z _
  refine pe_aload_n d_PageList_clear_0 rfl ?_
  refine pe_iconst (v := nI 0) d_PageList_clear_1 (by decide) ?_
  refine pe_put d_PageList_clear_2 g_PageList_13 hPO (Nat.le_of_ble_eq_true rfl) rfl ?_
  refine pe_pu (fun h2 e2 o2 => ?_)
  have hPO := e2
  have hPP := (o2 (a + 1) (by omega)).trans hPP
  have hf := hf.st o2 (by omega) (by omega)
  refine pe_aload_n d_PageList_clear_5 rfl ?_
  refine pe_iconst (v := nI 0) d_PageList_clear_6 (by decide) ?_
  refine pe_put d_PageList_clear_7 g_PageList_17 hPO (Nat.le_of_ble_eq_true rfl) rfl ?_
  refine pe_pu (fun h2 e2 o2 => ?_)
  have hPO := e2
  have hPP := (o2 (a + 1) (by omega)).trans hPP
  have hf := hf.st o2 (by omega) (by omega)
  refine pe_vret d_PageList_clear_10 rfl ?_
  exact ⟨rfl, rfl, ⟨hPO, hPP, by omega, by omega⟩, hf⟩
set_option maxHeartbeats 4000000 in
set_option maxRecDepth 20000 in
theorem c_PageList_append {l : Launch} {L : Nat} {xs : Nat → Int32} {h : pz_H} {z : Nat}  {a : Nat} {pp : Nat → Int32} {pl pe : Nat} (hg : PGL a h pp pl pe) (x : Int32) : pz_K l L xs M_PageList_append 1 0 0 [.ref a, .int x] h z (fun v h' z' => v = none ∧ z = z' ∧ PGL a h' (upd pp pe x) (if pl + 1 < 8 then pl + 1 else 8) ((pe + 1) % 8) ∧ frm a (a + 2) h h') := by
  obtain ⟨hPO, hPP, hpl, hpe⟩ := id hg
  have hf : frm a (a + 2) h h := frm.rf
  refine pz_K.of rfl (Nat.le_of_ble_eq_true rfl) ?_
  change pz_E l L xs M_PageList_append 1 0 0 0 [some (.ref a), some (.int x)] [] h z _
  refine pe_aload_n d_PageList_append_0 rfl ?_
  refine pe_getf d_PageList_append_1 f_PageList_9 hPO rfl ?_
  refine pe_aload_n d_PageList_append_4 rfl ?_
  refine pe_getf d_PageList_append_5 f_PageList_17 hPO rfl ?_
  refine pe_iload_n d_PageList_append_8 rfl ?_
  refine pe_iastN d_PageList_append_9 hPP (by omega) (by omega) ?_
  refine pe_pu (fun h2 e2 o2 => ?_)
  have hPO := (o2 (a) (by omega)).trans hPO
  have hPP := e2
  have hf := hf.st o2 (by omega) (by omega)
  refine pe_aload_n d_PageList_append_10 rfl ?_
  refine pe_aload_n d_PageList_append_11 rfl ?_
  refine pe_getf d_PageList_append_12 f_PageList_17 hPO rfl ?_
  refine pe_iconst (v := nI 1) d_PageList_append_15 (by decide) ?_
  refine pe_iaddN d_PageList_append_16 ?_
  refine pe_bipush (v := nI 8) d_PageList_append_17 (by decide) ?_
  refine pe_iremN d_PageList_append_19 (by omega) (by omega) (by omega) ?_
  refine pe_put d_PageList_append_20 g_PageList_17 hPO (Nat.le_of_ble_eq_true rfl) rfl ?_
  refine pe_pu (fun h2 e2 o2 => ?_)
  have hPO := e2
  have hPP := (o2 (a + 1) (by omega)).trans hPP
  have hf := hf.st o2 (by omega) (by omega)
  refine pe_aload_n d_PageList_append_23 rfl ?_
  refine pe_bipush (v := nI 8) d_PageList_append_24 (by decide) ?_
  refine pe_aload_n d_PageList_append_26 rfl ?_
  refine pe_getf d_PageList_append_27 f_PageList_13 hPO rfl ?_
  refine pe_iconst (v := nI 1) d_PageList_append_30 (by decide) ?_
  refine pe_iaddN d_PageList_append_31 ?_
  -- 32: Math_min
  refine pe_callS d_PageList_append_32 m_PageList_20 s_Math_min (c_Math_min _ _) rfl rfl (by simp [Value.category]) (by decide) ?_
  intro v1 h1 z1 hq1
  obtain ⟨rfl, rfl, rfl⟩ := hq1
  rw [imin_N (by omega) (by omega)]
  change pz_E _ _ _ _ _ _ _ _ _ (_ :: _) _ _ _
  refine pe_put d_PageList_append_35 g_PageList_13 hPO (Nat.le_of_ble_eq_true rfl) rfl ?_
  refine pe_pu (fun h2 e2 o2 => ?_)
  have hPO := e2
  have hPP := (o2 (a + 1) (by omega)).trans hPP
  have hf := hf.st o2 (by omega) (by omega)
  refine pe_vret d_PageList_append_38 rfl ?_
  exact ⟨rfl, rfl, ⟨hPO, hPP, by split <;> omega, by omega⟩, hf⟩
set_option maxHeartbeats 4000000 in
set_option maxRecDepth 20000 in
theorem c_PageList_keeps {l : Launch} {L : Nat} {xs : Nat → Int32} {h : pz_H} {z : Nat}  {a : Nat} {pp : Nat → Int32} {pl pe : Nat} (hg : PGL a h pp pl pe) (x : Int32) : pz_K l L xs M_PageList_keeps 0 0 0 [.ref a, .int x] h z (fun v h' z' => v = some (.int (pb (decide (¬ x < 0 ∧ ¬ nI pl ≤ x)))) ∧ h = h' ∧ z = z') := by
  obtain ⟨hPO, hPP, hpl, hpe⟩ := id hg
  refine pz_K.of rfl (Nat.le_of_ble_eq_true rfl) ?_
  change pz_E l L xs M_PageList_keeps 0 0 0 0 [some (.ref a), some (.int x)] [] h z _
  refine pe_iload_n d_PageList_keeps_0 rfl ?_
  refine pe_if_lt (tgt := 16) d_PageList_keeps_1 (by decide) (fun c_1 => ?_) (fun c_1 => ?_)
  · refine pe_iconst (v := nI 0) d_PageList_keeps_16 (by decide) ?_
    refine pe_zret d_PageList_keeps_17 rfl (by decide) ?_
    exact ⟨pb_no (fun q => by first | exact q.1 c_1 | exact q.2 c_9), rfl, rfl⟩
  · refine pe_iload_n d_PageList_keeps_4 rfl ?_
    refine pe_aload_n d_PageList_keeps_5 rfl ?_
    refine pe_getf d_PageList_keeps_6 f_PageList_13 hPO rfl ?_
    refine pe_icmp_ge (tgt := 16) d_PageList_keeps_9 (by decide) (fun c_9 => ?_) (fun c_9 => ?_)
    · refine pe_iconst (v := nI 0) d_PageList_keeps_16 (by decide) ?_
      refine pe_zret d_PageList_keeps_17 rfl (by decide) ?_
      exact ⟨pb_no (fun q => by first | exact q.1 c_1 | exact q.2 c_9), rfl, rfl⟩
    · refine pe_iconst (v := nI 1) d_PageList_keeps_12 (by decide) ?_
      refine pe_goto (tgt := 17) d_PageList_keeps_13 (by decide) ?_
      refine pe_zret d_PageList_keeps_17 rfl (by decide) ?_
      exact ⟨pb_yes ⟨c_1, c_9⟩, rfl, rfl⟩
set_option maxHeartbeats 4000000 in
set_option maxRecDepth 20000 in
theorem c_PageList_beforeLast {l : Launch} {L : Nat} {xs : Nat → Int32} {h : pz_H} {z : Nat}  {a : Nat} {pp : Nat → Int32} {pl pe : Nat} (hg : PGL a h pp pl pe) {q : Nat} (hq : q < 8) : pz_K l L xs M_PageList_beforeLast 0 0 0 [.ref a, .int (nI q)] h z (fun v h' z' => v = some (.int (pp ((pe + 8 - 1 - q) % 8))) ∧ h = h' ∧ z = z') := by
  obtain ⟨hPO, hPP, hpl, hpe⟩ := id hg
  refine pz_K.of rfl (Nat.le_of_ble_eq_true rfl) ?_
  change pz_E l L xs M_PageList_beforeLast 0 0 0 0 [some (.ref a), some (.int (nI q))] [] h z _
  refine pe_aload_n d_PageList_beforeLast_0 rfl ?_
  refine pe_getf d_PageList_beforeLast_1 f_PageList_9 hPO rfl ?_
  refine pe_aload_n d_PageList_beforeLast_4 rfl ?_
  refine pe_getf d_PageList_beforeLast_5 f_PageList_17 hPO rfl ?_
  refine pe_bipush (v := nI 8) d_PageList_beforeLast_8 (by decide) ?_
  refine pe_iaddN d_PageList_beforeLast_10 ?_
  refine pe_iconst (v := nI 1) d_PageList_beforeLast_11 (by decide) ?_
  refine pe_isubN d_PageList_beforeLast_12 (by omega) ?_
  refine pe_iload_n d_PageList_beforeLast_13 rfl ?_
  refine pe_isubN d_PageList_beforeLast_14 (by omega) ?_
  refine pe_bipush (v := nI 8) d_PageList_beforeLast_15 (by decide) ?_
  refine pe_iremN d_PageList_beforeLast_17 (by omega) (by omega) (by omega) ?_
  refine pe_ialdN d_PageList_beforeLast_18 hPP (by omega) (by omega) ?_
  refine pe_iret d_PageList_beforeLast_19 rfl ?_
  exact ⟨rfl, rfl, rfl⟩
end
