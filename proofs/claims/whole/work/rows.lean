section
-- ===== PART A: goes FIRST, ahead of the names: the tables' words, and 'selects' of the private methods out of them =====
/-- a private method of a class that the tables say can be made, by its rows of tables_1 -/
def lw_okq (q : MethodName × Nat) : Prop := (q.1.cls ≠ "java/lang/invoke/MethodHandle" ∧ q.1.cls ≠ "java/lang/invoke/VarHandle") ∧ Cond.instantiable q.1.cls q.2 ∈ tables_1 ∧ Cond.privateMethod q.1 ∈ tables_1 ∧ Cond.instanceMethod q.1 ∈ tables_1
theorem lw_p0 : lw_okq (⟨"BindingKernel", "isOpen", "(I)Z"⟩, 6) := ⟨⟨by decide +kernel, by decide +kernel⟩, List.mem_of_getElem? (i := 15) (by decide +kernel), List.mem_of_getElem? (i := 291) (by decide +kernel), List.mem_of_getElem? (i := 292) (by decide +kernel)⟩
theorem lw_p1 : lw_okq (⟨"BindingKernel", "owns", "(II)Z"⟩, 6) := ⟨⟨by decide +kernel, by decide +kernel⟩, List.mem_of_getElem? (i := 15) (by decide +kernel), List.mem_of_getElem? (i := 359) (by decide +kernel), List.mem_of_getElem? (i := 360) (by decide +kernel)⟩
theorem lw_p2 : lw_okq (⟨"BindingKernel", "mayUse", "(IIII)Z"⟩, 6) := ⟨⟨by decide +kernel, by decide +kernel⟩, List.mem_of_getElem? (i := 15) (by decide +kernel), List.mem_of_getElem? (i := 381) (by decide +kernel), List.mem_of_getElem? (i := 382) (by decide +kernel)⟩
theorem lw_p3 : lw_okq (⟨"BindingKernel", "firstAccepting", "()I"⟩, 6) := ⟨⟨by decide +kernel, by decide +kernel⟩, List.mem_of_getElem? (i := 15) (by decide +kernel), List.mem_of_getElem? (i := 481) (by decide +kernel), List.mem_of_getElem? (i := 482) (by decide +kernel)⟩
theorem lw_p4 : lw_okq (⟨"BindingKernel", "deliver", "(I)I"⟩, 6) := ⟨⟨by decide +kernel, by decide +kernel⟩, List.mem_of_getElem? (i := 15) (by decide +kernel), List.mem_of_getElem? (i := 507) (by decide +kernel), List.mem_of_getElem? (i := 508) (by decide +kernel)⟩
theorem lw_p5 : lw_okq (⟨"BindingKernel", "relink", "(IIII)I"⟩, 6) := ⟨⟨by decide +kernel, by decide +kernel⟩, List.mem_of_getElem? (i := 15) (by decide +kernel), List.mem_of_getElem? (i := 564) (by decide +kernel), List.mem_of_getElem? (i := 565) (by decide +kernel)⟩
theorem lw_p6 : lw_okq (⟨"BindingKernel$EntryTable", "blockOf", "(I)I"⟩, 2) := ⟨⟨by decide +kernel, by decide +kernel⟩, List.mem_of_getElem? (i := 157) (by decide +kernel), List.mem_of_getElem? (i := 592) (by decide +kernel), List.mem_of_getElem? (i := 593) (by decide +kernel)⟩
theorem lw_p7 : lw_okq (⟨"BindingKernel", "countOf", "(II)I"⟩, 6) := ⟨⟨by decide +kernel, by decide +kernel⟩, List.mem_of_getElem? (i := 15) (by decide +kernel), List.mem_of_getElem? (i := 656) (by decide +kernel), List.mem_of_getElem? (i := 657) (by decide +kernel)⟩
theorem lw_p8 : lw_okq (⟨"BindingKernelModel", "out", "(II)Z"⟩, 33) := ⟨⟨by decide +kernel, by decide +kernel⟩, List.mem_of_getElem? (i := 668) (by decide +kernel), List.mem_of_getElem? (i := 778) (by decide +kernel), List.mem_of_getElem? (i := 779) (by decide +kernel)⟩
theorem lw_p9 : lw_okq (⟨"BindingKernelModel", "freeBlock", "()I"⟩, 33) := ⟨⟨by decide +kernel, by decide +kernel⟩, List.mem_of_getElem? (i := 668) (by decide +kernel), List.mem_of_getElem? (i := 782) (by decide +kernel), List.mem_of_getElem? (i := 783) (by decide +kernel)⟩
theorem lw_p10 : lw_okq (⟨"BindingKernelModel", "renew", "(II)V"⟩, 33) := ⟨⟨by decide +kernel, by decide +kernel⟩, List.mem_of_getElem? (i := 668) (by decide +kernel), List.mem_of_getElem? (i := 786) (by decide +kernel), List.mem_of_getElem? (i := 787) (by decide +kernel)⟩
theorem lw_p11 : lw_okq (⟨"BindingKernelModel", "isLink", "(II)Z"⟩, 33) := ⟨⟨by decide +kernel, by decide +kernel⟩, List.mem_of_getElem? (i := 668) (by decide +kernel), List.mem_of_getElem? (i := 790) (by decide +kernel), List.mem_of_getElem? (i := 791) (by decide +kernel)⟩
theorem lw_p12 : lw_okq (⟨"BindingKernelModel", "shut", "(I)Z"⟩, 33) := ⟨⟨by decide +kernel, by decide +kernel⟩, List.mem_of_getElem? (i := 668) (by decide +kernel), List.mem_of_getElem? (i := 798) (by decide +kernel), List.mem_of_getElem? (i := 799) (by decide +kernel)⟩
theorem lw_p13 : lw_okq (⟨"BindingKernelModel", "free", "(I)V"⟩, 33) := ⟨⟨by decide +kernel, by decide +kernel⟩, List.mem_of_getElem? (i := 668) (by decide +kernel), List.mem_of_getElem? (i := 802) (by decide +kernel), List.mem_of_getElem? (i := 803) (by decide +kernel)⟩
theorem lw_p14 : lw_okq (⟨"BindingKernelModel", "withdraw", "(I)V"⟩, 33) := ⟨⟨by decide +kernel, by decide +kernel⟩, List.mem_of_getElem? (i := 668) (by decide +kernel), List.mem_of_getElem? (i := 806) (by decide +kernel), List.mem_of_getElem? (i := 807) (by decide +kernel)⟩
theorem lw_p15 : lw_okq (⟨"BindingKernelModel", "sound", "(I)Z"⟩, 33) := ⟨⟨by decide +kernel, by decide +kernel⟩, List.mem_of_getElem? (i := 668) (by decide +kernel), List.mem_of_getElem? (i := 847) (by decide +kernel), List.mem_of_getElem? (i := 848) (by decide +kernel)⟩
def lw_privs_1 : List (MethodName × Nat) := [(⟨"BindingKernel", "isOpen", "(I)Z"⟩, 6), (⟨"BindingKernel", "owns", "(II)Z"⟩, 6), (⟨"BindingKernel", "mayUse", "(IIII)Z"⟩, 6), (⟨"BindingKernel", "firstAccepting", "()I"⟩, 6), (⟨"BindingKernel", "deliver", "(I)I"⟩, 6), (⟨"BindingKernel", "relink", "(IIII)I"⟩, 6), (⟨"BindingKernel$EntryTable", "blockOf", "(I)I"⟩, 2), (⟨"BindingKernel", "countOf", "(II)I"⟩, 6), (⟨"BindingKernelModel", "out", "(II)Z"⟩, 33), (⟨"BindingKernelModel", "freeBlock", "()I"⟩, 33), (⟨"BindingKernelModel", "renew", "(II)V"⟩, 33), (⟨"BindingKernelModel", "isLink", "(II)Z"⟩, 33), (⟨"BindingKernelModel", "shut", "(I)Z"⟩, 33), (⟨"BindingKernelModel", "free", "(I)V"⟩, 33), (⟨"BindingKernelModel", "withdraw", "(I)V"⟩, 33), (⟨"BindingKernelModel", "sound", "(I)Z"⟩, 33)]
theorem lw_r1 : ∀ q ∈ lw_privs_1, lw_okq q := List.forall_mem_cons.mpr ⟨lw_p0, List.forall_mem_cons.mpr ⟨lw_p1, List.forall_mem_cons.mpr ⟨lw_p2, List.forall_mem_cons.mpr ⟨lw_p3, List.forall_mem_cons.mpr ⟨lw_p4, List.forall_mem_cons.mpr ⟨lw_p5, List.forall_mem_cons.mpr ⟨lw_p6, List.forall_mem_cons.mpr ⟨lw_p7, List.forall_mem_cons.mpr ⟨lw_p8, List.forall_mem_cons.mpr ⟨lw_p9, List.forall_mem_cons.mpr ⟨lw_p10, List.forall_mem_cons.mpr ⟨lw_p11, List.forall_mem_cons.mpr ⟨lw_p12, List.forall_mem_cons.mpr ⟨lw_p13, List.forall_mem_cons.mpr ⟨lw_p14, List.forall_mem_cons.mpr ⟨lw_p15, fun _ h => absurd h List.not_mem_nil⟩⟩⟩⟩⟩⟩⟩⟩⟩⟩⟩⟩⟩⟩⟩⟩
theorem lw_p16 : lw_okq (⟨"BindingKernelModel", "accepts", "(I)Z"⟩, 33) := ⟨⟨by decide +kernel, by decide +kernel⟩, List.mem_of_getElem? (i := 668) (by decide +kernel), List.mem_of_getElem? (i := 859) (by decide +kernel), List.mem_of_getElem? (i := 860) (by decide +kernel)⟩
theorem lw_p17 : lw_okq (⟨"BindingKernelModel", "plain", "(II)Z"⟩, 33) := ⟨⟨by decide +kernel, by decide +kernel⟩, List.mem_of_getElem? (i := 668) (by decide +kernel), List.mem_of_getElem? (i := 863) (by decide +kernel), List.mem_of_getElem? (i := 864) (by decide +kernel)⟩
theorem lw_p18 : lw_okq (⟨"BindingKernelModel", "hasLinks", "(II)Z"⟩, 33) := ⟨⟨by decide +kernel, by decide +kernel⟩, List.mem_of_getElem? (i := 668) (by decide +kernel), List.mem_of_getElem? (i := 879) (by decide +kernel), List.mem_of_getElem? (i := 880) (by decide +kernel)⟩
theorem lw_p19 : lw_okq (⟨"BindingKernelModel", "entryOf", "(II)I"⟩, 33) := ⟨⟨by decide +kernel, by decide +kernel⟩, List.mem_of_getElem? (i := 668) (by decide +kernel), List.mem_of_getElem? (i := 887) (by decide +kernel), List.mem_of_getElem? (i := 888) (by decide +kernel)⟩
theorem lw_p20 : lw_okq (⟨"BindingKernelModel", "pagesOf", "(IZ)I"⟩, 33) := ⟨⟨by decide +kernel, by decide +kernel⟩, List.mem_of_getElem? (i := 668) (by decide +kernel), List.mem_of_getElem? (i := 903) (by decide +kernel), List.mem_of_getElem? (i := 904) (by decide +kernel)⟩
theorem lw_p21 : lw_okq (⟨"BindingKernelModel", "blocksOf", "(I)I"⟩, 33) := ⟨⟨by decide +kernel, by decide +kernel⟩, List.mem_of_getElem? (i := 668) (by decide +kernel), List.mem_of_getElem? (i := 907) (by decide +kernel), List.mem_of_getElem? (i := 908) (by decide +kernel)⟩
def lw_privs_2 : List (MethodName × Nat) := [(⟨"BindingKernelModel", "accepts", "(I)Z"⟩, 33), (⟨"BindingKernelModel", "plain", "(II)Z"⟩, 33), (⟨"BindingKernelModel", "hasLinks", "(II)Z"⟩, 33), (⟨"BindingKernelModel", "entryOf", "(II)I"⟩, 33), (⟨"BindingKernelModel", "pagesOf", "(IZ)I"⟩, 33), (⟨"BindingKernelModel", "blocksOf", "(I)I"⟩, 33)]
theorem lw_r2 : ∀ q ∈ lw_privs_2, lw_okq q := List.forall_mem_cons.mpr ⟨lw_p16, List.forall_mem_cons.mpr ⟨lw_p17, List.forall_mem_cons.mpr ⟨lw_p18, List.forall_mem_cons.mpr ⟨lw_p19, List.forall_mem_cons.mpr ⟨lw_p20, List.forall_mem_cons.mpr ⟨lw_p21, fun _ h => absurd h List.not_mem_nil⟩⟩⟩⟩⟩⟩
def lw_privs : List (MethodName × Nat) := lw_privs_1 ++ (lw_privs_2)
def lw_tbl : List Cond := k2_sels lw_privs ++ tables_1
theorem lw_privs_ok : ∀ q ∈ lw_privs, lw_okq q := by
  show ∀ q ∈ lw_privs_1 ++ (lw_privs_2), lw_okq q
  exact List.forall_mem_append.mpr ⟨lw_r1, lw_r2⟩
end
section
abbrev pz_M : Type := MethodName × ByteArray × Nat × Option FieldType
/-! names: the words, the kinds of cells and of arrays, the methods -/
def px_tbl : List Cond := lw_tbl.filter goodWord
def px_lc : Nat := 32
theorem px_good : GoodIn px_tbl px_tbl := fun w h => ⟨h, good_of_word (List.mem_filter.mp h).2⟩
theorem px_in (i : Nat) {w : Cond} (h : tables_1[i]? = some w) (hg : goodWord w = true) : w ∈ px_tbl := List.mem_filter.mpr ⟨List.mem_append_right _ (List.mem_of_getElem? h), hg⟩
theorem px_inp (i : Nat) {w : Cond} (h : (k2_sels lw_privs)[i]? = some w) (hg : goodWord w = true) : w ∈ px_tbl := List.mem_filter.mpr ⟨List.mem_append_left _ (List.mem_of_getElem? h), hg⟩
def pT_0 : u_T := fun k => match k with
  | 0 => ("BindingKernel", "apps", "[LBindingKernel$Application;", true)
  | 1 => ("BindingKernel", "memory", "LBindingKernel$Memory;", true)
  | 2 => ("BindingKernel", "filterOrder", "LBindingKernel$FilterOrder;", true)
  | 3 => ("BindingKernel", "arriving", "LBindingKernel$Frame;", true)
  | 4 => ("BindingKernel", "disk", "LBindingKernel$Disk;", true)
  | _ => ("BindingKernel", "framesLost", "I", false)
def pY_0 : Nat → FieldType := fun k => match k with
  | 0 => .array (.object "BindingKernel$Application")
  | 1 => .object "BindingKernel$Memory"
  | 2 => .object "BindingKernel$FilterOrder"
  | 3 => .object "BindingKernel$Frame"
  | 4 => .object "BindingKernel$Disk"
  | _ => .int
theorem pN_0 : ∀ a, a < 6 → ∀ b, b < 6 → a ≠ b → (pT_0 a).2.1 ≠ (pT_0 b).2.1 := by decide +kernel
theorem pO_0 : ∀ k, k < 6 → parseFieldDescriptor (pT_0 k).2.2.1 = some (pY_0 k) := by decide +kernel
def pT_1 : u_T := fun k => match k with
  | 0 => ("BindingKernel$Memory", "size", "I", true)
  | 1 => ("BindingKernel$Memory", "words", "[I", true)
  | 2 => ("BindingKernel$Memory", "owners", "[I", true)
  | 3 => ("BindingKernel$Memory", "rights", "[I", true)
  | 4 => ("BindingKernel$Memory", "takings", "[I", true)
  | 5 => ("BindingKernel$Memory", "named", "[Z", true)
  | 6 => ("BindingKernel$Memory", "deadlines", "[I", true)
  | 7 => ("BindingKernel$Memory", "takingsSoFar", "I", false)
  | _ => ("BindingKernel$Memory", "clock", "I", false)
def pY_1 : Nat → FieldType := fun k => match k with
  | 0 => .int
  | 1 => .array .int
  | 2 => .array .int
  | 3 => .array .int
  | 4 => .array .int
  | 5 => .array .boolean
  | 6 => .array .int
  | 7 => .int
  | _ => .int
theorem pN_1 : ∀ a, a < 9 → ∀ b, b < 9 → a ≠ b → (pT_1 a).2.1 ≠ (pT_1 b).2.1 := by decide +kernel
theorem pO_1 : ∀ k, k < 9 → parseFieldDescriptor (pT_1 k).2.2.1 = some (pY_1 k) := by decide +kernel
def pT_2 : u_T := fun k => match k with
  | 0 => ("BindingKernel$Disk", "size", "I", true)
  | 1 => ("BindingKernel$Disk", "words", "[I", true)
  | _ => ("BindingKernel$Disk", "owners", "[I", true)
def pY_2 : Nat → FieldType := fun k => match k with
  | 0 => .int
  | 1 => .array .int
  | _ => .array .int
theorem pN_2 : ∀ a, a < 3 → ∀ b, b < 3 → a ≠ b → (pT_2 a).2.1 ≠ (pT_2 b).2.1 := by decide +kernel
theorem pO_2 : ∀ k, k < 3 → parseFieldDescriptor (pT_2 k).2.2.1 = some (pY_2 k) := by decide +kernel
def pT_3 : u_T := fun k => match k with
  | 0 => ("BindingKernel$FilterOrder", "appsInOrder", "[I", true)
  | _ => ("BindingKernel$FilterOrder", "length", "I", false)
def pY_3 : Nat → FieldType := fun k => match k with
  | 0 => .array .int
  | _ => .int
theorem pN_3 : ∀ a, a < 2 → ∀ b, b < 2 → a ≠ b → (pT_3 a).2.1 ≠ (pT_3 b).2.1 := by decide +kernel
theorem pO_3 : ∀ k, k < 2 → parseFieldDescriptor (pT_3 k).2.2.1 = some (pY_3 k) := by decide +kernel
def pT_4 : u_T := fun k => match k with
  | 0 => ("BindingKernel$Frame", "bytes", "[I", true)
  | _ => ("BindingKernel$Frame", "length", "I", false)
def pY_4 : Nat → FieldType := fun k => match k with
  | 0 => .array .int
  | _ => .int
theorem pN_4 : ∀ a, a < 2 → ∀ b, b < 2 → a ≠ b → (pT_4 a).2.1 ≠ (pT_4 b).2.1 := by decide +kernel
theorem pO_4 : ∀ k, k < 2 → parseFieldDescriptor (pT_4 k).2.2.1 = some (pY_4 k) := by decide +kernel
def pT_5 : u_T := fun k => match k with
  | 0 => ("BindingKernel$Application", "pagesTakenAway", "LBindingKernel$PageList;", true)
  | 1 => ("BindingKernel$Application", "frames", "LBindingKernel$FrameQueue;", true)
  | 2 => ("BindingKernel$Application", "table", "LBindingKernel$EntryTable;", true)
  | 3 => ("BindingKernel$Application", "draft", "LBindingKernel$Program;", false)
  | 4 => ("BindingKernel$Application", "filter", "LBindingKernel$Program;", false)
  | 5 => ("BindingKernel$Application", "isOpen", "Z", false)
  | 6 => ("BindingKernel$Application", "isMap", "Z", false)
  | 7 => ("BindingKernel$Application", "firstLink", "I", false)
  | _ => ("BindingKernel$Application", "links", "I", false)
def pY_5 : Nat → FieldType := fun k => match k with
  | 0 => .object "BindingKernel$PageList"
  | 1 => .object "BindingKernel$FrameQueue"
  | 2 => .object "BindingKernel$EntryTable"
  | 3 => .object "BindingKernel$Program"
  | 4 => .object "BindingKernel$Program"
  | 5 => .boolean
  | 6 => .boolean
  | 7 => .int
  | _ => .int
theorem pN_5 : ∀ a, a < 9 → ∀ b, b < 9 → a ≠ b → (pT_5 a).2.1 ≠ (pT_5 b).2.1 := by decide +kernel
theorem pO_5 : ∀ k, k < 9 → parseFieldDescriptor (pT_5 k).2.2.1 = some (pY_5 k) := by decide +kernel
def pT_6 : u_T := fun k => match k with
  | 0 => ("BindingKernel$PageList", "pages", "[I", true)
  | 1 => ("BindingKernel$PageList", "length", "I", false)
  | _ => ("BindingKernel$PageList", "end", "I", false)
def pY_6 : Nat → FieldType := fun k => match k with
  | 0 => .array .int
  | 1 => .int
  | _ => .int
theorem pN_6 : ∀ a, a < 3 → ∀ b, b < 3 → a ≠ b → (pT_6 a).2.1 ≠ (pT_6 b).2.1 := by decide +kernel
theorem pO_6 : ∀ k, k < 3 → parseFieldDescriptor (pT_6 k).2.2.1 = some (pY_6 k) := by decide +kernel
def pT_7 : u_T := fun k => match k with
  | 0 => ("BindingKernel$FrameQueue", "frames", "[LBindingKernel$Frame;", true)
  | 1 => ("BindingKernel$FrameQueue", "first", "I", false)
  | _ => ("BindingKernel$FrameQueue", "length", "I", false)
def pY_7 : Nat → FieldType := fun k => match k with
  | 0 => .array (.object "BindingKernel$Frame")
  | 1 => .int
  | _ => .int
theorem pN_7 : ∀ a, a < 3 → ∀ b, b < 3 → a ≠ b → (pT_7 a).2.1 ≠ (pT_7 b).2.1 := by decide +kernel
theorem pO_7 : ∀ k, k < 3 → parseFieldDescriptor (pT_7 k).2.2.1 = some (pY_7 k) := by decide +kernel
def pT_8 : u_T := fun k => match k with
  | 0 => ("BindingKernel$EntryTable", "dataBlocks", "[I", true)
  | _ => ("BindingKernel$EntryTable", "length", "I", false)
def pY_8 : Nat → FieldType := fun k => match k with
  | 0 => .array .int
  | _ => .int
theorem pN_8 : ∀ a, a < 2 → ∀ b, b < 2 → a ≠ b → (pT_8 a).2.1 ≠ (pT_8 b).2.1 := by decide +kernel
theorem pO_8 : ∀ k, k < 2 → parseFieldDescriptor (pT_8 k).2.2.1 = some (pY_8 k) := by decide +kernel
def pT_9 : u_T := fun k => match k with
  | 0 => ("BindingKernel$Program", "codes", "[I", true)
  | 1 => ("BindingKernel$Program", "operands", "[I", true)
  | 2 => ("BindingKernel$Program", "yeses", "[I", true)
  | 3 => ("BindingKernel$Program", "noes", "[I", true)
  | _ => ("BindingKernel$Program", "length", "I", false)
def pY_9 : Nat → FieldType := fun k => match k with
  | 0 => .array .int
  | 1 => .array .int
  | 2 => .array .int
  | 3 => .array .int
  | _ => .int
theorem pN_9 : ∀ a, a < 5 → ∀ b, b < 5 → a ≠ b → (pT_9 a).2.1 ≠ (pT_9 b).2.1 := by decide +kernel
theorem pO_9 : ∀ k, k < 5 → parseFieldDescriptor (pT_9 k).2.2.1 = some (pY_9 k) := by decide +kernel
def pT_10 : u_T := fun k => match k with
  | 0 => ("BindingKernelModel", "pages", "I", true)
  | 1 => ("BindingKernelModel", "blocks", "I", true)
  | 2 => ("BindingKernelModel", "open", "[Z", true)
  | 3 => ("BindingKernelModel", "isMap", "[Z", true)
  | 4 => ("BindingKernelModel", "first", "[I", true)
  | 5 => ("BindingKernelModel", "links", "[I", true)
  | 6 => ("BindingKernelModel", "now", "I", false)
  | 7 => ("BindingKernelModel", "taking", "I", false)
  | 8 => ("BindingKernelModel", "lost", "I", false)
  | 9 => ("BindingKernelModel", "owner", "[I", true)
  | 10 => ("BindingKernelModel", "took", "[I", true)
  | 11 => ("BindingKernelModel", "deadline", "[I", true)
  | 12 => ("BindingKernelModel", "right", "[I", true)
  | 13 => ("BindingKernelModel", "words", "[I", true)
  | 14 => ("BindingKernelModel", "gone", "[I", true)
  | 15 => ("BindingKernelModel", "goneMany", "[I", true)
  | 16 => ("BindingKernelModel", "length", "[I", true)
  | 17 => ("BindingKernelModel", "code", "[I", true)
  | 18 => ("BindingKernelModel", "standing", "[I", true)
  | 19 => ("BindingKernelModel", "filters", "I", false)
  | 20 => ("BindingKernelModel", "bytes", "I", false)
  | 21 => ("BindingKernelModel", "frame", "[I", true)
  | 22 => ("BindingKernelModel", "frames", "[I", true)
  | 23 => ("BindingKernelModel", "frameLength", "[I", true)
  | 24 => ("BindingKernelModel", "frameByte", "[I", true)
  | 25 => ("BindingKernelModel", "a", "I", false)
  | 26 => ("BindingKernelModel", "x", "I", false)
  | 27 => ("BindingKernelModel", "holds", "[I", true)
  | 28 => ("BindingKernelModel", "word", "[I", true)
  | 29 => ("BindingKernelModel", "data", "[I", true)
  | 30 => ("BindingKernelModel", "entries", "[I", true)
  | 31 => ("BindingKernelModel", "keys", "[I", true)
  | _ => ("BindingKernelModel", "values", "[I", true)
def pY_10 : Nat → FieldType := fun k => match k with
  | 0 => .int
  | 1 => .int
  | 2 => .array .boolean
  | 3 => .array .boolean
  | 4 => .array .int
  | 5 => .array .int
  | 6 => .int
  | 7 => .int
  | 8 => .int
  | 9 => .array .int
  | 10 => .array .int
  | 11 => .array .int
  | 12 => .array .int
  | 13 => .array .int
  | 14 => .array .int
  | 15 => .array .int
  | 16 => .array .int
  | 17 => .array .int
  | 18 => .array .int
  | 19 => .int
  | 20 => .int
  | 21 => .array .int
  | 22 => .array .int
  | 23 => .array .int
  | 24 => .array .int
  | 25 => .int
  | 26 => .int
  | 27 => .array .int
  | 28 => .array .int
  | 29 => .array .int
  | 30 => .array .int
  | 31 => .array .int
  | _ => .array .int
theorem pN_10 : ∀ a, a < 33 → ∀ b, b < 33 → a ≠ b → (pT_10 a).2.1 ≠ (pT_10 b).2.1 := by decide +kernel
theorem pO_10 : ∀ k, k < 33 → parseFieldDescriptor (pT_10 k).2.2.1 = some (pY_10 k) := by decide +kernel
def px_cl : List vw_C := [("BindingKernel", pT_0, 6), ("BindingKernel$Memory", pT_1, 9), ("BindingKernel$Disk", pT_2, 3), ("BindingKernel$FilterOrder", pT_3, 2), ("BindingKernel$Frame", pT_4, 2), ("BindingKernel$Application", pT_5, 9), ("BindingKernel$PageList", pT_6, 3), ("BindingKernel$FrameQueue", pT_7, 3), ("BindingKernel$EntryTable", pT_8, 2), ("BindingKernel$Program", pT_9, 5), ("BindingKernelModel", pT_10, 33)]
def px_ts : List FieldType := [.int, .boolean, .object "BindingKernel$Application", .object "BindingKernel$Frame"]
def px_ao : List String := ["BindingKernel$Application", "BindingKernel$Frame"]
def px_nw : List Cond := [.fieldLinkNest "BindingKernel" 138 "BindingKernel$Memory" "size" "I" "BindingKernel", .fieldLinkNest "BindingKernel" 296 "BindingKernel$FilterOrder" "length" "I" "BindingKernel", .fieldLinkNest "BindingKernel$Program" 52 "BindingKernel$Frame" "length" "I" "BindingKernel", .fieldLinkNest "BindingKernel" 186 "BindingKernel$Frame" "length" "I" "BindingKernel", .fieldLinkNest "BindingKernel" 198 "BindingKernel$FrameQueue" "length" "I" "BindingKernel", .fieldLinkNest "BindingKernel" 286 "BindingKernel$EntryTable" "length" "I" "BindingKernel", .fieldLinkNest "BindingKernel" 171 "BindingKernel$Program" "length" "I" "BindingKernel", .fieldLinkNest "BindingKernel" 147 "BindingKernel$Application" "pagesTakenAway" "LBindingKernel$PageList;" "BindingKernel", .fieldLinkNest "BindingKernel" 194 "BindingKernel$Application" "frames" "LBindingKernel$FrameQueue;" "BindingKernel", .fieldLinkNest "BindingKernel" 230 "BindingKernel$Application" "table" "LBindingKernel$EntryTable;" "BindingKernel", .fieldLinkNest "BindingKernel" 161 "BindingKernel$Application" "draft" "LBindingKernel$Program;" "BindingKernel", .fieldLinkNest "BindingKernel" 300 "BindingKernel$Application" "filter" "LBindingKernel$Program;" "BindingKernel", .fieldLinkNest "BindingKernel" 62 "BindingKernel$Application" "isOpen" "Z" "BindingKernel", .fieldLinkNest "BindingKernel" 218 "BindingKernel$Application" "isMap" "Z" "BindingKernel", .fieldLinkNest "BindingKernel" 74 "BindingKernel$Application" "firstLink" "I" "BindingKernel", .fieldLinkNest "BindingKernel" 77 "BindingKernel$Application" "links" "I" "BindingKernel", .methodLinkNest "BindingKernel$Program" 26 ⟨"BindingKernel", "isIn", "(III)Z"⟩ "BindingKernel"]
theorem pI_0 : ∀ w ∈ u_ws "BindingKernel" pT_0 6, w ∈ px_tbl := fun w h => by
  have h1 : u_ws "BindingKernel" pT_0 6 = [236, 238, 240, 242, 244, 246].filterMap (fun i => tables_1[i]?) := by decide +kernel
  have h2 : (u_ws "BindingKernel" pT_0 6).all goodWord = true := by decide +kernel
  have h3 := List.all_eq_true.mp h2 w h
  rw [h1] at h
  obtain ⟨i, -, hi⟩ := List.mem_filterMap.mp h
  exact px_in i hi h3
theorem pI_1 : ∀ w ∈ u_ws "BindingKernel$Memory" pT_1 9, w ∈ px_tbl := fun w h => by
  have h1 : u_ws "BindingKernel$Memory" pT_1 9 = [47, 49, 51, 53, 55, 57, 59, 61, 63].filterMap (fun i => tables_1[i]?) := by decide +kernel
  have h2 : (u_ws "BindingKernel$Memory" pT_1 9).all goodWord = true := by decide +kernel
  have h3 := List.all_eq_true.mp h2 w h
  rw [h1] at h
  obtain ⟨i, -, hi⟩ := List.mem_filterMap.mp h
  exact px_in i hi h3
theorem pI_2 : ∀ w ∈ u_ws "BindingKernel$Disk" pT_2 3, w ∈ px_tbl := fun w h => by
  have h1 : u_ws "BindingKernel$Disk" pT_2 3 = [77, 79, 81].filterMap (fun i => tables_1[i]?) := by decide +kernel
  have h2 : (u_ws "BindingKernel$Disk" pT_2 3).all goodWord = true := by decide +kernel
  have h3 := List.all_eq_true.mp h2 w h
  rw [h1] at h
  obtain ⟨i, -, hi⟩ := List.mem_filterMap.mp h
  exact px_in i hi h3
theorem pI_3 : ∀ w ∈ u_ws "BindingKernel$FilterOrder" pT_3 2, w ∈ px_tbl := fun w h => by
  have h1 : u_ws "BindingKernel$FilterOrder" pT_3 2 = [93, 95].filterMap (fun i => tables_1[i]?) := by decide +kernel
  have h2 : (u_ws "BindingKernel$FilterOrder" pT_3 2).all goodWord = true := by decide +kernel
  have h3 := List.all_eq_true.mp h2 w h
  rw [h1] at h
  obtain ⟨i, -, hi⟩ := List.mem_filterMap.mp h
  exact px_in i hi h3
theorem pI_4 : ∀ w ∈ u_ws "BindingKernel$Frame" pT_4 2, w ∈ px_tbl := fun w h => by
  have h1 : u_ws "BindingKernel$Frame" pT_4 2 = [108, 110].filterMap (fun i => tables_1[i]?) := by decide +kernel
  have h2 : (u_ws "BindingKernel$Frame" pT_4 2).all goodWord = true := by decide +kernel
  have h3 := List.all_eq_true.mp h2 w h
  rw [h1] at h
  obtain ⟨i, -, hi⟩ := List.mem_filterMap.mp h
  exact px_in i hi h3
theorem pI_5 : ∀ w ∈ u_ws "BindingKernel$Application" pT_5 9, w ∈ px_tbl := fun w h => by
  have h1 : u_ws "BindingKernel$Application" pT_5 9 = [211, 213, 215, 217, 219, 221, 223, 225, 227].filterMap (fun i => tables_1[i]?) := by decide +kernel
  have h2 : (u_ws "BindingKernel$Application" pT_5 9).all goodWord = true := by decide +kernel
  have h3 := List.all_eq_true.mp h2 w h
  rw [h1] at h
  obtain ⟨i, -, hi⟩ := List.mem_filterMap.mp h
  exact px_in i hi h3
theorem pI_6 : ∀ w ∈ u_ws "BindingKernel$PageList" pT_6 3, w ∈ px_tbl := fun w h => by
  have h1 : u_ws "BindingKernel$PageList" pT_6 3 = [129, 131, 133].filterMap (fun i => tables_1[i]?) := by decide +kernel
  have h2 : (u_ws "BindingKernel$PageList" pT_6 3).all goodWord = true := by decide +kernel
  have h3 := List.all_eq_true.mp h2 w h
  rw [h1] at h
  obtain ⟨i, -, hi⟩ := List.mem_filterMap.mp h
  exact px_in i hi h3
theorem pI_7 : ∀ w ∈ u_ws "BindingKernel$FrameQueue" pT_7 3, w ∈ px_tbl := fun w h => by
  have h1 : u_ws "BindingKernel$FrameQueue" pT_7 3 = [149, 151, 153].filterMap (fun i => tables_1[i]?) := by decide +kernel
  have h2 : (u_ws "BindingKernel$FrameQueue" pT_7 3).all goodWord = true := by decide +kernel
  have h3 := List.all_eq_true.mp h2 w h
  rw [h1] at h
  obtain ⟨i, -, hi⟩ := List.mem_filterMap.mp h
  exact px_in i hi h3
theorem pI_8 : ∀ w ∈ u_ws "BindingKernel$EntryTable" pT_8 2, w ∈ px_tbl := fun w h => by
  have h1 : u_ws "BindingKernel$EntryTable" pT_8 2 = [165, 167].filterMap (fun i => tables_1[i]?) := by decide +kernel
  have h2 : (u_ws "BindingKernel$EntryTable" pT_8 2).all goodWord = true := by decide +kernel
  have h3 := List.all_eq_true.mp h2 w h
  rw [h1] at h
  obtain ⟨i, -, hi⟩ := List.mem_filterMap.mp h
  exact px_in i hi h3
theorem pI_9 : ∀ w ∈ u_ws "BindingKernel$Program" pT_9 5, w ∈ px_tbl := fun w h => by
  have h1 : u_ws "BindingKernel$Program" pT_9 5 = [182, 184, 186, 188, 190].filterMap (fun i => tables_1[i]?) := by decide +kernel
  have h2 : (u_ws "BindingKernel$Program" pT_9 5).all goodWord = true := by decide +kernel
  have h3 := List.all_eq_true.mp h2 w h
  rw [h1] at h
  obtain ⟨i, -, hi⟩ := List.mem_filterMap.mp h
  exact px_in i hi h3
theorem pI_10 : ∀ w ∈ u_ws "BindingKernelModel" pT_10 33, w ∈ px_tbl := fun w h => by
  have h1 : u_ws "BindingKernelModel" pT_10 33 = [706, 708, 710, 712, 714, 716, 718, 720, 722, 724, 726, 728, 730, 732, 734, 736, 738, 740, 742, 744, 746, 748, 750, 752, 754, 756, 758, 760, 762, 764, 766, 768, 770].filterMap (fun i => tables_1[i]?) := by decide +kernel
  have h2 : (u_ws "BindingKernelModel" pT_10 33).all goodWord = true := by decide +kernel
  have h3 := List.all_eq_true.mp h2 w h
  rw [h1] at h
  obtain ⟨i, -, hi⟩ := List.mem_filterMap.mp h
  exact px_in i hi h3
abbrev M_K_init : pz_M := (⟨"BindingKernel", "<init>", "(II)V"⟩, prog_1_method_1_code, 4, none)
abbrev M_K_clampSize : pz_M := (⟨"BindingKernel", "clampSize", "(I)I"⟩, prog_1_method_23_code, 1, some .int)
abbrev M_Math_min : pz_M := (⟨"java/lang/Math", "min", "(II)I"⟩, prog_13_method_69_code, 2, some .int)
abbrev M_Math_max : pz_M := (⟨"java/lang/Math", "max", "(II)I"⟩, prog_13_method_65_code, 2, some .int)
abbrev M_Memory_init : pz_M := (⟨"BindingKernel$Memory", "<init>", "(I)V"⟩, prog_8_method_1_code, 3, none)
abbrev M_Disk_init : pz_M := (⟨"BindingKernel$Disk", "<init>", "(I)V"⟩, prog_3_method_1_code, 3, none)
abbrev M_FilterOrder_init : pz_M := (⟨"BindingKernel$FilterOrder", "<init>", "()V"⟩, prog_5_method_1_code, 1, none)
abbrev M_Frame_init : pz_M := (⟨"BindingKernel$Frame", "<init>", "()V"⟩, prog_6_method_1_code, 1, none)
abbrev M_Application_init : pz_M := (⟨"BindingKernel$Application", "<init>", "()V"⟩, prog_2_method_1_code, 1, none)
abbrev M_PageList_init : pz_M := (⟨"BindingKernel$PageList", "<init>", "()V"⟩, prog_9_method_1_code, 1, none)
abbrev M_FrameQueue_init : pz_M := (⟨"BindingKernel$FrameQueue", "<init>", "()V"⟩, prog_7_method_1_code, 2, none)
abbrev M_EntryTable_init : pz_M := (⟨"BindingKernel$EntryTable", "<init>", "()V"⟩, prog_4_method_1_code, 1, none)
abbrev M_Program_init : pz_M := (⟨"BindingKernel$Program", "<init>", "()V"⟩, prog_10_method_1_code, 1, none)
abbrev M_K_open : pz_M := (⟨"BindingKernel", "open", "(IZII)I"⟩, prog_1_method_2_code, 6, some .int)
abbrev M_K_isApp : pz_M := (⟨"BindingKernel", "isApp", "(I)Z"⟩, prog_1_method_25_code, 1, some .boolean)
abbrev M_K_isIn : pz_M := (⟨"BindingKernel", "isIn", "(III)Z"⟩, prog_1_method_24_code, 3, some .boolean)
abbrev M_K_isLayout : pz_M := (⟨"BindingKernel", "isLayout", "(II)Z"⟩, prog_1_method_26_code, 2, some .boolean)
abbrev M_Disk_leastFree : pz_M := (⟨"BindingKernel$Disk", "leastFree", "()I"⟩, prog_3_method_5_code, 2, some .int)
abbrev M_Disk_isFree : pz_M := (⟨"BindingKernel$Disk", "isFree", "(I)Z"⟩, prog_3_method_4_code, 2, some .boolean)
abbrev M_Application_begin : pz_M := (⟨"BindingKernel$Application", "begin", "(ZII)V"⟩, prog_2_method_2_code, 4, none)
abbrev M_PageList_clear : pz_M := (⟨"BindingKernel$PageList", "clear", "()V"⟩, prog_9_method_2_code, 1, none)
abbrev M_Disk_bind : pz_M := (⟨"BindingKernel$Disk", "bind", "(IIII)V"⟩, prog_3_method_7_code, 7, none)
abbrev M_Disk_setWord : pz_M := (⟨"BindingKernel$Disk", "setWord", "(III)V"⟩, prog_3_method_12_code, 4, none)
abbrev M_K_close : pz_M := (⟨"BindingKernel", "close", "(I)I"⟩, prog_1_method_3_code, 2, some .int)
abbrev M_K_isOpen : pz_M := (⟨"BindingKernel", "isOpen", "(I)Z"⟩, prog_1_method_27_code, 2, some .boolean)
abbrev M_Memory_forget : pz_M := (⟨"BindingKernel$Memory", "forget", "(I)V"⟩, prog_8_method_9_code, 3, none)
abbrev M_Memory_setRight : pz_M := (⟨"BindingKernel$Memory", "setRight", "(III)V"⟩, prog_8_method_11_code, 4, none)
abbrev M_Memory_free : pz_M := (⟨"BindingKernel$Memory", "free", "(I)V"⟩, prog_8_method_8_code, 3, none)
abbrev M_Disk_freeAllOf : pz_M := (⟨"BindingKernel$Disk", "freeAllOf", "(I)V"⟩, prog_3_method_9_code, 3, none)
abbrev M_Disk_free : pz_M := (⟨"BindingKernel$Disk", "free", "(I)V"⟩, prog_3_method_8_code, 2, none)
abbrev M_FilterOrder_drop : pz_M := (⟨"BindingKernel$FilterOrder", "drop", "(I)V"⟩, prog_5_method_5_code, 4, none)
abbrev M_FilterOrder_placeOf : pz_M := (⟨"BindingKernel$FilterOrder", "placeOf", "(I)I"⟩, prog_5_method_3_code, 3, some .int)
abbrev M_Application_end : pz_M := (⟨"BindingKernel$Application", "end", "()V"⟩, prog_2_method_3_code, 1, none)
abbrev M_Program_clear : pz_M := (⟨"BindingKernel$Program", "clear", "()V"⟩, prog_10_method_5_code, 1, none)
abbrev M_FrameQueue_clear : pz_M := (⟨"BindingKernel$FrameQueue", "clear", "()V"⟩, prog_7_method_3_code, 1, none)
abbrev M_EntryTable_clear : pz_M := (⟨"BindingKernel$EntryTable", "clear", "()V"⟩, prog_4_method_2_code, 1, none)
abbrev M_K_take : pz_M := (⟨"BindingKernel", "take", "(I)I"⟩, prog_1_method_4_code, 3, some .int)
abbrev M_Memory_leastFree : pz_M := (⟨"BindingKernel$Memory", "leastFree", "()I"⟩, prog_8_method_4_code, 2, some .int)
abbrev M_Memory_bind : pz_M := (⟨"BindingKernel$Memory", "bind", "(II)V"⟩, prog_8_method_7_code, 4, none)
abbrev M_Memory_setWord : pz_M := (⟨"BindingKernel$Memory", "setWord", "(III)V"⟩, prog_8_method_13_code, 4, none)
abbrev M_K_release : pz_M := (⟨"BindingKernel", "release", "(II)I"⟩, prog_1_method_5_code, 3, some .int)
abbrev M_K_owns : pz_M := (⟨"BindingKernel", "owns", "(II)Z"⟩, prog_1_method_28_code, 3, some .boolean)
abbrev M_Memory_hasPage : pz_M := (⟨"BindingKernel$Memory", "hasPage", "(I)Z"⟩, prog_8_method_2_code, 2, some .boolean)
abbrev M_Memory_ownerOf : pz_M := (⟨"BindingKernel$Memory", "ownerOf", "(I)I"⟩, prog_8_method_3_code, 2, some .int)
abbrev M_K_share : pz_M := (⟨"BindingKernel", "share", "(IIII)I"⟩, prog_1_method_6_code, 5, some .int)
abbrev M_K_store : pz_M := (⟨"BindingKernel", "store", "(IIII)I"⟩, prog_1_method_7_code, 5, some .int)
abbrev M_K_mayUse : pz_M := (⟨"BindingKernel", "mayUse", "(IIII)Z"⟩, prog_1_method_29_code, 5, some .boolean)
abbrev M_Memory_rightOf : pz_M := (⟨"BindingKernel$Memory", "rightOf", "(II)I"⟩, prog_8_method_10_code, 3, some .int)
abbrev M_K_fetch : pz_M := (⟨"BindingKernel", "fetch", "(III)J"⟩, prog_1_method_8_code, 4, some .long)
abbrev M_Memory_wordOf : pz_M := (⟨"BindingKernel$Memory", "wordOf", "(II)I"⟩, prog_8_method_12_code, 3, some .int)
abbrev M_K_revoke : pz_M := (⟨"BindingKernel", "revoke", "(III)I"⟩, prog_1_method_9_code, 6, some .int)
abbrev M_Memory_pageToName : pz_M := (⟨"BindingKernel$Memory", "pageToName", "(I)I"⟩, prog_8_method_14_code, 5, some .int)
abbrev M_Memory_nameAfter : pz_M := (⟨"BindingKernel$Memory", "nameAfter", "(II)V"⟩, prog_8_method_15_code, 3, none)
abbrev M_K_tick : pz_M := (⟨"BindingKernel", "tick", "(I)I"⟩, prog_1_method_10_code, 4, some .int)
abbrev M_Memory_passTime : pz_M := (⟨"BindingKernel$Memory", "passTime", "(I)V"⟩, prog_8_method_16_code, 2, none)
abbrev M_Memory_firstDue : pz_M := (⟨"BindingKernel$Memory", "firstDue", "()I"⟩, prog_8_method_17_code, 3, some .int)
abbrev M_PageList_append : pz_M := (⟨"BindingKernel$PageList", "append", "(I)V"⟩, prog_9_method_3_code, 2, none)
abbrev M_K_op : pz_M := (⟨"BindingKernel", "op", "(IIIII)I"⟩, prog_1_method_11_code, 7, some .int)
abbrev M_Program_isInstruction : pz_M := (⟨"BindingKernel$Program", "isInstruction", "(IIII)Z"⟩, prog_10_method_2_code, 4, some .boolean)
abbrev M_Program_isTest : pz_M := (⟨"BindingKernel$Program", "isTest", "(I)Z"⟩, prog_10_method_3_code, 1, some .boolean)
abbrev M_Program_isFull : pz_M := (⟨"BindingKernel$Program", "isFull", "()Z"⟩, prog_10_method_4_code, 1, some .boolean)
abbrev M_Program_append : pz_M := (⟨"BindingKernel$Program", "append", "(IIII)V"⟩, prog_10_method_6_code, 5, none)
abbrev M_K_install : pz_M := (⟨"BindingKernel", "install", "(I)I"⟩, prog_1_method_12_code, 2, some .int)
abbrev M_Program_isSound : pz_M := (⟨"BindingKernel$Program", "isSound", "()Z"⟩, prog_10_method_7_code, 3, some .boolean)
abbrev M_FilterOrder_append : pz_M := (⟨"BindingKernel$FilterOrder", "append", "(I)V"⟩, prog_5_method_4_code, 2, none)
abbrev M_Application_draftBecomesFilter : pz_M := (⟨"BindingKernel$Application", "draftBecomesFilter", "()V"⟩, prog_2_method_5_code, 2, none)
abbrev M_K_push : pz_M := (⟨"BindingKernel", "push", "(I)I"⟩, prog_1_method_13_code, 2, some .int)
abbrev M_Frame_isFull : pz_M := (⟨"BindingKernel$Frame", "isFull", "()Z"⟩, prog_6_method_2_code, 1, some .boolean)
abbrev M_Frame_append : pz_M := (⟨"BindingKernel$Frame", "append", "(I)V"⟩, prog_6_method_4_code, 2, none)
abbrev M_K_arrive : pz_M := (⟨"BindingKernel", "arrive", "()I"⟩, prog_1_method_14_code, 3, some .int)
abbrev M_K_firstAccepting : pz_M := (⟨"BindingKernel", "firstAccepting", "()I"⟩, prog_1_method_30_code, 3, some .int)
abbrev M_FilterOrder_appAt : pz_M := (⟨"BindingKernel$FilterOrder", "appAt", "(I)I"⟩, prog_5_method_2_code, 2, some .int)
abbrev M_Program_accepts : pz_M := (⟨"BindingKernel$Program", "accepts", "(LBindingKernel$Frame;)Z"⟩, prog_10_method_8_code, 10, some .boolean)
abbrev M_Frame_hasByte : pz_M := (⟨"BindingKernel$Frame", "hasByte", "(J)Z"⟩, prog_6_method_5_code, 3, some .boolean)
abbrev M_Frame_byteAt : pz_M := (⟨"BindingKernel$Frame", "byteAt", "(I)I"⟩, prog_6_method_6_code, 2, some .int)
abbrev M_Program_reckon : pz_M := (⟨"BindingKernel$Program", "reckon", "(III)I"⟩, prog_10_method_9_code, 3, some .int)
abbrev M_Program_holds : pz_M := (⟨"BindingKernel$Program", "holds", "(III)Z"⟩, prog_10_method_10_code, 3, some .boolean)
abbrev M_K_deliver : pz_M := (⟨"BindingKernel", "deliver", "(I)I"⟩, prog_1_method_31_code, 2, some .int)
abbrev M_FrameQueue_isFull : pz_M := (⟨"BindingKernel$FrameQueue", "isFull", "()Z"⟩, prog_7_method_2_code, 1, some .boolean)
abbrev M_FrameQueue_append : pz_M := (⟨"BindingKernel$FrameQueue", "append", "(LBindingKernel$Frame;)V"⟩, prog_7_method_4_code, 2, none)
abbrev M_Frame_copyFrom : pz_M := (⟨"BindingKernel$Frame", "copyFrom", "(LBindingKernel$Frame;)V"⟩, prog_6_method_7_code, 2, none)
abbrev M_Frame_clear : pz_M := (⟨"BindingKernel$Frame", "clear", "()V"⟩, prog_6_method_3_code, 1, none)
abbrev M_K_got : pz_M := (⟨"BindingKernel", "got", "(II)I"⟩, prog_1_method_15_code, 4, some .int)
abbrev M_FrameQueue_oldest : pz_M := (⟨"BindingKernel$FrameQueue", "oldest", "()LBindingKernel$Frame;"⟩, prog_7_method_5_code, 1, some (.object "BindingKernel$Frame"))
abbrev M_K_next : pz_M := (⟨"BindingKernel", "next", "(I)I"⟩, prog_1_method_16_code, 2, some .int)
abbrev M_FrameQueue_dropOldest : pz_M := (⟨"BindingKernel$FrameQueue", "dropOldest", "()V"⟩, prog_7_method_6_code, 1, none)
abbrev M_K_write : pz_M := (⟨"BindingKernel", "write", "(IIII)I"⟩, prog_1_method_17_code, 5, some .int)
abbrev M_Disk_hasBlock : pz_M := (⟨"BindingKernel$Disk", "hasBlock", "(I)Z"⟩, prog_3_method_2_code, 2, some .boolean)
abbrev M_Disk_ownerOf : pz_M := (⟨"BindingKernel$Disk", "ownerOf", "(I)I"⟩, prog_3_method_3_code, 2, some .int)
abbrev M_Application_isLink : pz_M := (⟨"BindingKernel$Application", "isLink", "(I)Z"⟩, prog_2_method_4_code, 2, some .boolean)
abbrev M_K_relink : pz_M := (⟨"BindingKernel", "relink", "(IIII)I"⟩, prog_1_method_32_code, 8, some .int)
abbrev M_Disk_wordOf : pz_M := (⟨"BindingKernel$Disk", "wordOf", "(II)I"⟩, prog_3_method_11_code, 3, some .int)
abbrev M_Disk_namesBlocks : pz_M := (⟨"BindingKernel$Disk", "namesBlocks", "(III)Z"⟩, prog_3_method_10_code, 5, some .boolean)
abbrev M_K_put : pz_M := (⟨"BindingKernel", "put", "(IIIZ)I"⟩, prog_1_method_18_code, 7, some .int)
abbrev M_EntryTable_placeOf : pz_M := (⟨"BindingKernel$EntryTable", "placeOf", "(LBindingKernel$Disk;I)I"⟩, prog_4_method_3_code, 4, some .int)
abbrev M_EntryTable_keyAt : pz_M := (⟨"BindingKernel$EntryTable", "keyAt", "(LBindingKernel$Disk;I)I"⟩, prog_4_method_6_code, 3, some .int)
abbrev M_EntryTable_blockOf : pz_M := (⟨"BindingKernel$EntryTable", "blockOf", "(I)I"⟩, prog_4_method_9_code, 2, some .int)
abbrev M_EntryTable_keyWordOf : pz_M := (⟨"BindingKernel$EntryTable", "keyWordOf", "(I)I"⟩, prog_4_method_10_code, 1, some .int)
abbrev M_EntryTable_append : pz_M := (⟨"BindingKernel$EntryTable", "append", "(LBindingKernel$Disk;III)I"⟩, prog_4_method_4_code, 6, some .int)
abbrev M_EntryTable_setEntry : pz_M := (⟨"BindingKernel$EntryTable", "setEntry", "(LBindingKernel$Disk;III)V"⟩, prog_4_method_8_code, 5, none)
abbrev M_EntryTable_removeAt : pz_M := (⟨"BindingKernel$EntryTable", "removeAt", "(LBindingKernel$Disk;I)V"⟩, prog_4_method_5_code, 4, none)
abbrev M_EntryTable_valueAt : pz_M := (⟨"BindingKernel$EntryTable", "valueAt", "(LBindingKernel$Disk;I)I"⟩, prog_4_method_7_code, 3, some .int)
abbrev M_K_get : pz_M := (⟨"BindingKernel", "get", "(II)J"⟩, prog_1_method_19_code, 4, some .long)
abbrev M_Math_floorDiv : pz_M := (⟨"java/lang/Math", "floorDiv", "(II)I"⟩, prog_13_method_47_code, 3, some .int)
abbrev M_Math_floorMod : pz_M := (⟨"java/lang/Math", "floorMod", "(II)I"⟩, prog_13_method_50_code, 3, some .int)
abbrev M_K_holder : pz_M := (⟨"BindingKernel", "holder", "(II)I"⟩, prog_1_method_20_code, 4, some .int)
abbrev M_PageList_keeps : pz_M := (⟨"BindingKernel$PageList", "keeps", "(I)Z"⟩, prog_9_method_4_code, 2, some .boolean)
abbrev M_PageList_beforeLast : pz_M := (⟨"BindingKernel$PageList", "beforeLast", "(I)I"⟩, prog_9_method_5_code, 2, some .int)
abbrev M_K_count : pz_M := (⟨"BindingKernel", "count", "(II)I"⟩, prog_1_method_21_code, 3, some .int)
abbrev M_Memory_pagesOf : pz_M := (⟨"BindingKernel$Memory", "pagesOf", "(I)I"⟩, prog_8_method_5_code, 4, some .int)
abbrev M_Disk_blocksOf : pz_M := (⟨"BindingKernel$Disk", "blocksOf", "(I)I"⟩, prog_3_method_6_code, 4, some .int)
abbrev M_K_countOf : pz_M := (⟨"BindingKernel", "countOf", "(II)I"⟩, prog_1_method_22_code, 3, some .int)
abbrev M_Memory_namedPagesOf : pz_M := (⟨"BindingKernel$Memory", "namedPagesOf", "(I)I"⟩, prog_8_method_6_code, 4, some .int)
abbrev M_Law_cell : pz_M := (⟨"BindingKernelLaw", "cell", "([II)I"⟩, method_2_code, 2, some .int)
abbrev M_Mo_init : pz_M := (⟨"BindingKernelModel", "<init>", "(II)V"⟩, prog_12_method_1_code, 4, none)
abbrev M_Mo_open : pz_M := (⟨"BindingKernelModel", "open", "(IZII)I"⟩, prog_12_method_7_code, 6, some .int)
abbrev M_Mo_out : pz_M := (⟨"BindingKernelModel", "out", "(II)Z"⟩, prog_12_method_2_code, 3, some .boolean)
abbrev M_Mo_freeBlock : pz_M := (⟨"BindingKernelModel", "freeBlock", "()I"⟩, prog_12_method_4_code, 2, some .int)
abbrev M_Mo_renew : pz_M := (⟨"BindingKernelModel", "renew", "(II)V"⟩, prog_12_method_5_code, 4, none)
abbrev M_Mo_isLink : pz_M := (⟨"BindingKernelModel", "isLink", "(II)Z"⟩, prog_12_method_6_code, 3, some .boolean)
abbrev M_Mo_close : pz_M := (⟨"BindingKernelModel", "close", "(I)I"⟩, prog_12_method_8_code, 3, some .int)
abbrev M_Mo_shut : pz_M := (⟨"BindingKernelModel", "shut", "(I)Z"⟩, prog_12_method_3_code, 2, some .boolean)
abbrev M_Mo_free : pz_M := (⟨"BindingKernelModel", "free", "(I)V"⟩, prog_12_method_9_code, 3, none)
abbrev M_Mo_withdraw : pz_M := (⟨"BindingKernelModel", "withdraw", "(I)V"⟩, prog_12_method_18_code, 4, none)
abbrev M_Mo_take : pz_M := (⟨"BindingKernelModel", "take", "(I)I"⟩, prog_12_method_10_code, 4, some .int)
abbrev M_Mo_release : pz_M := (⟨"BindingKernelModel", "release", "(II)I"⟩, prog_12_method_11_code, 3, some .int)
abbrev M_Mo_share : pz_M := (⟨"BindingKernelModel", "share", "(IIII)I"⟩, prog_12_method_12_code, 5, some .int)
abbrev M_Mo_store : pz_M := (⟨"BindingKernelModel", "store", "(IIII)I"⟩, prog_12_method_13_code, 5, some .int)
abbrev M_Mo_fetch : pz_M := (⟨"BindingKernelModel", "fetch", "(III)J"⟩, prog_12_method_14_code, 4, some .long)
abbrev M_Mo_revoke : pz_M := (⟨"BindingKernelModel", "revoke", "(III)I"⟩, prog_12_method_15_code, 9, some .int)
abbrev M_Mo_tick : pz_M := (⟨"BindingKernelModel", "tick", "(I)I"⟩, prog_12_method_16_code, 7, some .int)
abbrev M_Mo_op : pz_M := (⟨"BindingKernelModel", "op", "(IIIII)I"⟩, prog_12_method_17_code, 7, some .int)
abbrev M_Mo_install : pz_M := (⟨"BindingKernelModel", "install", "(I)I"⟩, prog_12_method_20_code, 5, some .int)
abbrev M_Mo_sound : pz_M := (⟨"BindingKernelModel", "sound", "(I)Z"⟩, prog_12_method_19_code, 5, some .boolean)
abbrev M_Mo_push : pz_M := (⟨"BindingKernelModel", "push", "(I)I"⟩, prog_12_method_21_code, 2, some .int)
abbrev M_Mo_arrive : pz_M := (⟨"BindingKernelModel", "arrive", "()I"⟩, prog_12_method_24_code, 5, some .int)
abbrev M_Mo_accepts : pz_M := (⟨"BindingKernelModel", "accepts", "(I)Z"⟩, prog_12_method_23_code, 7, some .boolean)
abbrev M_Mo_plain : pz_M := (⟨"BindingKernelModel", "plain", "(II)Z"⟩, prog_12_method_22_code, 5, some .boolean)
abbrev M_Mo_got : pz_M := (⟨"BindingKernelModel", "got", "(II)I"⟩, prog_12_method_25_code, 3, some .int)
abbrev M_Mo_next : pz_M := (⟨"BindingKernelModel", "next", "(I)I"⟩, prog_12_method_26_code, 3, some .int)
abbrev M_Mo_write : pz_M := (⟨"BindingKernelModel", "write", "(IIII)I"⟩, prog_12_method_28_code, 7, some .int)
abbrev M_Mo_hasLinks : pz_M := (⟨"BindingKernelModel", "hasLinks", "(II)Z"⟩, prog_12_method_27_code, 4, some .boolean)
abbrev M_Mo_put : pz_M := (⟨"BindingKernelModel", "put", "(IIIZ)I"⟩, prog_12_method_30_code, 8, some .int)
abbrev M_Mo_entryOf : pz_M := (⟨"BindingKernelModel", "entryOf", "(II)I"⟩, prog_12_method_29_code, 4, some .int)
abbrev M_Mo_get : pz_M := (⟨"BindingKernelModel", "get", "(II)J"⟩, prog_12_method_31_code, 4, some .long)
abbrev M_Mo_holder : pz_M := (⟨"BindingKernelModel", "holder", "(II)I"⟩, prog_12_method_32_code, 3, some .int)
abbrev M_Mo_count : pz_M := (⟨"BindingKernelModel", "count", "(II)I"⟩, prog_12_method_35_code, 4, some .int)
abbrev M_Mo_pagesOf : pz_M := (⟨"BindingKernelModel", "pagesOf", "(IZ)I"⟩, prog_12_method_33_code, 5, some .int)
abbrev M_Mo_blocksOf : pz_M := (⟨"BindingKernelModel", "blocksOf", "(I)I"⟩, prog_12_method_34_code, 4, some .int)
abbrev M_Law_law : pz_M := (⟨"BindingKernelLaw", "law", "([I)Z"⟩, code, maxLocals, ret)
end
section
/-! THE PURE MACHINE: cells by small numbers, a state of a method (pz_E), a contract (pz_K), a rule an instruction (pe_) -/
abbrev pz_C : Type := (Nat × vp_A) ⊕ (Nat × List Value)
abbrev pz_H : Type := Nat → Option pz_C

abbrev pz_Q : Type := Option Value → pz_H → Nat → Prop
def pu (h : pz_H) (k : Nat) (c : pz_C) : pz_H := fun j => if j = k then some c else h j
theorem pu_eq (h : pz_H) (k : Nat) (c : pz_C) : pu h k c k = some c := by simp [pu]
theorem pu_ne {h : pz_H} {k j : Nat} {c : pz_C} (hj : j ≠ k) : pu h k c j = h j := by simp [pu, hj]
/-- a value of the pure machine, as the machine has it: g the first new cell, b the script's -/
def pz_v (g b : Nat) (v : Value) : Value := match v with
  | .ref k => .ref (g + k)
  | .retAddr _ => .ref b
  | w => w
theorem pz_cat (g b : Nat) (v : Value) : (pz_v g b v).category = v.category := by cases v <;> rfl
def pz_q (g : Nat) (a : vp_A) : vp_A := (a.1, match a.2 with
  | .inr (.inr (.inr (.inr f))) => .inr (.inr (.inr (.inr (fun j => (f j).map (fun k => g + k)))))
  | .inl f => .inl f
  | .inr (.inl f) => .inr (.inl f)
  | .inr (.inr (.inl f)) => .inr (.inr (.inl f))
  | .inr (.inr (.inr (.inl f))) => .inr (.inr (.inr (.inl f))))
def pz_e (g b : Nat) (cA : Nat → ClassId) (x : Option pz_C) : va_E := match x with
  | some (.inl (t, a)) => .inl (cA t, pz_q g a)
  | some (.inr (ci, fs)) => .inr (ci, fs.map (pz_v g b))
  | none => .inr (0, [])
def pz_w (g b : Nat) (cA : Nat → ClassId) (h : pz_H) (z : Nat) : va_W := (List.range z).map fun k => (g + k, pz_e g b cA (h k))
theorem pz_w_at {g b : Nat} {cA : Nat → ClassId} {h : pz_H} {z k : Nat} (hk : k < z) : (pz_w g b cA h z)[k]? = some (g + k, pz_e g b cA (h k)) := by
  simp [pz_w, List.getElem?_range hk]
theorem pz_w_len {g b : Nat} {cA : Nat → ClassId} {h : pz_H} {z : Nat} : (pz_w g b cA h z).length = z := by simp [pz_w]
theorem pz_w_of {g b : Nat} {cA : Nat → ClassId} {h : pz_H} {z k : Nat} {q : Nat × va_E} (hq : (pz_w g b cA h z)[k]? = some q) : k < z ∧ q = (g + k, pz_e g b cA (h k)) := by
  have hk : k < z := by
    have := (List.getElem?_eq_some_iff.mp hq).1
    rwa [pz_w_len] at this
  exact ⟨hk, Option.some.inj (hq.symm.trans (pz_w_at hk))⟩
theorem pz_w_set {g b : Nat} {cA : Nat → ClassId} {h : pz_H} {z k : Nat} {c : pz_C} (hk : k < z) : (pz_w g b cA h z).set k (g + k, pz_e g b cA (some c)) = pz_w g b cA (pu h k c) z := by
  apply List.ext_getElem?
  intro i
  by_cases hi : i = k
  · subst hi
    rw [List.getElem?_set_self (by rw [pz_w_len]; exact hk), pz_w_at hk, pu_eq]
  · rw [List.getElem?_set_ne (Ne.symm hi)]
    by_cases hz : i < z
    · rw [pz_w_at hz, pz_w_at hz, pu_ne hi]
    · rw [List.getElem?_eq_none (by rw [pz_w_len]; omega), List.getElem?_eq_none (by rw [pz_w_len]; omega)]
theorem pz_w_push {g b : Nat} {cA : Nat → ClassId} {h : pz_H} {z : Nat} {c : pz_C} : pz_w g b cA h z ++ [(g + z, pz_e g b cA (some c))] = pz_w g b cA (pu h z c) (z + 1) := by
  apply List.ext_getElem?
  intro i
  by_cases hi : i < z
  · rw [List.getElem?_append_left (by rw [pz_w_len]; exact hi), pz_w_at hi, pz_w_at (by omega), pu_ne (by omega)]
  · by_cases hz : i = z
    · subst hz
      rw [List.getElem?_append_right (by rw [pz_w_len]; omega), pz_w_len, Nat.sub_self, pz_w_at (by omega), pu_eq]
      rfl
    · rw [List.getElem?_eq_none (by rw [List.length_append, pz_w_len]; simp; omega), List.getElem?_eq_none (by rw [pz_w_len]; omega)]
theorem pz_w_D {g b : Nat} {cA : Nat → ClassId} {h : pz_H} {z : Nat} : va_D (fun q => g ≤ q) (pz_w g b cA h z) := by
  refine ⟨fun i j x y hi hj hxy => ?_, fun k q hk => ?_⟩
  · obtain ⟨-, rfl⟩ := pz_w_of hi
    obtain ⟨-, rfl⟩ := pz_w_of hj
    have : g + i = g + j := hxy
    omega
  · obtain ⟨-, rfl⟩ := pz_w_of hk
    exact Nat.le_add_right g k
def pz_tys (cA : Nat → ClassId) : List (ClassId × FieldType) := (List.range px_ts.length).map fun i => (cA i, px_ts.getD i .int)
theorem pz_tys_at {cA : Nat → ClassId} {t : Nat} {ty : FieldType} (h : px_ts[t]? = some ty) : (pz_tys cA)[t]? = some (cA t, ty) := by
  have ht : t < px_ts.length := (List.getElem?_eq_some_iff.mp h).1
  simp [pz_tys, List.getElem?_range ht, List.getD_eq_getElem?_getD, h]
/-- what of the tables isn't a method's word: links to hidden members of nest mates, kinds of arrays -/
def pz_nest (w : Cond) : Bool := match w with
  | .fieldLinkNest _ _ _ _ _ _ => true
  | .methodLinkNest _ _ _ _ => true
  | _ => false
def pz_N (U : State) : Prop := (∀ w ∈ px_nw, pz_nest w = true ∧ va_Nw w U) ∧ ∀ C ∈ px_ao, va_AO C U
theorem pz_N.moved {s U : State} (hW : s.WarmedH U.vm) (h : pz_N s) : pz_N U := by
  refine ⟨fun w hw => ⟨(h.1 w hw).1, ?_⟩, fun C hC => (h.2 C hC).moved hW.alike⟩
  obtain ⟨h1, h2⟩ := h.1 w hw
  cases w <;> first | exact va_Nw.warmF hW h2 | exact va_Nw.warmM hW h2 | exact absurd h1 (by simp [pz_nest])
/-- what doesn't change while a method runs -/
def pz_G (D : va_G) (g b : Nat) (cA : Nat → ClassId) (L : Nat) (xs : Nat → Int32) (U : State) : Prop := va_K D px_cl (pz_tys cA) U ∧ pz_N U ∧ b < g ∧ g ≤ U.heap.size ∧ va_X b L xs U U.heap
/-- the heap holds the pure cells -/
def pz_P (D : va_G) (g b : Nat) (cA : Nat → ClassId) (h : pz_H) (z : Nat) (H : Heap) : Prop := va_P D px_cl (pz_w g b cA h z) H ∧ H.size = g + z ∧ (∀ k c, h k = some c → k < z) ∧ ∀ k, k < z → ∃ c, h k = some c
def pz_lv (g b : Nat) (A : Array Slot) (n : Nat) (ls : List (Option Value)) : Prop := A.size = n ∧ lv_wf A ∧ ∀ (i : Nat) (v : Value), ls[i]? = some (some v) → A[i]? = some (.val (pz_v g b v))
/-- where a method leaves -/
def pz_ret (M : pz_M) (pc : Nat) (v : Option Value) : Prop := match v with
  | none => decode M.2.1 pc = .ok (.return_, 1) ∧ M.2.2.2 = none
  | some (.int x) => decode M.2.1 pc = .ok (.ireturn, 1) ∧ ∃ ty, M.2.2.2 = some ty ∧ narrow ty (.int x) = .int x
  | some (.long _) => decode M.2.1 pc = .ok (.lreturn, 1) ∧ M.2.2.2 = some .long
  | some (.ref _) => decode M.2.1 pc = .ok (.areturn, 1) ∧ ∃ C, M.2.2.2 = some (.object C)
  | _ => False
def pz_X (l : Launch) (L : Nat) (xs : Nat → Int32) (M : pz_M) (d fc fs : Nat) (ls : List (Option Value)) (h : pz_H) (z : Nat) (Q : pz_Q)
    (p : Program) (e : Env) (s : State) (m : MethodId) (args : Array Value) (below : List Frame) (meth : Method) (c : Code) (R : Room) (H : Heap) (locs : List Loc) (cells slots : Nat) (D : va_G) (g b : Nat) (cA : Nat → ClassId) (mc ms : Nat) (Qm : State → Prop) (A : Array Slot) : Prop :=
  CallFix p m c M.2.1 M.2.2.1 s args px_tbl M.1.cls ∧ meth.name = M.1.name ∧ (d ≤ R.frames ∧ px_lc * d ≤ R.locals ∧ mc ≤ R.cells ∧ ms ≤ R.slots) ∧ pz_G D g b cA L xs s ∧ pz_P D g b cA h z H ∧ va_S (fun q => g ≤ q) s.heap H locs ∧ pz_lv g b A M.2.2.1 ls ∧ (cells + fc ≤ mc ∧ slots + fs ≤ ms) ∧
  ∀ (v : Option Value) (h' : pz_H) (z' : Nat) (H' : Heap) (locs' : List Loc) (cells' slots' pc' : Nat) (A' : Array Slot), pz_ret M pc' v → Q v h' z' → pz_P D g b cA h' z' H' → va_S (fun q => g ≤ q) s.heap H' locs' → cells' ≤ mc → slots' ≤ ms →
    W p l e R s m args below meth c H' locs' cells' slots' Qm (F0 m pc' A' (v.toList.map (pz_v g b)))
/-- method M stands at pc with these locals, this stack, these cells (z of them; fc cells of fs slots may still be made): it ends with Q -/
def pz_E (l : Launch) (L : Nat) (xs : Nat → Int32) (M : pz_M) (d fc fs pc : Nat) (ls : List (Option Value)) (st : List Value) (h : pz_H) (z : Nat) (Q : pz_Q) : Prop :=
  ∀ (p : Program) (e : Env) (s : State) (m : MethodId) (args : Array Value) (below : List Frame) (meth : Method) (c : Code) (R : Room) (H : Heap) (locs : List Loc) (cells slots : Nat) (D : va_G) (g b : Nat) (cA : Nat → ClassId) (mc ms : Nat) (Qm : State → Prop) (A : Array Slot),
    pz_X l L xs M d fc fs ls h z Q p e s m args below meth c R H locs cells slots D g b cA mc ms Qm A → W p l e R s m args below meth c H locs cells slots Qm (F0 m pc A (st.map (pz_v g b)))
def pz_ws (M : pz_M) : List Cond := .code M.1 M.2.1 M.2.2.1 M.2.2.2 :: px_tbl
def pz_rm (d mc ms : Nat) : Room := { frames := d, cells := mc, slots := ms, locals := px_lc * d }
def pz_Pc (D : va_G) (g b : Nat) (cA : Nat → ClassId) (L : Nat) (xs : Nat → Int32) (as : List Value) (h : pz_H) (z : Nat) : Array Value → State → Prop := va_Pc (as.map (pz_v g b)) (fun U => pz_G D g b cA L xs U ∧ pz_P D g b cA h z U.heap)
def pz_Qc (D : va_G) (g b : Nat) (cA : Nat → ClassId) (Q : pz_Q) : Array Value → State → Outcome → State → Prop := fun _ st o t => ∃ (v : Option Value) (h' : pz_H) (z' : Nat), o = .returned (v.map (pz_v g b)) ∧ Q v h' z' ∧ pz_P D g b cA h' z' t.heap ∧ va_F (fun q => g ≤ q) st t
/-- a contract: M, called with as over the cells h, returns v over the cells h' with Q v h' z'; at most mc cells of ms slots are new -/
def pz_K (l : Launch) (L : Nat) (xs : Nat → Int32) (M : pz_M) (d mc ms : Nat) (as : List Value) (h : pz_H) (z : Nat) (Q : pz_Q) : Prop :=
  ∀ (D : va_G) (g b : Nat) (cA : Nat → ClassId), Met l M.1 (pz_ws M) (pz_rm d mc ms) (pz_Pc D g b cA L xs as h z) (pz_Qc D g b cA Q) mc ms (fun q => g ≤ q)
def pz_c1 (ls : List (Option Value)) (i : Nat) : Bool := match i with
  | 0 => true
  | j + 1 => match ls[j]? with
    | some (some (.long _)) => false
    | some (some (.double _)) => false
    | _ => true
theorem pz_store1 {g b : Nat} {A : Array Slot} {n i : Nat} {ls : List (Option Value)} {v : Value} (h : pz_lv g b A n ls) (hi : i < n) (hc : v.category = 1) (hk : pz_c1 ls i = true) : ∃ A', storeLocals A i (pz_v g b v) = some A' ∧ pz_lv g b A' n (ls.set i (some v)) := by
  have hcv : (pz_v g b v).category = 1 := by rw [pz_cat]; exact hc
  obtain ⟨A', e1, h1⟩ := lv_store1 (v := pz_v g b v) (l := []) ⟨h.1, h.2.1, fun q hq => by cases hq⟩ hi hcv
  refine ⟨A', e1, h1.1, h1.2.1, fun j w hj => ?_⟩
  by_cases hji : j = i
  · subst hji
    rw [List.getElem?_set_self'] at hj
    cases hl : ls[j]? with
    | none => rw [hl] at hj; cases hj
    | some o =>
      rw [hl] at hj
      have hw : v = w := by simpa using hj
      subst hw
      exact h1.2.2 _ List.mem_cons_self
  · rw [List.getElem?_set_ne (Ne.symm hji)] at hj
    obtain ⟨A2, e2, h2⟩ := lv_store1 (v := pz_v g b v) (l := [(j, pz_v g b w)]) ⟨h.1, h.2.1, fun q hq => by rw [List.mem_singleton.mp hq]; exact h.2.2 j w hj⟩ hi hcv
    have : A2 = A' := Option.some.inj (e2.symm.trans e1)
    subst this
    refine h2.2.2 (j, pz_v g b w) (List.mem_cons_of_mem _ (List.mem_filter.mpr ⟨List.mem_singleton.mpr rfl, ?_⟩))
    by_cases hj1 : j + 1 = i
    · subst hj1
      have hw : (pz_v g b w).category = 1 := by
        rw [pz_cat]
        cases w <;> first | rfl | (simp [pz_c1, hj] at hk)
      simp [hw]
    · simp [hji, hj1]
theorem pz_store2 {g b : Nat} {A : Array Slot} {n i : Nat} {ls : List (Option Value)} {v : Value} (h : pz_lv g b A n ls) (hi : i + 1 < n) (hc : v.category = 2) (hk : pz_c1 ls i = true) : ∃ A', storeLocals A i (pz_v g b v) = some A' ∧ pz_lv g b A' n ((ls.set i (some v)).set (i + 1) none) := by
  have hcv : (pz_v g b v).category = 2 := by rw [pz_cat]; exact hc
  obtain ⟨A', e1, h1⟩ := lv_store2 (v := pz_v g b v) (l := []) ⟨h.1, h.2.1, fun q hq => by cases hq⟩ hi hcv
  refine ⟨A', e1, h1.1, h1.2.1, fun j w hj => ?_⟩
  by_cases hj2 : j = i + 1
  · subst hj2
    rw [List.getElem?_set_self'] at hj
    cases hl : (ls.set i (some v))[i + 1]? with
    | none => rw [hl] at hj; cases hj
    | some o => rw [hl] at hj; simp at hj
  · rw [List.getElem?_set_ne (Ne.symm hj2)] at hj
    by_cases hji : j = i
    · subst hji
      rw [List.getElem?_set_self'] at hj
      cases hl : ls[j]? with
      | none => rw [hl] at hj; cases hj
      | some o =>
        rw [hl] at hj
        have hw : v = w := by simpa using hj
        subst hw
        exact h1.2.2 _ List.mem_cons_self
    · rw [List.getElem?_set_ne (Ne.symm hji)] at hj
      obtain ⟨A2, e2, h2⟩ := lv_store2 (v := pz_v g b v) (l := [(j, pz_v g b w)]) ⟨h.1, h.2.1, fun q hq => by rw [List.mem_singleton.mp hq]; exact h.2.2 j w hj⟩ hi hcv
      have : A2 = A' := Option.some.inj (e2.symm.trans e1)
      subst this
      refine h2.2.2 (j, pz_v g b w) (List.mem_cons_of_mem _ (List.mem_filter.mpr ⟨List.mem_singleton.mpr rfl, ?_⟩))
      by_cases hj1 : j + 1 = i
      · subst hj1
        have hw : (pz_v g b w).category = 1 := by
          rw [pz_cat]
          cases w <;> first | rfl | (simp [pz_c1, hj] at hk)
        simp [hw]
        omega
      · simp [hji, hj1, hj2]
/-- the locals with which a method begins -/
def pz_in (n : Nat) : List Value → List (Option Value)
  | [] => List.replicate n none
  | v :: vs => if v.category = 2 then some v :: none :: pz_in (n - 2) vs else some v :: pz_in (n - 1) vs
theorem pz_in_at : ∀ (vs : List Value) (n k : Nat) (i : Nat) (v : Value), (pz_in n vs)[i]? = some (some v) → ∃ q ∈ lv_args k vs, q = (k + i, v)
  | [], n, k, i, v, h => by
    have := List.mem_of_getElem? h
    simp [pz_in] at this
  | w :: vs, n, k, i, v, h => by
    unfold pz_in at h
    by_cases hc : w.category = 2
    · rw [if_pos hc] at h
      match i, h with
      | 0, h =>
        have : w = v := by simpa using h
        subst this
        exact ⟨(k, w), by simp [lv_args], by simp⟩
      | 1, h => simp at h
      | j + 2, h =>
        obtain ⟨q, hq, e⟩ := pz_in_at vs (n - 2) (k + 2) j v (by simpa using h)
        exact ⟨q, by simp [lv_args, hc, hq], by rw [e]; congr 1; omega⟩
    · rw [if_neg hc] at h
      match i, h with
      | 0, h =>
        have : w = v := by simpa using h
        subst this
        exact ⟨(k, w), by simp [lv_args], by simp⟩
      | j + 1, h =>
        obtain ⟨q, hq, e⟩ := pz_in_at vs (n - 1) (k + 1) j v (by simpa using h)
        exact ⟨q, by simp [lv_args, hc, hq], by rw [e]; congr 1; omega⟩
theorem pz_in_map (g b : Nat) : ∀ (vs : List Value) (n : Nat), pz_in n (vs.map (pz_v g b)) = (pz_in n vs).map (Option.map (pz_v g b))
  | [], n => by simp [pz_in]
  | w :: vs, n => by
    simp only [List.map_cons, pz_in, pz_cat]
    by_cases hc : w.category = 2
    · rw [if_pos hc, if_pos hc, pz_in_map g b vs]
      rfl
    · rw [if_neg hc, if_neg hc, pz_in_map g b vs]
      rfl
theorem pz_entry (g b : Nat) (vs : List Value) (n : Nat) (hn : (lg_sl (vs.map (pz_v g b))).length ≤ n) : pz_lv g b ((lg_sl (vs.map (pz_v g b)) ++ List.replicate (n - (lg_sl (vs.map (pz_v g b))).length) Slot.unset).toArray) n (pz_in n vs) := by
  have h := lv_entry (vs.map (pz_v g b)) hn
  refine ⟨h.1, h.2.1, fun i v hi => ?_⟩
  have h2 : (pz_in n (vs.map (pz_v g b)))[i]? = some (some (pz_v g b v)) := by
    rw [pz_in_map, List.getElem?_map, hi]
    rfl
  obtain ⟨q, hq, e⟩ := pz_in_at _ n 0 i _ h2
  rw [Nat.zero_add] at e
  have := h.2.2 q hq
  rw [e] at this
  exact this
theorem pz_sl (g b : Nat) : ∀ vs : List Value, (lg_sl (vs.map (pz_v g b))).length = (vs.map Value.category).sum
  | [] => rfl
  | v :: vs => by
    have ih := pz_sl g b vs
    simp only [lg_sl] at ih
    simp only [lg_sl, List.map_cons, List.flatMap_cons, List.length_append, ih, List.sum_cons, pz_cat]
    rcases lv_cat v with h | h <;> simp [h]

section PE
variable {l : Launch} {L : Nat} {xs : Nat → Int32} {M : pz_M} {d fc fs pc : Nat} {ls : List (Option Value)} {st : List Value} {h : pz_H} {z : Nat} {Q : pz_Q}
theorem pe_iconst {n : Int} {v : Int32} (hd : decode M.2.1 pc = .ok (.iconst n, 1)) (hv : Int32.ofInt n = v) (kk : pz_E l L xs M d fc fs (pc + 1) ls (.int v :: st) h z Q) : pz_E l L xs M d fc fs pc ls st h z Q := by
  intro p e s m args below meth c R H locs cells slots D g b cA mc ms Qm A X
  exact lv_iconst X.1.1 X.1.2.1 hd hv (kk p e s m args below meth c R H locs cells slots D g b cA mc ms Qm A X)
theorem pe_bipush {n : Int} {v : Int32} (hd : decode M.2.1 pc = .ok (.bipush n, 2)) (hv : (Int8.ofInt n).toInt32 = v) (kk : pz_E l L xs M d fc fs (pc + 2) ls (.int v :: st) h z Q) : pz_E l L xs M d fc fs pc ls st h z Q := by
  intro p e s m args below meth c R H locs cells slots D g b cA mc ms Qm A X
  exact lv_bipush X.1.1 X.1.2.1 hd hv (kk p e s m args below meth c R H locs cells slots D g b cA mc ms Qm A X)
theorem pe_sipush {n : Int} {v : Int32} (hd : decode M.2.1 pc = .ok (.sipush n, 3)) (hv : (Int16.ofInt n).toInt32 = v) (kk : pz_E l L xs M d fc fs (pc + 3) ls (.int v :: st) h z Q) : pz_E l L xs M d fc fs pc ls st h z Q := by
  intro p e s m args below meth c R H locs cells slots D g b cA mc ms Qm A X
  exact lv_sipush X.1.1 X.1.2.1 hd hv (kk p e s m args below meth c R H locs cells slots D g b cA mc ms Qm A X)
theorem pe_lconst {n : Fin 2} {v : Int64} (hd : decode M.2.1 pc = .ok (.lconst n, 1)) (hv : Int64.ofNat (n : Nat) = v) (kk : pz_E l L xs M d fc fs (pc + 1) ls (.long v :: st) h z Q) : pz_E l L xs M d fc fs pc ls st h z Q := by
  intro p e s m args below meth c R H locs cells slots D g b cA mc ms Qm A X
  exact lv_lconst X.1.1 X.1.2.1 hd hv (kk p e s m args below meth c R H locs cells slots D g b cA mc ms Qm A X)
theorem pe_null  (hd : decode M.2.1 pc = .ok (.aconst_null, 1))  (kk : pz_E l L xs M d fc fs (pc + 1) ls (.null :: st) h z Q) : pz_E l L xs M d fc fs pc ls st h z Q := by
  intro p e s m args below meth c R H locs cells slots D g b cA mc ms Qm A X
  exact lv_null X.1.1 X.1.2.1 hd  (kk p e s m args below meth c R H locs cells slots D g b cA mc ms Qm A X)
theorem pe_iadd {x y : Int32} (hd : decode M.2.1 pc = .ok (.iadd, 1))  (kk : pz_E l L xs M d fc fs (pc + 1) ls (.int (x + y) :: st) h z Q) : pz_E l L xs M d fc fs pc ls (.int y :: .int x :: st) h z Q := by
  intro p e s m args below meth c R H locs cells slots D g b cA mc ms Qm A X
  exact lv_iadd X.1.1 X.1.2.1 hd  (kk p e s m args below meth c R H locs cells slots D g b cA mc ms Qm A X)
theorem pe_isub {x y : Int32} (hd : decode M.2.1 pc = .ok (.isub, 1))  (kk : pz_E l L xs M d fc fs (pc + 1) ls (.int (x - y) :: st) h z Q) : pz_E l L xs M d fc fs pc ls (.int y :: .int x :: st) h z Q := by
  intro p e s m args below meth c R H locs cells slots D g b cA mc ms Qm A X
  exact lv_isub X.1.1 X.1.2.1 hd  (kk p e s m args below meth c R H locs cells slots D g b cA mc ms Qm A X)
theorem pe_imul {x y : Int32} (hd : decode M.2.1 pc = .ok (.imul, 1))  (kk : pz_E l L xs M d fc fs (pc + 1) ls (.int (x * y) :: st) h z Q) : pz_E l L xs M d fc fs pc ls (.int y :: .int x :: st) h z Q := by
  intro p e s m args below meth c R H locs cells slots D g b cA mc ms Qm A X
  exact lv_imul X.1.1 X.1.2.1 hd  (kk p e s m args below meth c R H locs cells slots D g b cA mc ms Qm A X)
theorem pe_iand {x y : Int32} (hd : decode M.2.1 pc = .ok (.iand, 1))  (kk : pz_E l L xs M d fc fs (pc + 1) ls (.int (x &&& y) :: st) h z Q) : pz_E l L xs M d fc fs pc ls (.int y :: .int x :: st) h z Q := by
  intro p e s m args below meth c R H locs cells slots D g b cA mc ms Qm A X
  exact lv_iand X.1.1 X.1.2.1 hd  (kk p e s m args below meth c R H locs cells slots D g b cA mc ms Qm A X)
theorem pe_ior {x y : Int32} (hd : decode M.2.1 pc = .ok (.ior, 1))  (kk : pz_E l L xs M d fc fs (pc + 1) ls (.int (x ||| y) :: st) h z Q) : pz_E l L xs M d fc fs pc ls (.int y :: .int x :: st) h z Q := by
  intro p e s m args below meth c R H locs cells slots D g b cA mc ms Qm A X
  exact lv_ior X.1.1 X.1.2.1 hd  (kk p e s m args below meth c R H locs cells slots D g b cA mc ms Qm A X)
theorem pe_ixor {x y : Int32} (hd : decode M.2.1 pc = .ok (.ixor, 1))  (kk : pz_E l L xs M d fc fs (pc + 1) ls (.int (x ^^^ y) :: st) h z Q) : pz_E l L xs M d fc fs pc ls (.int y :: .int x :: st) h z Q := by
  intro p e s m args below meth c R H locs cells slots D g b cA mc ms Qm A X
  exact lv_ixor X.1.1 X.1.2.1 hd  (kk p e s m args below meth c R H locs cells slots D g b cA mc ms Qm A X)
theorem pe_ladd {x y : Int64} (hd : decode M.2.1 pc = .ok (.ladd, 1))  (kk : pz_E l L xs M d fc fs (pc + 1) ls (.long (x + y) :: st) h z Q) : pz_E l L xs M d fc fs pc ls (.long y :: .long x :: st) h z Q := by
  intro p e s m args below meth c R H locs cells slots D g b cA mc ms Qm A X
  exact lv_ladd X.1.1 X.1.2.1 hd  (kk p e s m args below meth c R H locs cells slots D g b cA mc ms Qm A X)
theorem pe_lsub {x y : Int64} (hd : decode M.2.1 pc = .ok (.lsub, 1))  (kk : pz_E l L xs M d fc fs (pc + 1) ls (.long (x - y) :: st) h z Q) : pz_E l L xs M d fc fs pc ls (.long y :: .long x :: st) h z Q := by
  intro p e s m args below meth c R H locs cells slots D g b cA mc ms Qm A X
  exact lv_lsub X.1.1 X.1.2.1 hd  (kk p e s m args below meth c R H locs cells slots D g b cA mc ms Qm A X)
theorem pe_lmul {x y : Int64} (hd : decode M.2.1 pc = .ok (.lmul, 1))  (kk : pz_E l L xs M d fc fs (pc + 1) ls (.long (x * y) :: st) h z Q) : pz_E l L xs M d fc fs pc ls (.long y :: .long x :: st) h z Q := by
  intro p e s m args below meth c R H locs cells slots D g b cA mc ms Qm A X
  exact lv_lmul X.1.1 X.1.2.1 hd  (kk p e s m args below meth c R H locs cells slots D g b cA mc ms Qm A X)
theorem pe_land {x y : Int64} (hd : decode M.2.1 pc = .ok (.land, 1))  (kk : pz_E l L xs M d fc fs (pc + 1) ls (.long (x &&& y) :: st) h z Q) : pz_E l L xs M d fc fs pc ls (.long y :: .long x :: st) h z Q := by
  intro p e s m args below meth c R H locs cells slots D g b cA mc ms Qm A X
  exact lv_land X.1.1 X.1.2.1 hd  (kk p e s m args below meth c R H locs cells slots D g b cA mc ms Qm A X)
theorem pe_iushr {x y v : Int32} (hd : decode M.2.1 pc = .ok (.iushr, 1)) (hv : (x.toUInt32 >>> (y.toUInt32 &&& Int32.toUInt32 31)).toInt32 = v) (kk : pz_E l L xs M d fc fs (pc + 1) ls (.int v :: st) h z Q) : pz_E l L xs M d fc fs pc ls (.int y :: .int x :: st) h z Q := by
  intro p e s m args below meth c R H locs cells slots D g b cA mc ms Qm A X
  exact lv_iushr X.1.1 X.1.2.1 hd hv (kk p e s m args below meth c R H locs cells slots D g b cA mc ms Qm A X)
theorem pe_i2l {x : Int32} (hd : decode M.2.1 pc = .ok (.i2l, 1))  (kk : pz_E l L xs M d fc fs (pc + 1) ls (.long x.toInt64 :: st) h z Q) : pz_E l L xs M d fc fs pc ls (.int x :: st) h z Q := by
  intro p e s m args below meth c R H locs cells slots D g b cA mc ms Qm A X
  exact lv_i2l X.1.1 X.1.2.1 hd rfl (kk p e s m args below meth c R H locs cells slots D g b cA mc ms Qm A X)
theorem pe_l2i {x : Int64} (hd : decode M.2.1 pc = .ok (.l2i, 1))  (kk : pz_E l L xs M d fc fs (pc + 1) ls (.int x.toInt32 :: st) h z Q) : pz_E l L xs M d fc fs pc ls (.long x :: st) h z Q := by
  intro p e s m args below meth c R H locs cells slots D g b cA mc ms Qm A X
  exact lv_l2i X.1.1 X.1.2.1 hd rfl (kk p e s m args below meth c R H locs cells slots D g b cA mc ms Qm A X)
theorem pe_lcmp {x y : Int64} (hd : decode M.2.1 pc = .ok (.lcmp, 1))  (kk : pz_E l L xs M d fc fs (pc + 1) ls (.int (lg_cmp x y) :: st) h z Q) : pz_E l L xs M d fc fs pc ls (.long y :: .long x :: st) h z Q := by
  intro p e s m args below meth c R H locs cells slots D g b cA mc ms Qm A X
  exact W.lcmp X.1.1 X.1.2.1 hd  (kk p e s m args below meth c R H locs cells slots D g b cA mc ms Qm A X)
theorem pe_idiv {x y : Int32} (hd : decode M.2.1 pc = .ok (.idiv, 1)) (hy : y ≠ 0) (kk : pz_E l L xs M d fc fs (pc + 1) ls (.int (x / y) :: st) h z Q) : pz_E l L xs M d fc fs pc ls (.int y :: .int x :: st) h z Q := by
  intro p e s m args below meth c R H locs cells slots D g b cA mc ms Qm A X
  exact lv_idiv X.1.1 X.1.2.1 hd hy (kk p e s m args below meth c R H locs cells slots D g b cA mc ms Qm A X)
theorem pe_irem {x y : Int32} (hd : decode M.2.1 pc = .ok (.irem, 1)) (hy : y ≠ 0) (kk : pz_E l L xs M d fc fs (pc + 1) ls (.int (x - x / y * y) :: st) h z Q) : pz_E l L xs M d fc fs pc ls (.int y :: .int x :: st) h z Q := by
  intro p e s m args below meth c R H locs cells slots D g b cA mc ms Qm A X
  exact lv_irem X.1.1 X.1.2.1 hd hy (kk p e s m args below meth c R H locs cells slots D g b cA mc ms Qm A X)
theorem pe_dup {w : Value} (hd : decode M.2.1 pc = .ok (.dup, 1)) (hw : w.category = 1) (kk : pz_E l L xs M d fc fs (pc + 1) ls (w :: w :: st) h z Q) : pz_E l L xs M d fc fs pc ls (w :: st) h z Q := by
  intro p e s m args below meth c R H locs cells slots D g b cA mc ms Qm A X
  exact lv_dup X.1.1 X.1.2.1 hd (by rw [pz_cat]; exact hw) (kk p e s m args below meth c R H locs cells slots D g b cA mc ms Qm A X)
theorem pe_pop {w : Value} (hd : decode M.2.1 pc = .ok (.pop, 1)) (hw : w.category = 1) (kk : pz_E l L xs M d fc fs (pc + 1) ls st h z Q) : pz_E l L xs M d fc fs pc ls (w :: st) h z Q := by
  intro p e s m args below meth c R H locs cells slots D g b cA mc ms Qm A X
  exact lv_pop X.1.1 X.1.2.1 hd (by rw [pz_cat]; exact hw) (kk p e s m args below meth c R H locs cells slots D g b cA mc ms Qm A X)
theorem pe_dup_x1 {w u : Value} (hd : decode M.2.1 pc = .ok (.dup_x1, 1)) (hw : w.category = 1) (hu : u.category = 1) (kk : pz_E l L xs M d fc fs (pc + 1) ls (w :: u :: w :: st) h z Q) : pz_E l L xs M d fc fs pc ls (w :: u :: st) h z Q := by
  intro p e s m args below meth c R H locs cells slots D g b cA mc ms Qm A X
  exact lv_dup_x1 X.1.1 X.1.2.1 hd (by rw [pz_cat]; exact hw) (by rw [pz_cat]; exact hu) (kk p e s m args below meth c R H locs cells slots D g b cA mc ms Qm A X)
theorem pe_dup_x2 {w u t : Value} (hd : decode M.2.1 pc = .ok (.dup_x2, 1)) (hw : w.category = 1) (hu : u.category = 1) (ht : t.category = 1) (kk : pz_E l L xs M d fc fs (pc + 1) ls (w :: u :: t :: w :: st) h z Q) : pz_E l L xs M d fc fs pc ls (w :: u :: t :: st) h z Q := by
  intro p e s m args below meth c R H locs cells slots D g b cA mc ms Qm A X
  exact lv_dup_x2 X.1.1 X.1.2.1 hd (by rw [pz_cat]; exact hw) (by rw [pz_cat]; exact hu) (by rw [pz_cat]; exact ht) (kk p e s m args below meth c R H locs cells slots D g b cA mc ms Qm A X)
theorem pe_dup2 {w u : Value} (hd : decode M.2.1 pc = .ok (.dup2, 1)) (hw : w.category = 1) (hu : u.category = 1) (kk : pz_E l L xs M d fc fs (pc + 1) ls (w :: u :: w :: u :: st) h z Q) : pz_E l L xs M d fc fs pc ls (w :: u :: st) h z Q := by
  intro p e s m args below meth c R H locs cells slots D g b cA mc ms Qm A X
  exact lv_dup2_11 X.1.1 X.1.2.1 hd (by rw [pz_cat]; exact hw) (by rw [pz_cat]; exact hu) (kk p e s m args below meth c R H locs cells slots D g b cA mc ms Qm A X)
theorem pe_iload_n {k : Fin 4} {x : Int32} (hd : decode M.2.1 pc = .ok (.iload_n k, 1)) (hl : ls[(k : Nat)]? = some (some (.int x))) (kk : pz_E l L xs M d fc fs (pc + 1) ls (.int x :: st) h z Q) : pz_E l L xs M d fc fs pc ls st h z Q := by
  intro p e s m args below meth c R H locs cells slots D g b cA mc ms Qm A X
  exact lv_iload_n X.1.1 X.1.2.1 hd rfl (X.2.2.2.2.2.2.1.2.2 _ _ hl) (kk p e s m args below meth c R H locs cells slots D g b cA mc ms Qm A X)
theorem pe_iload {k : Nat} {x : Int32} (hd : decode M.2.1 pc = .ok (.iload k, 2)) (hl : ls[k]? = some (some (.int x))) (kk : pz_E l L xs M d fc fs (pc + 2) ls (.int x :: st) h z Q) : pz_E l L xs M d fc fs pc ls st h z Q := by
  intro p e s m args below meth c R H locs cells slots D g b cA mc ms Qm A X
  exact lv_iload X.1.1 X.1.2.1 hd (X.2.2.2.2.2.2.1.2.2 _ _ hl) (kk p e s m args below meth c R H locs cells slots D g b cA mc ms Qm A X)
theorem pe_lload_n {k : Fin 4} {x : Int64} (hd : decode M.2.1 pc = .ok (.lload_n k, 1)) (hl : ls[(k : Nat)]? = some (some (.long x))) (kk : pz_E l L xs M d fc fs (pc + 1) ls (.long x :: st) h z Q) : pz_E l L xs M d fc fs pc ls st h z Q := by
  intro p e s m args below meth c R H locs cells slots D g b cA mc ms Qm A X
  exact lv_lload_n X.1.1 X.1.2.1 hd rfl (X.2.2.2.2.2.2.1.2.2 _ _ hl) (kk p e s m args below meth c R H locs cells slots D g b cA mc ms Qm A X)
theorem pe_lload {k : Nat} {x : Int64} (hd : decode M.2.1 pc = .ok (.lload k, 2)) (hl : ls[k]? = some (some (.long x))) (kk : pz_E l L xs M d fc fs (pc + 2) ls (.long x :: st) h z Q) : pz_E l L xs M d fc fs pc ls st h z Q := by
  intro p e s m args below meth c R H locs cells slots D g b cA mc ms Qm A X
  exact lv_lload X.1.1 X.1.2.1 hd (X.2.2.2.2.2.2.1.2.2 _ _ hl) (kk p e s m args below meth c R H locs cells slots D g b cA mc ms Qm A X)
theorem pe_aload_n {k : Fin 4} {x : Nat} (hd : decode M.2.1 pc = .ok (.aload_n k, 1)) (hl : ls[(k : Nat)]? = some (some (.ref x))) (kk : pz_E l L xs M d fc fs (pc + 1) ls (.ref x :: st) h z Q) : pz_E l L xs M d fc fs pc ls st h z Q := by
  intro p e s m args below meth c R H locs cells slots D g b cA mc ms Qm A X
  exact lv_aload_n X.1.1 X.1.2.1 hd rfl (X.2.2.2.2.2.2.1.2.2 _ _ hl) (kk p e s m args below meth c R H locs cells slots D g b cA mc ms Qm A X)
theorem pe_aload {k : Nat} {x : Nat} (hd : decode M.2.1 pc = .ok (.aload k, 2)) (hl : ls[k]? = some (some (.ref x))) (kk : pz_E l L xs M d fc fs (pc + 2) ls (.ref x :: st) h z Q) : pz_E l L xs M d fc fs pc ls st h z Q := by
  intro p e s m args below meth c R H locs cells slots D g b cA mc ms Qm A X
  exact lv_aload X.1.1 X.1.2.1 hd (X.2.2.2.2.2.2.1.2.2 _ _ hl) (kk p e s m args below meth c R H locs cells slots D g b cA mc ms Qm A X)
theorem pe_sload_n {k : Fin 4} {x : Nat} (hd : decode M.2.1 pc = .ok (.aload_n k, 1)) (hl : ls[(k : Nat)]? = some (some (.retAddr x))) (kk : pz_E l L xs M d fc fs (pc + 1) ls (.retAddr x :: st) h z Q) : pz_E l L xs M d fc fs pc ls st h z Q := by
  intro p e s m args below meth c R H locs cells slots D g b cA mc ms Qm A X
  exact lv_aload_n X.1.1 X.1.2.1 hd rfl (X.2.2.2.2.2.2.1.2.2 _ _ hl) (kk p e s m args below meth c R H locs cells slots D g b cA mc ms Qm A X)
theorem pe_istore_n {k : Fin 4} {x : Int32} (hd : decode M.2.1 pc = .ok (.istore_n k, 1)) (hn : (k : Nat) < M.2.2.1) (hc : pz_c1 ls (k : Nat) = true) (kk : pz_E l L xs M d fc fs (pc + 1) (ls.set (k : Nat) (some (.int x))) st h z Q) : pz_E l L xs M d fc fs pc ls (.int x :: st) h z Q := by
  intro p e s m args below meth c R H locs cells slots D g b cA mc ms Qm A X
  obtain ⟨A', e', hA⟩ := pz_store1 (v := .int x) X.2.2.2.2.2.2.1 hn rfl hc
  intro T hT Y
  obtain ⟨t, a1, b1⟩ := kk p e s m args below meth c R H locs cells slots D g b cA mc ms Qm A' ⟨X.1, X.2.1, X.2.2.1, X.2.2.2.1, X.2.2.2.2.1, X.2.2.2.2.2.1, hA, X.2.2.2.2.2.2.2⟩ T hT Y
  refine ⟨t, ?_, b1⟩
  simp only [pz_v] at e'
  simp only [List.map_cons, pz_v]
  jvm_step Y.here [Y.here.top, ↓top_set Y.here.top, X.1.1, X.1.2.1, hd, e', Value.isRef]
  exact a1
theorem pe_istore {k : Nat} {x : Int32} (hd : decode M.2.1 pc = .ok (.istore k, 2)) (hn : k < M.2.2.1) (hc : pz_c1 ls k = true) (kk : pz_E l L xs M d fc fs (pc + 2) (ls.set k (some (.int x))) st h z Q) : pz_E l L xs M d fc fs pc ls (.int x :: st) h z Q := by
  intro p e s m args below meth c R H locs cells slots D g b cA mc ms Qm A X
  obtain ⟨A', e', hA⟩ := pz_store1 (v := .int x) X.2.2.2.2.2.2.1 hn rfl hc
  intro T hT Y
  obtain ⟨t, a1, b1⟩ := kk p e s m args below meth c R H locs cells slots D g b cA mc ms Qm A' ⟨X.1, X.2.1, X.2.2.1, X.2.2.2.1, X.2.2.2.2.1, X.2.2.2.2.2.1, hA, X.2.2.2.2.2.2.2⟩ T hT Y
  refine ⟨t, ?_, b1⟩
  simp only [pz_v] at e'
  simp only [List.map_cons, pz_v]
  jvm_step Y.here [Y.here.top, ↓top_set Y.here.top, X.1.1, X.1.2.1, hd, e', Value.isRef]
  exact a1
theorem pe_astore_n {k : Fin 4} {x : Nat} (hd : decode M.2.1 pc = .ok (.astore_n k, 1)) (hn : (k : Nat) < M.2.2.1) (hc : pz_c1 ls (k : Nat) = true) (kk : pz_E l L xs M d fc fs (pc + 1) (ls.set (k : Nat) (some (.ref x))) st h z Q) : pz_E l L xs M d fc fs pc ls (.ref x :: st) h z Q := by
  intro p e s m args below meth c R H locs cells slots D g b cA mc ms Qm A X
  obtain ⟨A', e', hA⟩ := pz_store1 (v := .ref x) X.2.2.2.2.2.2.1 hn rfl hc
  intro T hT Y
  obtain ⟨t, a1, b1⟩ := kk p e s m args below meth c R H locs cells slots D g b cA mc ms Qm A' ⟨X.1, X.2.1, X.2.2.1, X.2.2.2.1, X.2.2.2.2.1, X.2.2.2.2.2.1, hA, X.2.2.2.2.2.2.2⟩ T hT Y
  refine ⟨t, ?_, b1⟩
  simp only [pz_v] at e'
  simp only [List.map_cons, pz_v]
  jvm_step Y.here [Y.here.top, ↓top_set Y.here.top, X.1.1, X.1.2.1, hd, e', Value.isRef]
  exact a1
theorem pe_astore {k : Nat} {x : Nat} (hd : decode M.2.1 pc = .ok (.astore k, 2)) (hn : k < M.2.2.1) (hc : pz_c1 ls k = true) (kk : pz_E l L xs M d fc fs (pc + 2) (ls.set k (some (.ref x))) st h z Q) : pz_E l L xs M d fc fs pc ls (.ref x :: st) h z Q := by
  intro p e s m args below meth c R H locs cells slots D g b cA mc ms Qm A X
  obtain ⟨A', e', hA⟩ := pz_store1 (v := .ref x) X.2.2.2.2.2.2.1 hn rfl hc
  intro T hT Y
  obtain ⟨t, a1, b1⟩ := kk p e s m args below meth c R H locs cells slots D g b cA mc ms Qm A' ⟨X.1, X.2.1, X.2.2.1, X.2.2.2.1, X.2.2.2.2.1, X.2.2.2.2.2.1, hA, X.2.2.2.2.2.2.2⟩ T hT Y
  refine ⟨t, ?_, b1⟩
  simp only [pz_v] at e'
  simp only [List.map_cons, pz_v]
  jvm_step Y.here [Y.here.top, ↓top_set Y.here.top, X.1.1, X.1.2.1, hd, e', Value.isRef]
  exact a1
theorem pe_lstore_n {k : Fin 4} {x : Int64} (hd : decode M.2.1 pc = .ok (.lstore_n k, 1)) (hn : (k : Nat) + 1 < M.2.2.1) (hc : pz_c1 ls (k : Nat) = true) (kk : pz_E l L xs M d fc fs (pc + 1) ((ls.set (k : Nat) (some (.long x))).set ((k : Nat) + 1) none) st h z Q) : pz_E l L xs M d fc fs pc ls (.long x :: st) h z Q := by
  intro p e s m args below meth c R H locs cells slots D g b cA mc ms Qm A X
  obtain ⟨A', e', hA⟩ := pz_store2 (v := .long x) X.2.2.2.2.2.2.1 hn rfl hc
  intro T hT Y
  obtain ⟨t, a1, b1⟩ := kk p e s m args below meth c R H locs cells slots D g b cA mc ms Qm A' ⟨X.1, X.2.1, X.2.2.1, X.2.2.2.1, X.2.2.2.2.1, X.2.2.2.2.2.1, hA, X.2.2.2.2.2.2.2⟩ T hT Y
  refine ⟨t, ?_, b1⟩
  simp only [pz_v] at e'
  simp only [List.map_cons, pz_v]
  jvm_step Y.here [Y.here.top, ↓top_set Y.here.top, X.1.1, X.1.2.1, hd, e']
  exact a1
theorem pe_lstore {k : Nat} {x : Int64} (hd : decode M.2.1 pc = .ok (.lstore k, 2)) (hn : k + 1 < M.2.2.1) (hc : pz_c1 ls k = true) (kk : pz_E l L xs M d fc fs (pc + 2) ((ls.set k (some (.long x))).set (k + 1) none) st h z Q) : pz_E l L xs M d fc fs pc ls (.long x :: st) h z Q := by
  intro p e s m args below meth c R H locs cells slots D g b cA mc ms Qm A X
  obtain ⟨A', e', hA⟩ := pz_store2 (v := .long x) X.2.2.2.2.2.2.1 hn rfl hc
  intro T hT Y
  obtain ⟨t, a1, b1⟩ := kk p e s m args below meth c R H locs cells slots D g b cA mc ms Qm A' ⟨X.1, X.2.1, X.2.2.1, X.2.2.2.1, X.2.2.2.2.1, X.2.2.2.2.2.1, hA, X.2.2.2.2.2.2.2⟩ T hT Y
  refine ⟨t, ?_, b1⟩
  simp only [pz_v] at e'
  simp only [List.map_cons, pz_v]
  jvm_step Y.here [Y.here.top, ↓top_set Y.here.top, X.1.1, X.1.2.1, hd, e']
  exact a1
theorem pe_iinc {k : Nat} {n : Int} {x v : Int32} (hd : decode M.2.1 pc = .ok (.iinc k n, 3)) (hl : ls[k]? = some (some (.int x))) (hv : x + Int32.ofInt n = v) (hn : k < M.2.2.1) (hc : pz_c1 ls k = true) (kk : pz_E l L xs M d fc fs (pc + 3) (ls.set k (some (.int v))) st h z Q) : pz_E l L xs M d fc fs pc ls st h z Q := by
  intro p e s m args below meth c R H locs cells slots D g b cA mc ms Qm A X
  subst hv
  obtain ⟨A', e', hA⟩ := pz_store1 (v := .int (x + Int32.ofInt n)) X.2.2.2.2.2.2.1 hn rfl hc
  have hg : A[k]? = some (.val (.int x)) := X.2.2.2.2.2.2.1.2.2 _ _ hl
  intro T hT Y
  obtain ⟨t, a1, b1⟩ := kk p e s m args below meth c R H locs cells slots D g b cA mc ms Qm A' ⟨X.1, X.2.1, X.2.2.1, X.2.2.2.1, X.2.2.2.2.1, X.2.2.2.2.2.1, hA, X.2.2.2.2.2.2.2⟩ T hT Y
  refine ⟨t, ?_, b1⟩
  simp only [pz_v] at e'
  jvm_step Y.here [Y.here.top, ↓top_set Y.here.top, X.1.1, X.1.2.1, hd, hg, e']
  exact a1
theorem pe_if_eq {x : Int32} {off : Int} {tgt : Nat} (hd : decode M.2.1 pc = .ok (.ifCond .eq off, 3)) (ht : (pc : Int) + off = (tgt : Int)) (kt : x = 0 → pz_E l L xs M d fc fs tgt ls st h z Q) (kf : ¬ x = 0 → pz_E l L xs M d fc fs (pc + 3) ls st h z Q) : pz_E l L xs M d fc fs pc ls (.int x :: st) h z Q := by
  intro p e s m args below meth c R H locs cells slots D g b cA mc ms Qm A X
  exact lv_if_eq X.1.1 X.1.2.1 hd ht (fun q => kt q p e s m args below meth c R H locs cells slots D g b cA mc ms Qm A X) (fun q => kf q p e s m args below meth c R H locs cells slots D g b cA mc ms Qm A X)
theorem pe_icmp_eq {x y : Int32} {off : Int} {tgt : Nat} (hd : decode M.2.1 pc = .ok (.if_icmp .eq off, 3)) (ht : (pc : Int) + off = (tgt : Int)) (kt : x = y → pz_E l L xs M d fc fs tgt ls st h z Q) (kf : ¬ x = y → pz_E l L xs M d fc fs (pc + 3) ls st h z Q) : pz_E l L xs M d fc fs pc ls (.int y :: .int x :: st) h z Q := by
  intro p e s m args below meth c R H locs cells slots D g b cA mc ms Qm A X
  exact lv_icmp_eq X.1.1 X.1.2.1 hd ht (fun q => kt q p e s m args below meth c R H locs cells slots D g b cA mc ms Qm A X) (fun q => kf q p e s m args below meth c R H locs cells slots D g b cA mc ms Qm A X)
theorem pe_if_ne {x : Int32} {off : Int} {tgt : Nat} (hd : decode M.2.1 pc = .ok (.ifCond .ne off, 3)) (ht : (pc : Int) + off = (tgt : Int)) (kt : ¬ x = 0 → pz_E l L xs M d fc fs tgt ls st h z Q) (kf : x = 0 → pz_E l L xs M d fc fs (pc + 3) ls st h z Q) : pz_E l L xs M d fc fs pc ls (.int x :: st) h z Q := by
  intro p e s m args below meth c R H locs cells slots D g b cA mc ms Qm A X
  exact lv_if_ne X.1.1 X.1.2.1 hd ht (fun q => kt q p e s m args below meth c R H locs cells slots D g b cA mc ms Qm A X) (fun q => kf q p e s m args below meth c R H locs cells slots D g b cA mc ms Qm A X)
theorem pe_icmp_ne {x y : Int32} {off : Int} {tgt : Nat} (hd : decode M.2.1 pc = .ok (.if_icmp .ne off, 3)) (ht : (pc : Int) + off = (tgt : Int)) (kt : ¬ x = y → pz_E l L xs M d fc fs tgt ls st h z Q) (kf : x = y → pz_E l L xs M d fc fs (pc + 3) ls st h z Q) : pz_E l L xs M d fc fs pc ls (.int y :: .int x :: st) h z Q := by
  intro p e s m args below meth c R H locs cells slots D g b cA mc ms Qm A X
  exact lv_icmp_ne X.1.1 X.1.2.1 hd ht (fun q => kt q p e s m args below meth c R H locs cells slots D g b cA mc ms Qm A X) (fun q => kf q p e s m args below meth c R H locs cells slots D g b cA mc ms Qm A X)
theorem pe_if_lt {x : Int32} {off : Int} {tgt : Nat} (hd : decode M.2.1 pc = .ok (.ifCond .lt off, 3)) (ht : (pc : Int) + off = (tgt : Int)) (kt : x < 0 → pz_E l L xs M d fc fs tgt ls st h z Q) (kf : ¬ x < 0 → pz_E l L xs M d fc fs (pc + 3) ls st h z Q) : pz_E l L xs M d fc fs pc ls (.int x :: st) h z Q := by
  intro p e s m args below meth c R H locs cells slots D g b cA mc ms Qm A X
  exact lv_if_lt X.1.1 X.1.2.1 hd ht (fun q => kt q p e s m args below meth c R H locs cells slots D g b cA mc ms Qm A X) (fun q => kf q p e s m args below meth c R H locs cells slots D g b cA mc ms Qm A X)
theorem pe_icmp_lt {x y : Int32} {off : Int} {tgt : Nat} (hd : decode M.2.1 pc = .ok (.if_icmp .lt off, 3)) (ht : (pc : Int) + off = (tgt : Int)) (kt : x < y → pz_E l L xs M d fc fs tgt ls st h z Q) (kf : ¬ x < y → pz_E l L xs M d fc fs (pc + 3) ls st h z Q) : pz_E l L xs M d fc fs pc ls (.int y :: .int x :: st) h z Q := by
  intro p e s m args below meth c R H locs cells slots D g b cA mc ms Qm A X
  exact lv_icmp_lt X.1.1 X.1.2.1 hd ht (fun q => kt q p e s m args below meth c R H locs cells slots D g b cA mc ms Qm A X) (fun q => kf q p e s m args below meth c R H locs cells slots D g b cA mc ms Qm A X)
theorem pe_if_ge {x : Int32} {off : Int} {tgt : Nat} (hd : decode M.2.1 pc = .ok (.ifCond .ge off, 3)) (ht : (pc : Int) + off = (tgt : Int)) (kt : 0 ≤ x → pz_E l L xs M d fc fs tgt ls st h z Q) (kf : ¬ 0 ≤ x → pz_E l L xs M d fc fs (pc + 3) ls st h z Q) : pz_E l L xs M d fc fs pc ls (.int x :: st) h z Q := by
  intro p e s m args below meth c R H locs cells slots D g b cA mc ms Qm A X
  exact lv_if_ge X.1.1 X.1.2.1 hd ht (fun q => kt q p e s m args below meth c R H locs cells slots D g b cA mc ms Qm A X) (fun q => kf q p e s m args below meth c R H locs cells slots D g b cA mc ms Qm A X)
theorem pe_icmp_ge {x y : Int32} {off : Int} {tgt : Nat} (hd : decode M.2.1 pc = .ok (.if_icmp .ge off, 3)) (ht : (pc : Int) + off = (tgt : Int)) (kt : y ≤ x → pz_E l L xs M d fc fs tgt ls st h z Q) (kf : ¬ y ≤ x → pz_E l L xs M d fc fs (pc + 3) ls st h z Q) : pz_E l L xs M d fc fs pc ls (.int y :: .int x :: st) h z Q := by
  intro p e s m args below meth c R H locs cells slots D g b cA mc ms Qm A X
  exact lv_icmp_ge X.1.1 X.1.2.1 hd ht (fun q => kt q p e s m args below meth c R H locs cells slots D g b cA mc ms Qm A X) (fun q => kf q p e s m args below meth c R H locs cells slots D g b cA mc ms Qm A X)
theorem pe_if_gt {x : Int32} {off : Int} {tgt : Nat} (hd : decode M.2.1 pc = .ok (.ifCond .gt off, 3)) (ht : (pc : Int) + off = (tgt : Int)) (kt : 0 < x → pz_E l L xs M d fc fs tgt ls st h z Q) (kf : ¬ 0 < x → pz_E l L xs M d fc fs (pc + 3) ls st h z Q) : pz_E l L xs M d fc fs pc ls (.int x :: st) h z Q := by
  intro p e s m args below meth c R H locs cells slots D g b cA mc ms Qm A X
  exact lv_if_gt X.1.1 X.1.2.1 hd ht (fun q => kt q p e s m args below meth c R H locs cells slots D g b cA mc ms Qm A X) (fun q => kf q p e s m args below meth c R H locs cells slots D g b cA mc ms Qm A X)
theorem pe_icmp_gt {x y : Int32} {off : Int} {tgt : Nat} (hd : decode M.2.1 pc = .ok (.if_icmp .gt off, 3)) (ht : (pc : Int) + off = (tgt : Int)) (kt : y < x → pz_E l L xs M d fc fs tgt ls st h z Q) (kf : ¬ y < x → pz_E l L xs M d fc fs (pc + 3) ls st h z Q) : pz_E l L xs M d fc fs pc ls (.int y :: .int x :: st) h z Q := by
  intro p e s m args below meth c R H locs cells slots D g b cA mc ms Qm A X
  exact lv_icmp_gt X.1.1 X.1.2.1 hd ht (fun q => kt q p e s m args below meth c R H locs cells slots D g b cA mc ms Qm A X) (fun q => kf q p e s m args below meth c R H locs cells slots D g b cA mc ms Qm A X)
theorem pe_if_le {x : Int32} {off : Int} {tgt : Nat} (hd : decode M.2.1 pc = .ok (.ifCond .le off, 3)) (ht : (pc : Int) + off = (tgt : Int)) (kt : x ≤ 0 → pz_E l L xs M d fc fs tgt ls st h z Q) (kf : ¬ x ≤ 0 → pz_E l L xs M d fc fs (pc + 3) ls st h z Q) : pz_E l L xs M d fc fs pc ls (.int x :: st) h z Q := by
  intro p e s m args below meth c R H locs cells slots D g b cA mc ms Qm A X
  exact lv_if_le X.1.1 X.1.2.1 hd ht (fun q => kt q p e s m args below meth c R H locs cells slots D g b cA mc ms Qm A X) (fun q => kf q p e s m args below meth c R H locs cells slots D g b cA mc ms Qm A X)
theorem pe_icmp_le {x y : Int32} {off : Int} {tgt : Nat} (hd : decode M.2.1 pc = .ok (.if_icmp .le off, 3)) (ht : (pc : Int) + off = (tgt : Int)) (kt : x ≤ y → pz_E l L xs M d fc fs tgt ls st h z Q) (kf : ¬ x ≤ y → pz_E l L xs M d fc fs (pc + 3) ls st h z Q) : pz_E l L xs M d fc fs pc ls (.int y :: .int x :: st) h z Q := by
  intro p e s m args below meth c R H locs cells slots D g b cA mc ms Qm A X
  exact lv_icmp_le X.1.1 X.1.2.1 hd ht (fun q => kt q p e s m args below meth c R H locs cells slots D g b cA mc ms Qm A X) (fun q => kf q p e s m args below meth c R H locs cells slots D g b cA mc ms Qm A X)
theorem pe_tableOut {dflt lo hi : Int} {offs : Array Int} {len : Nat} {x : Int32} {tgt : Nat} (hd : decode M.2.1 pc = .ok (.tableswitch dflt lo hi offs, len)) (hx : x.toInt < lo ∨ hi < x.toInt) (ht : (pc : Int) + dflt = (tgt : Int)) (kk : pz_E l L xs M d fc fs tgt ls st h z Q) : pz_E l L xs M d fc fs pc ls (.int x :: st) h z Q := by
  intro p e s m args below meth c R H locs cells slots D g b cA mc ms Qm A X
  exact lv_tableOut X.1.1 X.1.2.1 hd hx ht (kk p e s m args below meth c R H locs cells slots D g b cA mc ms Qm A X)
theorem pe_tableIn {dflt lo hi off : Int} {offs : Array Int} {len : Nat} {x : Int32} {tgt : Nat} (hd : decode M.2.1 pc = .ok (.tableswitch dflt lo hi offs, len)) (h1 : ¬ x.toInt < lo) (h2 : ¬ hi < x.toInt) (ho : offs[(x.toInt - lo).toNat]? = some off) (ht : (pc : Int) + off = (tgt : Int)) (kk : pz_E l L xs M d fc fs tgt ls st h z Q) : pz_E l L xs M d fc fs pc ls (.int x :: st) h z Q := by
  intro p e s m args below meth c R H locs cells slots D g b cA mc ms Qm A X
  exact lv_tableIn X.1.1 X.1.2.1 hd h1 h2 ho ht (kk p e s m args below meth c R H locs cells slots D g b cA mc ms Qm A X)
theorem pe_goto {off : Int} {tgt : Nat} (hd : decode M.2.1 pc = .ok (.goto off, 3)) (ht : (pc : Int) + off = (tgt : Int)) (kk : pz_E l L xs M d fc fs tgt ls st h z Q) : pz_E l L xs M d fc fs pc ls st h z Q := by
  intro p e s m args below meth c R H locs cells slots D g b cA mc ms Qm A X
  exact lv_goto X.1.1 X.1.2.1 hd ht (kk p e s m args below meth c R H locs cells slots D g b cA mc ms Qm A X)
/-- the cell a has changed, nothing else -/
theorem pz_P.upd {D : va_G} {g b : Nat} {cA : Nat → ClassId} {h : pz_H} {z a : Nat} {H H1 : Heap} {c0 c : pz_C} (hP : pz_P D g b cA h z H) (hh : h a = some c0) (hat : va_at D px_cl (g + a, pz_e g b cA (some c)) H1) (hz : H1.size = H.size) (oq : ∀ q : Nat, q ≠ g + a → H1[q]? = H[q]?) : pz_P D g b cA (pu h a c) z H1 := by
  obtain ⟨hP, hsz, hd1, hd2⟩ := hP
  have ha := hd1 a _ hh
  refine ⟨?_, hz.trans hsz, fun k c' hk => ?_, fun k hk => ?_⟩
  · have h9 := hP.set (p := a) pz_w_D (pz_w_at ha) hat oq
    rwa [pz_w_set ha] at h9
  · by_cases e : k = a
    · rw [e]; exact ha
    · rw [pu_ne e] at hk; exact hd1 k c' hk
  · by_cases e : k = a
    · subst e; exact ⟨c, pu_eq _ _ _⟩
    · rw [pu_ne e]; exact hd2 k hk
theorem pz_P.push {D : va_G} {g b : Nat} {cA : Nat → ClassId} {h : pz_H} {z : Nat} {H H1 : Heap} {c : pz_C} (hP : pz_P D g b cA h z H) (hat : va_at D px_cl (g + z, pz_e g b cA (some c)) H1) (hz : H1.size = g + z + 1) (oq : ∀ q : Nat, q < g + z → H1[q]? = H[q]?) : pz_P D g b cA (pu h z c) (z + 1) H1 := by
  obtain ⟨hP, hsz, hd1, hd2⟩ := hP
  refine ⟨?_, hz, fun k c' hk => ?_, fun k hk => ?_⟩
  · rw [← pz_w_push]
    refine (hP.kept (fun k q hq => ?_)).app (fun k q hq => ?_)
    · obtain ⟨hk, rfl⟩ := pz_w_of hq
      exact oq _ (by show g + k < g + z; omega)
    · have hz0 : k < 1 := (List.getElem?_eq_some_iff.mp hq).1
      rw [show k = 0 by omega] at hq
      cases hq
      exact hat
  · by_cases e : k = z
    · omega
    · rw [pu_ne e] at hk; exact Nat.lt_succ_of_lt (hd1 k c' hk)
  · by_cases e : k = z
    · subst e; exact ⟨c, pu_eq _ _ _⟩
    · rw [pu_ne e]; exact hd2 k (by omega)
/-- field k of the cells of number ci, as the methods of 'own' name it at idx -/
def pz_fd (own : String) (idx ci k : Nat) : Prop := ∃ (C : String) (T : u_T) (N : Nat), px_cl[ci]? = some (C, T, N) ∧ k < N ∧ (∀ w ∈ u_ws C T N, w ∈ px_tbl) ∧ (Cond.fieldLink own idx (T k).1 (T k).2.1 (T k).2.2.1 ∈ px_tbl ∨ ∃ host, Cond.fieldLinkNest own idx (T k).1 (T k).2.1 (T k).2.2.1 host ∈ px_nw)
/-- the same, with what a write needs -/
def pz_fw (own : String) (idx ci k : Nat) (ty : FieldType) (fin : Bool) : Prop := ∃ (C : String) (T : u_T) (N : Nat) (ty0 : Nat → FieldType), px_cl[ci]? = some (C, T, N) ∧ k < N ∧ (∀ w ∈ u_ws C T N, w ∈ px_tbl) ∧ (Cond.fieldLink own idx (T k).1 (T k).2.1 (T k).2.2.1 ∈ px_tbl ∨ (fin = false ∧ ∃ host, Cond.fieldLinkNest own idx (T k).1 (T k).2.1 (T k).2.2.1 host ∈ px_nw)) ∧ (∀ k, k < N → parseFieldDescriptor (T k).2.2.1 = some (ty0 k)) ∧ (∀ a, a < N → ∀ b, b < N → a ≠ b → (T a).2.1 ≠ (T b).2.1) ∧ (T k).2.2.2 = fin ∧ parseFieldDescriptor (T k).2.2.1 = some ty ∧ (fin = true → (T k).1 = own)
def pz_fits (ty : FieldType) (v : Value) : Bool := match ty, v with
  | .int, .int _ => true
  | .boolean, .int x => x == 0 || x == 1
  | .long, .long _ => true
  | .object _, .ref _ => true
  | .array _, .ref _ => true
  | _, _ => false
theorem pz_fits_ok {g b : Nat} {ty : FieldType} {v : Value} (hf : pz_fits ty v = true) : narrow ty (pz_v g b v) = pz_v g b v ∧ fits ty (pz_v g b v) = true := by
  cases ty <;> cases v <;> first | exact ⟨rfl, rfl⟩ | (simp [pz_fits] at hf; done) | (simp only [pz_fits, Bool.or_eq_true, beq_iff_eq] at hf; rcases hf with rfl | rfl <;> exact ⟨rfl, rfl⟩)
theorem pe_getf {a idx ci k : Nat} {fs0 : List Value} {w : Value} (hd : decode M.2.1 pc = .ok (.getfield idx, 3)) (hf : pz_fd M.1.cls idx ci k) (hh : h a = some (.inr (ci, fs0))) (hw : fs0[k]? = some w) (kk : pz_E l L xs M d fc fs (pc + 3) ls (w :: st) h z Q) : pz_E l L xs M d fc fs pc ls (.ref a :: st) h z Q := by
  intro p e s m args below meth c R H locs cells slots D g b cA mc ms Qm A X
  obtain ⟨C, T, N, hc, hk, hin, hl⟩ := hf
  obtain ⟨⟨hx, hb, hml, hown, hts⟩, hnm, ⟨hR1, hR2, hR3, hR4⟩, ⟨hK, hN, hbg, hgs, hX⟩, ⟨hP, hsz, hd1, hd2⟩, hS, hlv, ⟨hc1, hc2⟩, hret⟩ := id X
  have hat := pz_w_at (g := g) (b := b) (cA := cA) (h := h) (hd1 a _ hh)
  rw [hh] at hat
  have hv : (fs0.map (pz_v g b))[k]? = some (pz_v g b w) := by rw [List.getElem?_map, hw]; rfl
  rcases hl with hl | ⟨host, hl⟩
  · exact va_get (D := D) (T := T) (N := N) hx hb hts hin hown hK hP a hat hc k hk (hts _ hl) (fun _ h9 => h9) hv hd (kk p e s m args below meth c R H locs cells slots D g b cA mc ms Qm A X)
  · exact va_getN (D := D) (T := T) (N := N) hx hb hts hin hown hK hP a hat hc k hk (va_Nw.use rfl (hN.1 _ hl).2) (fun _ h9 => h9) hv hd (kk p e s m args below meth c R H locs cells slots D g b cA mc ms Qm A X)
set_option maxHeartbeats 4000000 in
theorem pe_put {a idx ci k : Nat} {ty : FieldType} {fs0 : List Value} {w : Value} (hd : decode M.2.1 pc = .ok (.putfield idx, 3)) (hf : pz_fw M.1.cls idx ci k ty false) (hh : h a = some (.inr (ci, fs0))) (hkl : k < fs0.length) (hfit : pz_fits ty w = true) (kk : pz_E l L xs M d fc fs (pc + 3) ls st (pu h a (.inr (ci, fs0.set k w))) z Q) : pz_E l L xs M d fc fs pc ls (w :: .ref a :: st) h z Q := by
  intro p e s m args below meth c R H locs cells slots D g b cA mc ms Qm A X
  obtain ⟨C, T, N, ty0, hc, hk, hin, hl, hty, hnmd, hfin, hty1, hdecl⟩ := hf
  obtain ⟨⟨hx, hb, hml, hown, hts⟩, hnm, ⟨hR1, hR2, hR3, hR4⟩, ⟨hK, hN, hbg, hgs, hX⟩, ⟨hP, hsz, hd1, hd2⟩, hS, hlv, ⟨hc1, hc2⟩, hret⟩ := id X
  have hat := pz_w_at (g := g) (b := b) (cA := cA) (h := h) (hd1 a _ hh)
  rw [hh] at hat
  have hap := va_apart (own := M.1.cls) hts hin ty0 hty hnmd hK hc
  obtain ⟨r, h1, cell, q1, q2, q3, q4⟩ := hP a _ hat
  have hr : r = (C, T, N) := Option.some.inj (h1.symm.trans hc)
  subst hr
  obtain ⟨hS2, hfc, kC, hkC, hkind⟩ := hK.1 ci _ hc
  obtain ⟨cf, kf, fi, f, hi, hsl⟩ := hS2 k hk
  have hlay := hts _ (hin _ (u_in_lay hk))
  unfold u_lay at hlay
  rw [if_neg (by rw [hfin]; decide)] at hlay
  have hst := (u_facts hfc hkC (u_lays hts hin hk) hi).1
  have h6 := u_store hfc hkC hkind hlay hi hty1 (pz_fits_ok hfit).1 (pz_fits_ok (g := g) (b := b) hfit).2
  have fin9 : ∀ H1 : Heap, H1[g + a]? = some (cell.setSlot f.slot (pz_v g b w)) → H1.size = H.size → (∀ q, q ≠ g + a → H1[q]? = H[q]?) → W p l e R s m args below meth c H1 (locs ++ [⟨g + a, f.slot⟩]) cells slots Qm (F0 m (pc + 3) A (st.map (pz_v g b))) := by
    intro H1 e1 e2 e3
    rw [hsl] at e1
    refine kk p e s m args below meth c R H1 _ cells slots D g b cA mc ms Qm A ⟨X.1, X.2.1, X.2.2.1, X.2.2.2.1, (X.2.2.2.2.1.upd hh ⟨_, hc, t_OB.to (V := updV (vp_V (fs0.map (pz_v g b))) k (pz_v g b w)) ⟨_, e1, q2, q3, t_set q4 hap hk _⟩ (fun j _ => ?_)⟩ e2 e3), (hS.put e2 e3 (Nat.le_add_right g a)), X.2.2.2.2.2.2⟩
    rw [vp_updV_set (by rw [List.length_map]; exact hkl), List.map_set]
  rcases hl with hl | ⟨-, host, hl⟩
  · exact W.putK hx hb (f := f) ⟨hown, hts _ hl, ⟨_, _, _, hi⟩, hst⟩ (by rw [q2]; exact h6) q1 q3 (by rw [hsl]; exact k2_hasslot (q4 k hk)) rfl rfl hd fin9
  · exact va_WputK hx hb (f := f) hown (va_Nw.use rfl (hN.1 _ hl).2) hi hst (by rw [q2]; exact h6) q1 q3 (by rw [hsl]; exact k2_hasslot (q4 k hk)) rfl rfl hd fin9
set_option maxHeartbeats 4000000 in
theorem pe_putF {a idx ci k : Nat} {ty : FieldType} {fs0 : List Value} {w : Value} (hd : decode M.2.1 pc = .ok (.putfield idx, 3)) (hf : pz_fw M.1.cls idx ci k ty true) (hini : M.1.name = "<init>") (hh : h a = some (.inr (ci, fs0))) (hkl : k < fs0.length) (hfit : pz_fits ty w = true) (kk : pz_E l L xs M d fc fs (pc + 3) ls st (pu h a (.inr (ci, fs0.set k w))) z Q) : pz_E l L xs M d fc fs pc ls (w :: .ref a :: st) h z Q := by
  intro p e s m args below meth c R H locs cells slots D g b cA mc ms Qm A X
  obtain ⟨C, T, N, ty0, hc, hk, hin, hl, hty, hnmd, hfin, hty1, hdecl⟩ := hf
  obtain ⟨⟨hx, hb, hml, hown, hts⟩, hnm, ⟨hR1, hR2, hR3, hR4⟩, ⟨hK, hN, hbg, hgs, hX⟩, ⟨hP, hsz, hd1, hd2⟩, hS, hlv, ⟨hc1, hc2⟩, hret⟩ := id X
  have hat := pz_w_at (g := g) (b := b) (cA := cA) (h := h) (hd1 a _ hh)
  rw [hh] at hat
  have hap := va_apart (own := M.1.cls) hts hin ty0 hty hnmd hK hc
  obtain ⟨r, h1, cell, q1, q2, q3, q4⟩ := hP a _ hat
  have hr : r = (C, T, N) := Option.some.inj (h1.symm.trans hc)
  subst hr
  obtain ⟨hS2, hfc, kC, hkC, hkind⟩ := hK.1 ci _ hc
  obtain ⟨cf, kf, fi, f, hi, hsl⟩ := hS2 k hk
  have hlay := hts _ (hin _ (u_in_lay hk))
  unfold u_lay at hlay
  rw [if_pos hfin] at hlay
  have hst := (u_facts hfc hkC (u_lays hts hin hk) hi).1
  have hcf : m.cls = cf := by
    obtain ⟨_, _, c', _, _, _, -, -, hf', -, -, -, hown2, -⟩ := Cond.laysFinal_spec hlay
    have e1 : c' = cf := by have := hi.symm.trans hf'; simp at this; exact this.1.symm
    rw [hdecl rfl] at hown2
    rw [← e1]; exact Option.some.inj (hown.symm.trans hown2)
  have h6 := u_fits hfc hkC hkind (Or.inr hlay) hi hty1 (pz_fits_ok hfit).1 (pz_fits_ok (g := g) (b := b) hfit).2
  have hl : Cond.fieldLink M.1.cls idx (T k).1 (T k).2.1 (T k).2.2.1 ∈ px_tbl := by
    rcases hl with hl | ⟨hl, -⟩
    · exact hl
    · cases hl
  refine W.putFinK hx hb hown (hts _ hl) hi hst hcf (hnm.trans hini) (by rw [q2]; exact h6) q1 q3 (by rw [hsl]; exact k2_hasslot (q4 k hk)) rfl rfl hd fun H1 e1 e2 e3 => ?_
  rw [hsl] at e1
  refine kk p e s m args below meth c R H1 _ cells slots D g b cA mc ms Qm A ⟨X.1, X.2.1, X.2.2.1, X.2.2.2.1, (X.2.2.2.2.1.upd hh ⟨_, hc, t_OB.to (V := updV (vp_V (fs0.map (pz_v g b))) k (pz_v g b w)) ⟨_, e1, q2, q3, t_set q4 hap hk _⟩ (fun j _ => ?_)⟩ e2 e3), (hS.put e2 e3 (Nat.le_add_right g a)), X.2.2.2.2.2.2⟩
  rw [vp_updV_set (by rw [List.length_map]; exact hkl), List.map_set]
theorem pe_iald {a t n : Nat} {f : Nat → Int32} {i : Int32} (hd : decode M.2.1 pc = .ok (.iaload, 1)) (ht : px_ts[t]? = some .int) (hh : h a = some (.inl (t, n, .inl f))) (hi : vp_in i n) (kk : pz_E l L xs M d fc fs (pc + 1) ls (.int (f i.toNatClampNeg) :: st) h z Q) : pz_E l L xs M d fc fs pc ls (.int i :: .ref a :: st) h z Q := by
  intro p e s m args below meth c R H locs cells slots D g b cA mc ms Qm A X
  obtain ⟨⟨hx, hb, hml, hown, hts⟩, hnm, ⟨hR1, hR2, hR3, hR4⟩, ⟨hK, hN, hbg, hgs, hX⟩, ⟨hP, hsz, hd1, hd2⟩, hS, hlv, ⟨hc1, hc2⟩, hret⟩ := id X
  have hat := pz_w_at (g := g) (b := b) (cA := cA) (h := h) (hd1 a _ hh)
  rw [hh] at hat
  exact va_iald hx hb hK hP a t hat (pz_tys_at ht) hi hd (kk p e s m args below meth c R H locs cells slots D g b cA mc ms Qm A X)
theorem pe_zald {a t n : Nat} {f : Nat → Int32} {i : Int32} (hd : decode M.2.1 pc = .ok (.baload, 1)) (ht : px_ts[t]? = some .boolean) (hh : h a = some (.inl (t, n, .inl f))) (hi : vp_in i n) (kk : pz_E l L xs M d fc fs (pc + 1) ls (.int (f i.toNatClampNeg) :: st) h z Q) : pz_E l L xs M d fc fs pc ls (.int i :: .ref a :: st) h z Q := by
  intro p e s m args below meth c R H locs cells slots D g b cA mc ms Qm A X
  obtain ⟨⟨hx, hb, hml, hown, hts⟩, hnm, ⟨hR1, hR2, hR3, hR4⟩, ⟨hK, hN, hbg, hgs, hX⟩, ⟨hP, hsz, hd1, hd2⟩, hS, hlv, ⟨hc1, hc2⟩, hret⟩ := id X
  have hat := pz_w_at (g := g) (b := b) (cA := cA) (h := h) (hd1 a _ hh)
  rw [hh] at hat
  exact va_zald hx hb hK hP a t hat (pz_tys_at ht) hi hd (kk p e s m args below meth c R H locs cells slots D g b cA mc ms Qm A X)
theorem pe_lald {a t n : Nat} {f : Nat → Int64} {i : Int32} (hd : decode M.2.1 pc = .ok (.laload, 1)) (ht : px_ts[t]? = some .long) (hh : h a = some (.inl (t, n, .inr (.inl f)))) (hi : vp_in i n) (kk : pz_E l L xs M d fc fs (pc + 1) ls (.long (f i.toNatClampNeg) :: st) h z Q) : pz_E l L xs M d fc fs pc ls (.int i :: .ref a :: st) h z Q := by
  intro p e s m args below meth c R H locs cells slots D g b cA mc ms Qm A X
  obtain ⟨⟨hx, hb, hml, hown, hts⟩, hnm, ⟨hR1, hR2, hR3, hR4⟩, ⟨hK, hN, hbg, hgs, hX⟩, ⟨hP, hsz, hd1, hd2⟩, hS, hlv, ⟨hc1, hc2⟩, hret⟩ := id X
  have hat := pz_w_at (g := g) (b := b) (cA := cA) (h := h) (hd1 a _ hh)
  rw [hh] at hat
  exact va_lald hx hb hK hP a t hat (pz_tys_at ht) hi hd (kk p e s m args below meth c R H locs cells slots D g b cA mc ms Qm A X)
theorem pe_aald {a t n w : Nat} {C : String} {f : Nat → Option Nat} {i : Int32} (hd : decode M.2.1 pc = .ok (.aaload, 1)) (ht : px_ts[t]? = some (.object C)) (hh : h a = some (.inl (t, n, .inr (.inr (.inr (.inr f)))))) (hi : vp_in i n) (hw : f i.toNatClampNeg = some w) (kk : pz_E l L xs M d fc fs (pc + 1) ls (.ref w :: st) h z Q) : pz_E l L xs M d fc fs pc ls (.int i :: .ref a :: st) h z Q := by
  intro p e s m args below meth c R H locs cells slots D g b cA mc ms Qm A X
  obtain ⟨⟨hx, hb, hml, hown, hts⟩, hnm, ⟨hR1, hR2, hR3, hR4⟩, ⟨hK, hN, hbg, hgs, hX⟩, ⟨hP, hsz, hd1, hd2⟩, hS, hlv, ⟨hc1, hc2⟩, hret⟩ := id X
  have hat := pz_w_at (g := g) (b := b) (cA := cA) (h := h) (hd1 a _ hh)
  rw [hh] at hat
  refine va_aldq hx hb hK hP a t hat (pz_tys_at ht) hi hd ?_
  show W p l e R s m args below meth c H locs cells slots Qm (F0 m (pc + 1) A (va_rf ((f i.toNatClampNeg).map (fun k => g + k)) :: _))
  rw [hw]
  exact (kk p e s m args below meth c R H locs cells slots D g b cA mc ms Qm A X)
theorem pe_slen {x : Nat} (hd : decode M.2.1 pc = .ok (.arraylength, 1)) (kk : pz_E l L xs M d fc fs (pc + 1) ls (.int (Int32.ofNat L) :: st) h z Q) : pz_E l L xs M d fc fs pc ls (.retAddr x :: st) h z Q := by
  intro p e s m args below meth c R H locs cells slots D g b cA mc ms Qm A X
  obtain ⟨⟨hx, hb, hml, hown, hts⟩, hnm, ⟨hR1, hR2, hR3, hR4⟩, ⟨hK, hN, hbg, hgs, hX⟩, ⟨hP, hsz, hd1, hd2⟩, hS, hlv, ⟨hc1, hc2⟩, hret⟩ := id X
  exact va_slen hx hb hX (Nat.lt_of_lt_of_le hbg hgs) (Nat.not_le.mpr hbg) hS hd (kk p e s m args below meth c R H locs cells slots D g b cA mc ms Qm A X)
theorem pe_sld {x : Nat} {i : Int32} (hd : decode M.2.1 pc = .ok (.iaload, 1)) (hi : vp_in i L) (kk : pz_E l L xs M d fc fs (pc + 1) ls (.int (xs i.toNatClampNeg) :: st) h z Q) : pz_E l L xs M d fc fs pc ls (.int i :: .retAddr x :: st) h z Q := by
  intro p e s m args below meth c R H locs cells slots D g b cA mc ms Qm A X
  obtain ⟨⟨hx, hb, hml, hown, hts⟩, hnm, ⟨hR1, hR2, hR3, hR4⟩, ⟨hK, hN, hbg, hgs, hX⟩, ⟨hP, hsz, hd1, hd2⟩, hS, hlv, ⟨hc1, hc2⟩, hret⟩ := id X
  exact va_sld hx hb hX (Nat.lt_of_lt_of_le hbg hgs) (Nat.not_le.mpr hbg) hS hi hd (kk p e s m args below meth c R H locs cells slots D g b cA mc ms Qm A X)
theorem pe_alen {a t : Nat} {x : vp_A} {ty : FieldType} (hd : decode M.2.1 pc = .ok (.arraylength, 1)) (ht : px_ts[t]? = some ty) (hh : h a = some (.inl (t, x))) (kk : pz_E l L xs M d fc fs (pc + 1) ls (.int (Int32.ofNat x.1) :: st) h z Q) : pz_E l L xs M d fc fs pc ls (.ref a :: st) h z Q := by
  intro p e s m args below meth c R H locs cells slots D g b cA mc ms Qm A X
  obtain ⟨⟨hx, hb, hml, hown, hts⟩, hnm, ⟨hR1, hR2, hR3, hR4⟩, ⟨hK, hN, hbg, hgs, hX⟩, ⟨hP, hsz, hd1, hd2⟩, hS, hlv, ⟨hc1, hc2⟩, hret⟩ := id X
  have hat := pz_w_at (g := g) (b := b) (cA := cA) (h := h) (hd1 a _ hh)
  rw [hh] at hat
  exact va_alen hx hb hK hP a t hat (pz_tys_at ht) rfl hd (kk p e s m args below meth c R H locs cells slots D g b cA mc ms Qm A X)
theorem pe_iast {a t n : Nat} {f : Nat → Int32} {i : Int32} {x : Int32} (hd : decode M.2.1 pc = .ok (.iastore, 1)) (ht : px_ts[t]? = some .int) (hh : h a = some (.inl (t, n, .inl f))) (hi : vp_in i n) (kk : pz_E l L xs M d fc fs (pc + 1) ls st (pu h a (.inl (t, n, .inl (upd f i.toNatClampNeg x)))) z Q) : pz_E l L xs M d fc fs pc ls (.int x :: .int i :: .ref a :: st) h z Q := by
  intro p e s m args below meth c R H locs cells slots D g b cA mc ms Qm A X
  obtain ⟨⟨hx, hb, hml, hown, hts⟩, hnm, ⟨hR1, hR2, hR3, hR4⟩, ⟨hK, hN, hbg, hgs, hX⟩, ⟨hP, hsz, hd1, hd2⟩, hS, hlv, ⟨hc1, hc2⟩, hret⟩ := id X
  have hat := pz_w_at (g := g) (b := b) (cA := cA) (h := h) (hd1 a _ hh)
  rw [hh] at hat
  refine W.iast hx hb (hP a _ hat) ((hK.2 t _ (pz_tys_at ht)).1 n (fun j => .int (f j))) (fun q => by cases q) (by show ¬ (i < 0 ∨ (arrV _ _ _).slots.size ≤ _); rw [arrV_size]; exact hi) rfl rfl hd fun H1 e1 e2 e3 => ?_
  refine kk p e s m args below meth c R H1 _ cells slots D g b cA mc ms Qm A ⟨X.1, X.2.1, X.2.2.1, X.2.2.2.1, (X.2.2.2.2.1.upd hh ?_ e2 e3), (hS.put e2 e3 (Nat.le_add_right g a)), X.2.2.2.2.2.2⟩
  show H1[g + a]? = some (vp_cell _ _)
  rw [e1]
  show some ((vp_cell (cA t) (n, .inl f)).setSlot _ _) = some (vp_cell (cA t) (n, .inl (upd f i.toNatClampNeg x)))
  rw [vp_cell_i, vp_cell_i, arrV_store]
  congr 2
  funext q
  by_cases hq : q = i.toNatClampNeg
  · subst hq
    simp [updV, upd]
    try rfl
  · simp [updV, upd, hq]
theorem pe_zast {a t n : Nat} {f : Nat → Int32} {i : Int32} {x : Int32} (hd : decode M.2.1 pc = .ok (.bastore, 1)) (ht : px_ts[t]? = some .boolean) (hh : h a = some (.inl (t, n, .inl f))) (hi : vp_in i n) (kk : pz_E l L xs M d fc fs (pc + 1) ls st (pu h a (.inl (t, n, .inl (upd f i.toNatClampNeg (vp_nar .boolean x))))) z Q) : pz_E l L xs M d fc fs pc ls (.int x :: .int i :: .ref a :: st) h z Q := by
  intro p e s m args below meth c R H locs cells slots D g b cA mc ms Qm A X
  obtain ⟨⟨hx, hb, hml, hown, hts⟩, hnm, ⟨hR1, hR2, hR3, hR4⟩, ⟨hK, hN, hbg, hgs, hX⟩, ⟨hP, hsz, hd1, hd2⟩, hS, hlv, ⟨hc1, hc2⟩, hret⟩ := id X
  have hat := pz_w_at (g := g) (b := b) (cA := cA) (h := h) (hd1 a _ hh)
  rw [hh] at hat
  refine W.zast hx hb (hP a _ hat) ((hK.2 t _ (pz_tys_at ht)).1 n (fun j => .int (f j))) (fun q => by cases q) (by show ¬ (i < 0 ∨ (arrV _ _ _).slots.size ≤ _); rw [arrV_size]; exact hi) rfl rfl hd fun H1 e1 e2 e3 => ?_
  refine kk p e s m args below meth c R H1 _ cells slots D g b cA mc ms Qm A ⟨X.1, X.2.1, X.2.2.1, X.2.2.2.1, (X.2.2.2.2.1.upd hh ?_ e2 e3), (hS.put e2 e3 (Nat.le_add_right g a)), X.2.2.2.2.2.2⟩
  show H1[g + a]? = some (vp_cell _ _)
  rw [e1]
  show some ((vp_cell (cA t) (n, .inl f)).setSlot _ _) = some (vp_cell (cA t) (n, .inl (upd f i.toNatClampNeg (vp_nar .boolean x))))
  rw [vp_cell_i, vp_cell_i, arrV_store]
  congr 2
  funext q
  by_cases hq : q = i.toNatClampNeg
  · subst hq
    simp [updV, upd, vp_nar]
    try rfl
  · simp [updV, upd, vp_nar, hq]
theorem pe_last {a t n : Nat} {f : Nat → Int64} {i : Int32} {x : Int64} (hd : decode M.2.1 pc = .ok (.lastore, 1)) (ht : px_ts[t]? = some .long) (hh : h a = some (.inl (t, n, .inr (.inl f)))) (hi : vp_in i n) (kk : pz_E l L xs M d fc fs (pc + 1) ls st (pu h a (.inl (t, n, .inr (.inl (vp_updL f i.toNatClampNeg x))))) z Q) : pz_E l L xs M d fc fs pc ls (.long x :: .int i :: .ref a :: st) h z Q := by
  intro p e s m args below meth c R H locs cells slots D g b cA mc ms Qm A X
  obtain ⟨⟨hx, hb, hml, hown, hts⟩, hnm, ⟨hR1, hR2, hR3, hR4⟩, ⟨hK, hN, hbg, hgs, hX⟩, ⟨hP, hsz, hd1, hd2⟩, hS, hlv, ⟨hc1, hc2⟩, hret⟩ := id X
  have hat := pz_w_at (g := g) (b := b) (cA := cA) (h := h) (hd1 a _ hh)
  rw [hh] at hat
  refine W.last hx hb (hP a _ hat) ((hK.2 t _ (pz_tys_at ht)).1 n (fun j => .long (f j))) (fun q => by cases q) (by show ¬ (i < 0 ∨ (arrV _ _ _).slots.size ≤ _); rw [arrV_size]; exact hi) rfl rfl hd fun H1 e1 e2 e3 => ?_
  refine kk p e s m args below meth c R H1 _ cells slots D g b cA mc ms Qm A ⟨X.1, X.2.1, X.2.2.1, X.2.2.2.1, (X.2.2.2.2.1.upd hh ?_ e2 e3), (hS.put e2 e3 (Nat.le_add_right g a)), X.2.2.2.2.2.2⟩
  show H1[g + a]? = some (vp_cell _ _)
  rw [e1]
  show some ((vp_cell (cA t) (n, .inr (.inl f))).setSlot _ _) = some (vp_cell (cA t) (n, .inr (.inl (vp_updL f i.toNatClampNeg x))))
  rw [vp_cell_l, vp_cell_l, arrV_store]
  congr 2
  funext q
  by_cases hq : q = i.toNatClampNeg
  · subst hq
    simp [updV, vp_updL]
    try rfl
  · simp [updV, vp_updL, hq]
theorem pe_aast {a t n v ci : Nat} {f : Nat → Option Nat} {i : Int32} {r : vw_C} {vs : List Value} (hd : decode M.2.1 pc = .ok (.aastore, 1)) (ht : px_ts[t]? = some (.object r.1)) (hh : h a = some (.inl (t, n, .inr (.inr (.inr (.inr f)))))) (hv : h v = some (.inr (ci, vs))) (hc : px_cl[ci]? = some r) (hi : vp_in i n) (kk : pz_E l L xs M d fc fs (pc + 1) ls st (pu h a (.inl (t, n, .inr (.inr (.inr (.inr (va_up f i.toNatClampNeg (some v)))))))) z Q) : pz_E l L xs M d fc fs pc ls (.ref v :: .int i :: .ref a :: st) h z Q := by
  intro p e s m args below meth c R H locs cells slots D g b cA mc ms Qm A X
  obtain ⟨⟨hx, hb, hml, hown, hts⟩, hnm, ⟨hR1, hR2, hR3, hR4⟩, ⟨hK, hN, hbg, hgs, hX⟩, ⟨hP, hsz, hd1, hd2⟩, hS, hlv, ⟨hc1, hc2⟩, hret⟩ := id X
  have hat := pz_w_at (g := g) (b := b) (cA := cA) (h := h) (hd1 a _ hh)
  rw [hh] at hat
  have hav := pz_w_at (g := g) (b := b) (cA := cA) (h := h) (hd1 v _ hv)
  rw [hv] at hav
  have hlt : i.toNatClampNeg < n := Nat.not_le.mp fun q => hi (Or.inr q)
  have h0 : ¬ i < 0 := fun q => hi (Or.inl q)
  obtain ⟨r', hr', cellV, g1, g2, g3, -⟩ := hP v _ hav
  have hcls := (hK.1 ci r hc).2
  obtain ⟨kA, comp, k1, k2, k3, -⟩ := (hK.2 t _ (pz_tys_at ht)).2
  have hcomp : comp = D.1 ci := Option.some.inj (k3.symm.trans hcls.1)
  subst hcomp
  obtain ⟨kC, hkC, -⟩ := hcls.2
  refine W.aast hx hb (hP a _ hat) (fun q h => by cases h) (fun h => by cases h) k1 k2 rfl hkC ⟨h0, by show _ < (arrV _ _ _).slots.size; rw [arrV_size]; exact hlt⟩ g1 (fun q h => by rw [g3] at h; cases h) (by rw [g2]; exact hkC) (by rw [g2]; exact va_assign hcls) rfl rfl hd fun H1 e1 e2 e3 => ?_
  refine kk p e s m args below meth c R H1 _ cells slots D g b cA mc ms Qm A ⟨X.1, X.2.1, X.2.2.1, X.2.2.2.1, (X.2.2.2.2.1.upd hh ?_ e2 e3), (hS.put e2 e3 (Nat.le_add_right g a)), X.2.2.2.2.2.2⟩
  show H1[g + a]? = some (vp_cell _ _)
  rw [e1]
  show some ((vp_cell (cA t) (n, .inr (.inr (.inr (.inr (fun j => (f j).map (fun k => g + k))))))).setSlot _ _) = some (vp_cell (cA t) (n, .inr (.inr (.inr (.inr (fun j => (va_up f i.toNatClampNeg (some v) j).map (fun k => g + k)))))))
  rw [vp_cell_q, vp_cell_q, arrV_store]
  congr 2
  funext q
  by_cases hq : q = i.toNatClampNeg
  · subst hq
    simp [updV, va_up, va_rf]
  · simp [updV, va_up, hq]
/-- the number ci can be made: its words, its N fields' types -/
def pz_mk (own : String) (idx ci N : Nat) (fs0 : List Value) : Prop := ∃ (C : String) (T : u_T) (ty : Nat → FieldType), px_cl[ci]? = some (C, T, N) ∧ (∀ w ∈ u_ws C T N, w ∈ px_tbl) ∧ (∀ k, k < N → parseFieldDescriptor (T k).2.2.1 = some (ty k)) ∧ Cond.classLink own idx C ∈ px_tbl ∧ Cond.instantiable C N ∈ px_tbl ∧ Cond.initialized C ∈ px_tbl ∧ (∀ j, j < N → defaultValue (ty j) = vp_V fs0 j) ∧ ∀ g b, fs0.map (pz_v g b) = fs0
set_option maxHeartbeats 4000000 in
theorem pe_new {idx ci N : Nat} {fs0 : List Value} (hd : decode M.2.1 pc = .ok (.new idx, 3)) (hf : pz_mk M.1.cls idx ci N fs0) (kk : pz_E l L xs M d fc fs (pc + 3) ls (.ref z :: st) (pu h z (.inr (ci, fs0))) (z + 1) Q) : pz_E l L xs M d (fc + 1) (fs + N) pc ls st h z Q := by
  intro p e s m args below meth c R H locs cells slots D g b cA mc ms Qm A X
  obtain ⟨C, T, ty, hc, hin, hty, hl1, hl2, hl3, hfs, hmp⟩ := hf
  obtain ⟨⟨hx, hb, hml, hown, hts⟩, hnm, ⟨hR1, hR2, hR3, hR4⟩, ⟨hK, hN, hbg, hgs, hX⟩, ⟨hP, hsz, hd1, hd2⟩, hS, hlv, ⟨hc1, hc2⟩, hret⟩ := id X
  have hKn := hK.1 ci _ hc
  refine W.newcK hx hb hown (hts _ hl1) (hts _ hl2) (hts _ hl3) rfl hd (by omega) (by omega) hKn.2.1 hsz fun H1 kC hkC e1 z1 o1 => ?_
  refine kk p e s m args below meth c R H1 locs (cells + 1) (slots + N) D g b cA mc ms Qm A ⟨X.1, X.2.1, X.2.2.1, X.2.2.2.1, (X.2.2.2.2.1.push ⟨_, hc, ?_⟩ z1 o1), ⟨by have := hS.1; omega, fun q h1 h2 => (o1 q (by have := hS.1; omega)).trans (hS.2.1 q h1 h2), hS.2.2⟩, X.2.2.2.2.2.2.1, ⟨by omega, by omega⟩, X.2.2.2.2.2.2.2.2⟩
  rw [hmp]
  exact (u_born ty hts hin hKn hkC e1 hty).to hfs
set_option maxHeartbeats 4000000 in
theorem pe_newa {atype : ArrayType} {t N : Nat} {n : Int32} {a0 : vp_A} (hd : decode M.2.1 pc = .ok (.newarray atype, 2)) (ht : px_ts[t]? = some (newarray.typeOf atype)) (hw : Cond.arrayClass (newarray.typeOf atype) ∈ px_tbl) (hn : ¬ n < 0) (hNn : n.toNatClampNeg = N) (hbytes : N * componentBytes (newarray.typeOf atype) ≤ 536870912) (ha : ∀ (g : Nat) (cA : ClassId), vp_cell cA (pz_q g a0) = arrV cA N (fun _ => defaultValue (newarray.typeOf atype)))
    (kk : pz_E l L xs M d fc fs (pc + 2) ls (.ref z :: st) (pu h z (.inl (t, a0))) (z + 1) Q) : pz_E l L xs M d (fc + 1) (fs + N) pc ls (.int n :: st) h z Q := by
  intro p e s m args below meth c R H locs cells slots D g b cA mc ms Qm A X
  obtain ⟨⟨hx, hb, hml, hown, hts⟩, hnm, ⟨hR1, hR2, hR3, hR4⟩, ⟨hK, hN, hbg, hgs, hX⟩, ⟨hP, hsz, hd1, hd2⟩, hS, hlv, ⟨hc1, hc2⟩, hret⟩ := id X
  refine va_newaK hx hb (hts _ hw) rfl hd rfl hn hNn hbytes (by omega) (by omega) hsz fun H1 cA' e1 z1 o1 hAr hNm => ?_
  have hca : cA' = cA t := by
    have h9 := (hK.2 t _ (pz_tys_at ht)).2
    have h8 : s.vm.findClass ("[" ++ (newarray.typeOf atype).toString) = some (cA t) := by cases atype <;> exact h9
    exact Option.some.inj (hNm.symm.trans h8)
  subst hca
  refine kk p e s m args below meth c R H1 locs (cells + 1) (slots + N) D g b cA mc ms Qm A ⟨X.1, X.2.1, X.2.2.1, X.2.2.2.1, (X.2.2.2.2.1.push ?_ z1 o1), ⟨by have := hS.1; omega, fun q h1 h2 => (o1 q (by have := hS.1; omega)).trans (hS.2.1 q h1 h2), hS.2.2⟩, X.2.2.2.2.2.2.1, ⟨by omega, by omega⟩, X.2.2.2.2.2.2.2.2⟩
  show H1[g + z]? = some (vp_cell _ _)
  rw [ha]
  exact e1
set_option maxHeartbeats 4000000 in
theorem pe_newq {idx t N : Nat} {n : Int32} {C : String} (hd : decode M.2.1 pc = .ok (.anewarray idx, 3)) (ht : px_ts[t]? = some (.object C)) (hw : Cond.classLink M.1.cls idx C ∈ px_tbl) (hao : C ∈ px_ao) (hn : ¬ n < 0) (hNn : n.toNatClampNeg = N) (hbytes : N * 4 ≤ 536870912)
    (kk : pz_E l L xs M d fc fs (pc + 3) ls (.ref z :: st) (pu h z (.inl (t, N, .inr (.inr (.inr (.inr (fun _ => none))))))) (z + 1) Q) : pz_E l L xs M d (fc + 1) (fs + N) pc ls (.int n :: st) h z Q := by
  intro p e s m args below meth c R H locs cells slots D g b cA mc ms Qm A X
  obtain ⟨⟨hx, hb, hml, hown, hts⟩, hnm, ⟨hR1, hR2, hR3, hR4⟩, ⟨hK, hN, hbg, hgs, hX⟩, ⟨hP, hsz, hd1, hd2⟩, hS, hlv, ⟨hc1, hc2⟩, hret⟩ := id X
  subst hNn
  refine W.anew hx hb hown (hts _ hw) (va_AO.use (hN.2 C hao)) rfl hd rfl hn hbytes (by omega) (by omega) fun cA' kA comp f1 f2 f3 f4 => ?_
  generalize hH1 : H.push ({ cls := cA', slots := Array.replicate n.toNatClampNeg .null, vm := .none } : Cell) = H1
  have z1 : H1.size = g + z + 1 := by rw [← hH1, Array.size_push, hsz]
  have e1 : H1[g + z]? = some (arrV cA' n.toNatClampNeg (fun _ => .null)) := by rw [← hH1, ← hsz, Array.getElem?_push_size, ← arrV_new]
  have o1 : ∀ q : Nat, q < g + z → H1[q]? = H[q]? := fun q hq => by rw [← hH1, Array.getElem?_push, if_neg (by omega)]
  have hca : cA' = cA t := by
    obtain ⟨_, _, _, _, _, h8⟩ := (hK.2 t _ (pz_tys_at ht)).2
    exact Option.some.inj (f1.symm.trans h8)
  subst hca
  rw [hsz]
  refine kk p e s m args below meth c R H1 locs (cells + 1) (slots + n.toNatClampNeg) D g b cA mc ms Qm A ⟨X.1, X.2.1, X.2.2.1, X.2.2.2.1, (X.2.2.2.2.1.push ?_ z1 o1), ⟨by have := hS.1; omega, fun q h1 h2 => (o1 q (by have := hS.1; omega)).trans (hS.2.1 q h1 h2), hS.2.2⟩, X.2.2.2.2.2.2.1, ⟨by omega, by omega⟩, X.2.2.2.2.2.2.2.2⟩
  show H1[g + z]? = some (vp_cell (cA t) (n.toNatClampNeg, .inr (.inr (.inr (.inr (fun _ => (none : Option Nat).map (fun k => g + k)))))))
  rw [vp_cell_q]
  exact e1
theorem pe_objInit {a idx : Nat} (hd : decode M.2.1 pc = .ok (.invokespecial idx, 3)) (hw : Cond.methodLink M.1.cls idx Lib.objectInit ∈ px_tbl) (hw2 : Cond.instanceMethod Lib.objectInit ∈ px_tbl) (hw3 : Cond.code Lib.objectInit ⟨#[0xb1]⟩ 1 none ∈ px_tbl) (hst : (st.map Value.category).sum ≤ 8) (hdd : 1 ≤ d) (kk : pz_E l L xs M d fc fs (pc + 3) ls st h z Q) : pz_E l L xs M d fc fs pc ls (.ref a :: st) h z Q := by
  intro p e s m args below meth c R H locs cells slots D g b cA mc ms Qm A X
  obtain ⟨⟨hx, hb, hml, hown, hts⟩, hnm, ⟨hR1, hR2, hR3, hR4⟩, ⟨hK, hN, hbg, hgs, hX⟩, ⟨hP, hsz, hd1, hd2⟩, hS, hlv, ⟨hc1, hc2⟩, hret⟩ := id X
  have hrm : ((st.map (pz_v g b)).map fun v => v.category).sum ≤ 8 := by
    rw [List.map_map, show ((fun v => v.category) ∘ pz_v g b) = Value.category from funext (fun v => pz_cat g b v)]
    exact hst
  refine W.objInit hx hb hown (hts _ hw) (hts _ hw2) (hts _ hw3) rfl (by rw [hml]; exact hlv.1) rfl hd (by omega) ?_ (kk p e s m args below meth c R H locs cells slots D g b cA mc ms Qm A X)
  have h9 := lv_room (m := m) (pc := pc) (ls := A) (rest := List.map (pz_v g b) (.ref a :: st)) hrm
  have h8 : px_lc * 1 ≤ px_lc * d := Nat.mul_le_mul_left _ hdd
  have h7 : 20 ≤ px_lc := by decide
  omega
theorem pe_ldc2 {idx : Nat} {v : Int64} (hd : decode M.2.1 pc = .ok (.ldc2_w idx, 3)) (hw : Cond.constantLong M.1.cls idx v ∈ px_tbl) (kk : pz_E l L xs M d fc fs (pc + 3) ls (.long v :: st) h z Q) : pz_E l L xs M d fc fs pc ls st h z Q := by
  intro p e s m args below meth c R H locs cells slots D g b cA mc ms Qm A X
  exact lv_ldc2 X.1.1 X.1.2.1 X.1.2.2.2.1 (X.1.2.2.2.2 _ hw) hd (kk p e s m args below meth c R H locs cells slots D g b cA mc ms Qm A X)
theorem pe_ldc {idx : Nat} {v : Int32} (hd : decode M.2.1 pc = .ok (.ldc idx, 2)) (hw : Cond.constant M.1.cls idx v ∈ px_tbl) (kk : pz_E l L xs M d fc fs (pc + 2) ls (.int v :: st) h z Q) : pz_E l L xs M d fc fs pc ls st h z Q := by
  intro p e s m args below meth c R H locs cells slots D g b cA mc ms Qm A X
  exact lv_ldc X.1.1 X.1.2.1 X.1.2.2.2.1 (X.1.2.2.2.2 _ hw) hd (kk p e s m args below meth c R H locs cells slots D g b cA mc ms Qm A X)
theorem pe_ret {v : Option Value} (hr : pz_ret M pc v) (hq : Q v h z) : pz_E l L xs M d fc fs pc ls v.toList h z Q := by
  intro p e s m args below meth c R H locs cells slots D g b cA mc ms Qm A X
  obtain ⟨⟨hx, hb, hml, hown, hts⟩, hnm, ⟨hR1, hR2, hR3, hR4⟩, ⟨hK, hN, hbg, hgs, hX⟩, ⟨hP, hsz, hd1, hd2⟩, hS, hlv, ⟨hc1, hc2⟩, hret⟩ := id X
  exact hret v h z H locs cells slots pc A hr hq X.2.2.2.2.1 hS (by omega) (by omega)
theorem pe_iret {x : Int32} (hd : decode M.2.1 pc = .ok (.ireturn, 1)) (hr : M.2.2.2 = some .int) (hq : Q (some (.int x)) h z) : pz_E l L xs M d fc fs pc ls [.int x] h z Q := pe_ret (v := some (.int x)) ⟨hd, _, hr, rfl⟩ hq
theorem pe_zret {x : Int32} (hd : decode M.2.1 pc = .ok (.ireturn, 1)) (hr : M.2.2.2 = some .boolean) (hx : x &&& 1 = x) (hq : Q (some (.int x)) h z) : pz_E l L xs M d fc fs pc ls [.int x] h z Q := pe_ret (v := some (.int x)) ⟨hd, _, hr, by show Value.int (x &&& 1) = _; rw [hx]⟩ hq
theorem pe_lret {x : Int64} (hd : decode M.2.1 pc = .ok (.lreturn, 1)) (hr : M.2.2.2 = some .long) (hq : Q (some (.long x)) h z) : pz_E l L xs M d fc fs pc ls [.long x] h z Q := pe_ret (v := some (.long x)) ⟨hd, hr⟩ hq
theorem pe_aret {x : Nat} {C : String} (hd : decode M.2.1 pc = .ok (.areturn, 1)) (hr : M.2.2.2 = some (.object C)) (hq : Q (some (.ref x)) h z) : pz_E l L xs M d fc fs pc ls [.ref x] h z Q := pe_ret (v := some (.ref x)) ⟨hd, _, hr⟩ hq
theorem pe_vret (hd : decode M.2.1 pc = .ok (.return_, 1)) (hr : M.2.2.2 = none) (hq : Q none h z) : pz_E l L xs M d fc fs pc ls [] h z Q := pe_ret (v := none) ⟨hd, hr⟩ hq
/-- fewer locals are known -/
theorem pe_ls {ls' : List (Option Value)} (hl : ∀ (i : Nat) (v : Value), ls'[i]? = some (some v) → ls[i]? = some (some v)) (kk : pz_E l L xs M d fc fs pc ls' st h z Q) : pz_E l L xs M d fc fs pc ls st h z Q := by
  intro p e s m args below meth c R H locs cells slots D g b cA mc ms Qm A X
  exact kk p e s m args below meth c R H locs cells slots D g b cA mc ms Qm A ⟨X.1, X.2.1, X.2.2.1, X.2.2.2.1, X.2.2.2.2.1, X.2.2.2.2.2.1, ⟨X.2.2.2.2.2.2.1.1, X.2.2.2.2.2.2.1.2.1, fun i v hi => X.2.2.2.2.2.2.1.2.2 i v (hl i v hi)⟩, X.2.2.2.2.2.2.2⟩
/-- fewer makings -/
theorem pe_less {fc' fs' : Nat} (h1 : fc' ≤ fc) (h2 : fs' ≤ fs) (kk : pz_E l L xs M d fc' fs' pc ls st h z Q) : pz_E l L xs M d fc fs pc ls st h z Q := by
  intro p e s m args below meth c R H locs cells slots D g b cA mc ms Qm A X
  obtain ⟨x1, x2, x3, x4, x5, x6, x7, ⟨x8, x9⟩, x10⟩ := X
  exact kk p e s m args below meth c R H locs cells slots D g b cA mc ms Qm A ⟨x1, x2, x3, x4, x5, x6, x7, ⟨by omega, by omega⟩, x10⟩
end PE
/-- a contract out of a walk -/
theorem pz_K.of {l : Launch} {L : Nat} {xs : Nat → Int32} {M : pz_M} {d mc ms : Nat} {as : List Value} {h : pz_H} {z : Nat} {Q : pz_Q} (hy : plainName M.1.cls = true) (hn : (as.map Value.category).sum ≤ M.2.2.1) (kk : pz_E l L xs M d mc ms 0 (pz_in M.2.2.1 as) [] h z Q) : pz_K l L xs M d mc ms as h z Q := by
  intro D g b cA
  refine Met.ofW (cc := M.2.1) (maxL := M.2.2.1) (ret := M.2.2.2) hy rfl ?_
  intro p e s m args below meth c s₁ B hml hv
  obtain ⟨rfl, hG, hP⟩ := hv
  have hx := B.exec
  have hb := B.bytes
  have hr := B.returns
  have hts := atoms_spec (ws := pz_ws M) B.pre
  have hown : s.vm.findClass M.1.cls = some m.cls := findClass_of_methodNamed B.named
  have hlocks := B.notSynchronized
  have hin : meth.name = M.1.name := (name_of_methodNamed B.named B.method).1
  have hl := pz_entry g b as M.2.2.1 (by rw [pz_sl]; exact hn)
  rw [lg_entry_eq]
  refine kk p e s m _ below meth c (pz_rm d mc ms) s.heap [] 0 0 D g b cA mc ms _ _ ⟨⟨hx, hb, hml, hown, fun w hw => hts w (List.mem_cons_of_mem _ hw)⟩, hin, ⟨Nat.le_refl _, Nat.le_refl _, Nat.le_refl _, Nat.le_refl _⟩, hG, hP, va_S.rf, hl, ⟨by omega, by omega⟩, ?_⟩
  intro v h' z' H' locs' cells' slots' pc' A' hret hq hP' hS' hc1 hc2
  refine W.widen hc1 hc2 ?_
  have hQ : ∀ t : State, t.heap = H' → pz_Qc D g b cA Q (as.map (pz_v g b)).toArray s (.returned (v.map (pz_v g b))) t := fun t ht => ⟨v, h', z', rfl, hq, by rw [ht]; exact hP', hS'.F ht⟩
  match v, hret, hQ with
  | none, hret, hQ => exact W.vret hx hb (hr.trans hret.2) (fun t ht _ => hQ t ht) hS'.2.2 hret.1
  | some (.int x), hret, hQ =>
    obtain ⟨h1, ty, h2, h3⟩ := hret
    exact W.zret hx hb (hr.trans h2) h3 (fun t ht _ => hQ t ht) hS'.2.2 h1
  | some (.long x), hret, hQ => exact W.lret hx hb (hr.trans hret.2) (fun t ht _ => hQ t ht) hS'.2.2 hret.1
  | some (.ref x), hret, hQ =>
    obtain ⟨h1, C, h2⟩ := hret
    exact W.aret hx hb (hr.trans h2) (Or.inl ⟨C, rfl⟩) (Or.inr ⟨_, rfl⟩) (fun t ht _ => hQ t ht) hS'.2.2 h1
theorem pz_K.mono {l : Launch} {L : Nat} {xs : Nat → Int32} {M : pz_M} {d mc ms : Nat} {as : List Value} {h : pz_H} {z : Nat} {Q Q' : pz_Q} (hK : pz_K l L xs M d mc ms as h z Q) (hQ : ∀ v h' z', Q v h' z' → Q' v h' z') : pz_K l L xs M d mc ms as h z Q' := by
  intro D g b cA p e ha hc hk s m args below hf hpre hP hK'
  obtain ⟨k, o, h1, h2, h3, ⟨v, h', z', e1, e2, e3, e4⟩, h5⟩ := hK D g b cA p e ha hc hk s m args below hf hpre hP hK'
  exact ⟨k, o, h1, h2, h3, ⟨v, h', z', e1, hQ _ _ _ e2, e3, e4⟩, h5⟩
section PEC
variable {l : Launch} {L : Nat} {xs : Nat → Int32} {M : pz_M} {d fc fs pc : Nat} {ls : List (Option Value)} {st : List Value} {h : pz_H} {z : Nat} {Q : pz_Q}
theorem pz_blind {D : va_G} {g b : Nat} {cA : Nat → ClassId} {as : List Value} : FrameBlind (pz_Pc D g b cA L xs as h z) := by
  intro a U gf mk q
  obtain ⟨q1, ⟨k1, k2, k3, k4, k5⟩, q3⟩ := q
  refine ⟨q1, ⟨va_K.moved (u := U) (U := U.calling gf mk a) (Vm.Alike.refl U.vm) k1, ⟨fun w hw => ⟨(k2.1 w hw).1, ?_⟩, fun C hC => (k2.2 C hC).moved (u := U) (U := U.calling gf mk a) (Vm.Alike.refl U.vm)⟩, k3, k4, va_X.moved (u := U) (U := U.calling gf mk a) (Vm.Alike.refl U.vm) k5⟩, q3⟩
  obtain ⟨h1, h2⟩ := k2.1 w hw
  exact va_Nw.same (by cases w <;> first | rfl | exact absurd h1 (by simp [pz_nest])) (u := U) (U := U.calling gf mk a) rfl h2
theorem pz_pre {D : va_G} {g b : Nat} {cA : Nat → ClassId} {as : List Value} {s : State} {H : Heap} {locs : List Loc} (hG : pz_G D g b cA L xs s) (hP : pz_P D g b cA h z H) (hS : va_S (fun q => g ≤ q) s.heap H locs) (U : State) (hU : U.heap = H) (hW : s.WarmedH U.vm) : pz_Pc D g b cA L xs as h z (as.map (pz_v g b)).toArray U := by
  obtain ⟨hK, hN, hbg, hgs, hX⟩ := hG
  refine ⟨rfl, ⟨va_K.moved hW.alike hK, hN.moved hW, hbg, by rw [hU]; exact Nat.le_trans hgs hS.1, ?_⟩, by rw [hU]; exact hP⟩
  rw [hU]
  exact va_X.moved hW.alike (hX.kept (hS.2.1 b (Nat.lt_of_lt_of_le hbg hgs) (Nat.not_le.mpr hbg)))
theorem pz_after {p : Program} {e : Env} {R : Room} {s : State} {m : MethodId} {args : Array Value} {below : List Frame} {meth : Method} {c : Code} {H : Heap} {locs : List Loc} {cells slots mc' ms' pc : Nat} {A : Array Slot} {st0 rest : List Value} {D : va_G} {g b : Nat} {cA : Nat → ClassId} {Q' : pz_Q} {a : Array Value} {Qm : State → Prop}
    (hr : va_Run p l e R s m args below meth c H locs cells slots mc' ms' (F0 m pc A st0) rest (pz_Qc D g b cA Q' a) (fun q => g ≤ q)) (hS : va_S (fun q => g ≤ q) s.heap H locs)
    (kk : ∀ (v : Option Value) (h' : pz_H) (z' : Nat) (H1 : Heap) (locs1 : List Loc), Q' v h' z' → pz_P D g b cA h' z' H1 → va_S (fun q => g ≤ q) s.heap H1 locs1 → W p l e R s m args below meth c H1 locs1 (cells + mc') (slots + ms') Qm (F0 m (pc + 3) A ((v.map (pz_v g b)).toList ++ rest))) : W p l e R s m args below meth c H locs cells slots Qm (F0 m pc A st0) := by
  intro T hT X
  obtain ⟨v, st₀, t, T', L', h0, X', hL, e1, e2, ⟨v', h', z', hv, hq, hP, hz, hk⟩, st⟩ := hr T hT X
  cases hv
  rw [h0] at hz hk
  obtain ⟨t2, a1, b1⟩ := kk v' h' z' T'.heap (locs ++ L') hq (by rw [e1]; exact hP)
    ⟨Nat.le_trans hS.1 (by rw [e1]; exact hz), fun q h1 h2 => by rw [e1, hk q (Nat.lt_of_lt_of_le h1 hS.1) h2]; exact hS.2.1 q h1 h2, fun q hq => by
      rcases List.mem_append.mp hq with h | h
      · exact hS.2.2 q h
      · exact hL q h⟩ T' rfl X'
  exact ⟨t2, st t2 a1, b1⟩
/-- what a call of M' by the methods of 'own' rests on: n arguments beside the receiver -/
def pz_mo (own : String) (idx : Nat) (M' : pz_M) (n : Nat) : Prop := (Cond.methodLink own idx M'.1 ∈ px_tbl ∨ ∃ host, Cond.methodLinkNest own idx M'.1 host ∈ px_nw) ∧ Cond.code M'.1 M'.2.1 M'.2.2.1 M'.2.2.2 ∈ px_tbl ∧ Cond.initialized M'.1.cls ∈ px_tbl ∧ (M'.1.cls ≠ "java/lang/invoke/MethodHandle" ∧ M'.1.cls ≠ "java/lang/invoke/VarHandle") ∧ (parseMethodDescriptor M'.1.desc).map (fun d => d.parameters.length) = some n ∧ 19 + M'.2.2.1 ≤ px_lc
theorem pz_good {M' : pz_M} (h : Cond.code M'.1 M'.2.1 M'.2.2.1 M'.2.2.2 ∈ px_tbl) : GoodIn px_tbl (pz_ws M') := by
  intro w hw
  rcases List.mem_cons.mp hw with rfl | hw
  · exact px_good _ h
  · exact px_good w hw
set_option maxHeartbeats 4000000 in
theorem pe_callV {M' : pz_M} {Q' : pz_Q} {idx n d' mc' ms' : Nat} {as st0 : List Value} {a : Nat} (hd : decode M.2.1 pc = .ok (.invokevirtual idx, 3)) (hm : pz_mo M.1.cls idx M' n) (hw1 : Cond.instanceMethod M'.1 ∈ px_tbl) (hw2 : Cond.selects M'.1.cls M'.1 M'.1 ∈ px_tbl) (hM : pz_K l L xs M' d' mc' ms' (.ref a :: as) h z Q') (hn : as.length = n) (hs0 : st0 = as.reverse ++ .ref a :: st) (hst : (st.map Value.category).sum ≤ 8) (hdd : d' + 1 ≤ d) {ci : Nat} {fs0 : List Value} {r : vw_C} (hh : h a = some (.inr (ci, fs0))) (hci : px_cl[ci]? = some r) (hrn : r.1 = M'.1.cls)
    (kk : ∀ v h' z', Q' v h' z' → pz_E l L xs M d fc fs (pc + 3) ls (v.toList ++ st) h' z' Q) : pz_E l L xs M d (fc + mc') (fs + ms') pc ls st0 h z Q := by
  intro p e s m args below meth c R H locs cells slots D g b cA mc ms Qm A X
  obtain ⟨hlk, hcd, hini, hne, hpar, hlc⟩ := hm
  obtain ⟨⟨hx, hb, hml, hown, hts⟩, hnm, ⟨hR1, hR2, hR3, hR4⟩, ⟨hK, hN, hbg, hgs, hX⟩, ⟨hP, hsz, hd1, hd2⟩, hS, hlv, ⟨hc1, hc2⟩, hret⟩ := id X
  have hlo : 8 + (M'.2.2.1 + 11) + px_lc * d' ≤ R.locals := by
    have h8 : px_lc * (d' + 1) ≤ px_lc * d := Nat.mul_le_mul_left _ hdd
    rw [Nat.mul_succ] at h8
    omega
  have hrm : ((st.map (pz_v g b)).map fun v => v.category).sum ≤ 8 := by
    rw [List.map_map, show ((fun v => v.category) ∘ pz_v g b) = Value.category from funext (fun v => pz_cat g b v)]
    exact hst
  have hst' : List.map (pz_v g b) st0 = (as.map (pz_v g b)).reverse ++ .ref (g + a) :: st.map (pz_v g b) := by rw [hs0]; simp [List.map_reverse]; rfl
  rw [hst']
  have hfin : ∀ (v : Option Value) (h' : pz_H) (z' : Nat) (H1 : Heap) (locs1 : List Loc), Q' v h' z' → pz_P D g b cA h' z' H1 → va_S (fun q => g ≤ q) s.heap H1 locs1 → W p l e R s m args below meth c H1 locs1 (cells + mc') (slots + ms') Qm (F0 m (pc + 3) A ((v.map (pz_v g b)).toList ++ st.map (pz_v g b))) := by
    intro v h' z' H1 locs1 hq hP1 hS1
    have h9 := kk v h' z' hq p e s m args below meth c R H1 locs1 (cells + mc') (slots + ms') D g b cA mc ms Qm A ⟨X.1, X.2.1, X.2.2.1, X.2.2.2.1, hP1, hS1, X.2.2.2.2.2.2.1, ⟨by omega, by omega⟩, X.2.2.2.2.2.2.2.2⟩
    rw [List.map_append] at h9
    cases v <;> exact h9
  have hrc : ∃ cellB : Cell, H[g + a]? = some cellB ∧ cellB.vm.isStatics = false ∧ s.vm.findClass M'.1.cls = some cellB.cls := by
    have hat := pz_w_at (g := g) (b := b) (cA := cA) (h := h) (hd1 a _ hh)
    rw [hh] at hat
    have h9 := va_recv hK hP hci hat
    rw [hrn] at h9
    exact h9
  rcases hlk with hlk | ⟨host, hlk⟩
  · exact pz_after (va_runV (C := M'.1.cls) (As := as.map (pz_v g b)) (rest := st.map (pz_v g b)) X.1 (hM D g b cA) ⟨callB_of n hts (pz_good hcd) rfl rfl rfl (hts _ hini) (hts _ hlk) ⟨hne.1, hne.2, hpar⟩ ⟨by show d' + 1 ≤ R.frames; omega, hlo⟩, hts _ hw1, hts _ hw2⟩ ⟨pz_blind, hrc, pz_pre (as := .ref a :: as) X.2.2.2.1 X.2.2.2.2.1 hS⟩ rfl (by rw [List.length_map]; exact hn) hlv.1 rfl (lv_room hrm) hd ⟨by omega, by omega⟩) hS hfin
  · exact pz_after (va_runVN (C := M'.1.cls) (As := as.map (pz_v g b)) (rest := st.map (pz_v g b)) X.1 (hM D g b cA) ⟨va_cnB n hts (pz_good hcd) rfl rfl rfl (hN.1 _ hlk).2 (hts _ hini) ⟨hne.1, hne.2, hpar⟩ ⟨by show d' + 1 ≤ R.frames; omega, hlo⟩, hts _ hw1, hts _ hw2⟩ ⟨pz_blind, hrc, pz_pre (as := .ref a :: as) X.2.2.2.1 X.2.2.2.2.1 hS⟩ rfl (by rw [List.length_map]; exact hn) hlv.1 rfl (lv_room hrm) hd ⟨by omega, by omega⟩) hS hfin
set_option maxHeartbeats 4000000 in
theorem pe_callI {M' : pz_M} {Q' : pz_Q} {idx n d' mc' ms' : Nat} {as st0 : List Value} {a : Nat} (hd : decode M.2.1 pc = .ok (.invokespecial idx, 3)) (hm : pz_mo M.1.cls idx M' n) (hw1 : Cond.instanceMethod M'.1 ∈ px_tbl) (hw2 : M'.1.name = "<init>") (hw3 : M'.2.2.2 = none) (hM : pz_K l L xs M' d' mc' ms' (.ref a :: as) h z Q') (hn : as.length = n) (hs0 : st0 = as.reverse ++ .ref a :: st) (hst : (st.map Value.category).sum ≤ 8) (hdd : d' + 1 ≤ d) 
    (kk : ∀ v h' z', Q' v h' z' → pz_E l L xs M d fc fs (pc + 3) ls (v.toList ++ st) h' z' Q) : pz_E l L xs M d (fc + mc') (fs + ms') pc ls st0 h z Q := by
  intro p e s m args below meth c R H locs cells slots D g b cA mc ms Qm A X
  obtain ⟨hlk, hcd, hini, hne, hpar, hlc⟩ := hm
  obtain ⟨⟨hx, hb, hml, hown, hts⟩, hnm, ⟨hR1, hR2, hR3, hR4⟩, ⟨hK, hN, hbg, hgs, hX⟩, ⟨hP, hsz, hd1, hd2⟩, hS, hlv, ⟨hc1, hc2⟩, hret⟩ := id X
  have hlo : 8 + (M'.2.2.1 + 11) + px_lc * d' ≤ R.locals := by
    have h8 : px_lc * (d' + 1) ≤ px_lc * d := Nat.mul_le_mul_left _ hdd
    rw [Nat.mul_succ] at h8
    omega
  have hrm : ((st.map (pz_v g b)).map fun v => v.category).sum ≤ 8 := by
    rw [List.map_map, show ((fun v => v.category) ∘ pz_v g b) = Value.category from funext (fun v => pz_cat g b v)]
    exact hst
  have hst' : List.map (pz_v g b) st0 = (as.map (pz_v g b)).reverse ++ .ref (g + a) :: st.map (pz_v g b) := by rw [hs0]; simp [List.map_reverse]; rfl
  rw [hst']
  have hfin : ∀ (v : Option Value) (h' : pz_H) (z' : Nat) (H1 : Heap) (locs1 : List Loc), Q' v h' z' → pz_P D g b cA h' z' H1 → va_S (fun q => g ≤ q) s.heap H1 locs1 → W p l e R s m args below meth c H1 locs1 (cells + mc') (slots + ms') Qm (F0 m (pc + 3) A ((v.map (pz_v g b)).toList ++ st.map (pz_v g b))) := by
    intro v h' z' H1 locs1 hq hP1 hS1
    have h9 := kk v h' z' hq p e s m args below meth c R H1 locs1 (cells + mc') (slots + ms') D g b cA mc ms Qm A ⟨X.1, X.2.1, X.2.2.1, X.2.2.2.1, hP1, hS1, X.2.2.2.2.2.2.1, ⟨by omega, by omega⟩, X.2.2.2.2.2.2.2.2⟩
    rw [List.map_append] at h9
    cases v <;> exact h9
  rcases hlk with hlk | ⟨host, hlk⟩
  · exact pz_after (va_runI (As := as.map (pz_v g b)) (rest := st.map (pz_v g b)) X.1 (hM D g b cA) ⟨by have h9 := callB_of (own := M.1.cls) (index := idx) (args := args) (s := s) (R := R) (mc := mc') (ms := ms') n hts (pz_good hcd) rfl rfl rfl (hts _ hini) (hts _ hlk) ⟨hne.1, hne.2, hpar⟩ (rm := pz_rm d' mc' ms') ⟨by show d' + 1 ≤ R.frames; omega, hlo⟩; rw [hw3] at h9; exact h9, hw2, hts _ hw1⟩ ⟨pz_blind, pz_pre (as := .ref a :: as) X.2.2.2.1 X.2.2.2.2.1 hS⟩ rfl (by rw [List.length_map]; exact hn) hlv.1 rfl (lv_room hrm) hd ⟨by omega, by omega⟩) hS hfin
  · exact pz_after (va_runIN (As := as.map (pz_v g b)) (rest := st.map (pz_v g b)) X.1 (hM D g b cA) ⟨by have h9 := va_cnB (own := M.1.cls) (index := idx) (args := args) (s := s) (R := R) (mc := mc') (ms := ms') n hts (pz_good hcd) rfl rfl rfl (hN.1 _ hlk).2 (hts _ hini) ⟨hne.1, hne.2, hpar⟩ (rm := pz_rm d' mc' ms') ⟨by show d' + 1 ≤ R.frames; omega, hlo⟩; rw [hw3] at h9; exact h9, hw2, hts _ hw1⟩ ⟨pz_blind, pz_pre (as := .ref a :: as) X.2.2.2.1 X.2.2.2.2.1 hS⟩ rfl (by rw [List.length_map]; exact hn) hlv.1 rfl (lv_room hrm) hd ⟨by omega, by omega⟩) hS hfin
set_option maxHeartbeats 4000000 in
theorem pe_callS {M' : pz_M} {Q' : pz_Q} {idx n d' mc' ms' : Nat} {as st0 : List Value} (hd : decode M.2.1 pc = .ok (.invokestatic idx, 3)) (hm : pz_mo M.1.cls idx M' n) (hw1 : Cond.static M'.1 ∈ px_tbl) (hM : pz_K l L xs M' d' mc' ms' as h z Q') (hn : as.length = n) (hs0 : st0 = as.reverse ++ st) (hst : (st.map Value.category).sum ≤ 8) (hdd : d' + 1 ≤ d) 
    (kk : ∀ v h' z', Q' v h' z' → pz_E l L xs M d fc fs (pc + 3) ls (v.toList ++ st) h' z' Q) : pz_E l L xs M d (fc + mc') (fs + ms') pc ls st0 h z Q := by
  intro p e s m args below meth c R H locs cells slots D g b cA mc ms Qm A X
  obtain ⟨hlk, hcd, hini, hne, hpar, hlc⟩ := hm
  obtain ⟨⟨hx, hb, hml, hown, hts⟩, hnm, ⟨hR1, hR2, hR3, hR4⟩, ⟨hK, hN, hbg, hgs, hX⟩, ⟨hP, hsz, hd1, hd2⟩, hS, hlv, ⟨hc1, hc2⟩, hret⟩ := id X
  have hlo : 8 + (M'.2.2.1 + 11) + px_lc * d' ≤ R.locals := by
    have h8 : px_lc * (d' + 1) ≤ px_lc * d := Nat.mul_le_mul_left _ hdd
    rw [Nat.mul_succ] at h8
    omega
  have hrm : ((st.map (pz_v g b)).map fun v => v.category).sum ≤ 8 := by
    rw [List.map_map, show ((fun v => v.category) ∘ pz_v g b) = Value.category from funext (fun v => pz_cat g b v)]
    exact hst
  have hst' : List.map (pz_v g b) st0 = (as.map (pz_v g b)).reverse ++ st.map (pz_v g b) := by rw [hs0]; simp [List.map_reverse]
  rw [hst']
  have hfin : ∀ (v : Option Value) (h' : pz_H) (z' : Nat) (H1 : Heap) (locs1 : List Loc), Q' v h' z' → pz_P D g b cA h' z' H1 → va_S (fun q => g ≤ q) s.heap H1 locs1 → W p l e R s m args below meth c H1 locs1 (cells + mc') (slots + ms') Qm (F0 m (pc + 3) A ((v.map (pz_v g b)).toList ++ st.map (pz_v g b))) := by
    intro v h' z' H1 locs1 hq hP1 hS1
    have h9 := kk v h' z' hq p e s m args below meth c R H1 locs1 (cells + mc') (slots + ms') D g b cA mc ms Qm A ⟨X.1, X.2.1, X.2.2.1, X.2.2.2.1, hP1, hS1, X.2.2.2.2.2.2.1, ⟨by omega, by omega⟩, X.2.2.2.2.2.2.2.2⟩
    rw [List.map_append] at h9
    cases v <;> exact h9
  rcases hlk with hlk | ⟨host, hlk⟩
  · exact pz_after (va_runS (As := as.map (pz_v g b)) (rest := st.map (pz_v g b)) X.1 (hM D g b cA) ⟨callB_of n hts (pz_good hcd) rfl rfl rfl (hts _ hini) (hts _ hlk) ⟨hne.1, hne.2, hpar⟩ ⟨by show d' + 1 ≤ R.frames; omega, hlo⟩, hts _ hw1⟩ ⟨pz_blind, pz_pre X.2.2.2.1 X.2.2.2.2.1 hS⟩ rfl (by rw [List.length_map]; exact hn) hlv.1 rfl (lv_room hrm) hd ⟨by omega, by omega⟩) hS hfin
  · exact pz_after (va_runSN (As := as.map (pz_v g b)) (rest := st.map (pz_v g b)) X.1 (hM D g b cA) ⟨va_cnB n hts (pz_good hcd) rfl rfl rfl (hN.1 _ hlk).2 (hts _ hini) ⟨hne.1, hne.2, hpar⟩ ⟨by show d' + 1 ≤ R.frames; omega, hlo⟩, hts _ hw1, trivial⟩ ⟨pz_blind, pz_pre X.2.2.2.1 X.2.2.2.2.1 hS⟩ rfl (by rw [List.length_map]; exact hn) hlv.1 rfl (lv_room hrm) hd ⟨by omega, by omega⟩) hS hfin
end PEC
end
