abbrev pz_M : Type := MethodName × ByteArray × Nat × Option FieldType
/-! names: the words, the kinds of cells and of arrays, the methods -/
def px_tbl : List Cond := lw_tbl.filter goodWord
def px_lc : Nat := 32
theorem px_good : GoodIn px_tbl px_tbl := fun w h => ⟨h, good_of_word (List.mem_filter.mp h).2⟩
theorem px_in (i : Nat) {w : Cond} (h : tables_1[i]? = some w) (hg : goodWord w = true) : w ∈ px_tbl := List.mem_filter.mpr ⟨List.mem_append_right _ (List.mem_of_getElem? h), hg⟩
theorem px_inp (i : Nat) {w : Cond} (h : (k2_sels lw_privs)[i]? = some w) (hg : goodWord w = true) : w ∈ px_tbl := List.mem_filter.mpr ⟨List.mem_append_left _ (List.mem_of_getElem? h), hg⟩
def pT_0 : u_T := fun k => match k with
  | 0 => ("BindingKernel", "apps", "[LBindingKernel$Application;", true)
  | 1 => ("BindingKernel", "memory", "LBindingKernel$Memory;", true)
  | 2 => ("BindingKernel", "filterOrder", "LBindingKernel$FilterOrder;", true)
  | 3 => ("BindingKernel", "arriving", "LBindingKernel$Frame;", true)
  | 4 => ("BindingKernel", "disk", "LBindingKernel$Disk;", true)
  | _ => ("BindingKernel", "framesLost", "I", false)
def pY_0 : Nat → FieldType := fun k => match k with
  | 0 => .array (.object "BindingKernel$Application")
  | 1 => .object "BindingKernel$Memory"
  | 2 => .object "BindingKernel$FilterOrder"
  | 3 => .object "BindingKernel$Frame"
  | 4 => .object "BindingKernel$Disk"
  | _ => .int
theorem pN_0 : ∀ a, a < 6 → ∀ b, b < 6 → a ≠ b → (pT_0 a).2.1 ≠ (pT_0 b).2.1 := by decide +kernel
theorem pO_0 : ∀ k, k < 6 → parseFieldDescriptor (pT_0 k).2.2.1 = some (pY_0 k) := by decide +kernel
def pT_1 : u_T := fun k => match k with
  | 0 => ("BindingKernel$Memory", "size", "I", true)
  | 1 => ("BindingKernel$Memory", "words", "[I", true)
  | 2 => ("BindingKernel$Memory", "owners", "[I", true)
  | 3 => ("BindingKernel$Memory", "rights", "[I", true)
  | 4 => ("BindingKernel$Memory", "takings", "[I", true)
  | 5 => ("BindingKernel$Memory", "named", "[Z", true)
  | 6 => ("BindingKernel$Memory", "deadlines", "[I", true)
  | 7 => ("BindingKernel$Memory", "takingsSoFar", "I", false)
  | _ => ("BindingKernel$Memory", "clock", "I", false)
def pY_1 : Nat → FieldType := fun k => match k with
  | 0 => .int
  | 1 => .array .int
  | 2 => .array .int
  | 3 => .array .int
  | 4 => .array .int
  | 5 => .array .boolean
  | 6 => .array .int
  | 7 => .int
  | _ => .int
theorem pN_1 : ∀ a, a < 9 → ∀ b, b < 9 → a ≠ b → (pT_1 a).2.1 ≠ (pT_1 b).2.1 := by decide +kernel
theorem pO_1 : ∀ k, k < 9 → parseFieldDescriptor (pT_1 k).2.2.1 = some (pY_1 k) := by decide +kernel
def pT_2 : u_T := fun k => match k with
  | 0 => ("BindingKernel$Disk", "size", "I", true)
  | 1 => ("BindingKernel$Disk", "words", "[I", true)
  | _ => ("BindingKernel$Disk", "owners", "[I", true)
def pY_2 : Nat → FieldType := fun k => match k with
  | 0 => .int
  | 1 => .array .int
  | _ => .array .int
theorem pN_2 : ∀ a, a < 3 → ∀ b, b < 3 → a ≠ b → (pT_2 a).2.1 ≠ (pT_2 b).2.1 := by decide +kernel
theorem pO_2 : ∀ k, k < 3 → parseFieldDescriptor (pT_2 k).2.2.1 = some (pY_2 k) := by decide +kernel
def pT_3 : u_T := fun k => match k with
  | 0 => ("BindingKernel$FilterOrder", "appsInOrder", "[I", true)
  | _ => ("BindingKernel$FilterOrder", "length", "I", false)
def pY_3 : Nat → FieldType := fun k => match k with
  | 0 => .array .int
  | _ => .int
theorem pN_3 : ∀ a, a < 2 → ∀ b, b < 2 → a ≠ b → (pT_3 a).2.1 ≠ (pT_3 b).2.1 := by decide +kernel
theorem pO_3 : ∀ k, k < 2 → parseFieldDescriptor (pT_3 k).2.2.1 = some (pY_3 k) := by decide +kernel
def pT_4 : u_T := fun k => match k with
  | 0 => ("BindingKernel$Frame", "bytes", "[I", true)
  | _ => ("BindingKernel$Frame", "length", "I", false)
def pY_4 : Nat → FieldType := fun k => match k with
  | 0 => .array .int
  | _ => .int
theorem pN_4 : ∀ a, a < 2 → ∀ b, b < 2 → a ≠ b → (pT_4 a).2.1 ≠ (pT_4 b).2.1 := by decide +kernel
theorem pO_4 : ∀ k, k < 2 → parseFieldDescriptor (pT_4 k).2.2.1 = some (pY_4 k) := by decide +kernel
def pT_5 : u_T := fun k => match k with
  | 0 => ("BindingKernel$Application", "pagesTakenAway", "LBindingKernel$PageList;", true)
  | 1 => ("BindingKernel$Application", "frames", "LBindingKernel$FrameQueue;", true)
  | 2 => ("BindingKernel$Application", "table", "LBindingKernel$EntryTable;", true)
  | 3 => ("BindingKernel$Application", "draft", "LBindingKernel$Program;", false)
  | 4 => ("BindingKernel$Application", "filter", "LBindingKernel$Program;", false)
  | 5 => ("BindingKernel$Application", "isOpen", "Z", false)
  | 6 => ("BindingKernel$Application", "isMap", "Z", false)
  | 7 => ("BindingKernel$Application", "firstLink", "I", false)
  | _ => ("BindingKernel$Application", "links", "I", false)
def pY_5 : Nat → FieldType := fun k => match k with
  | 0 => .object "BindingKernel$PageList"
  | 1 => .object "BindingKernel$FrameQueue"
  | 2 => .object "BindingKernel$EntryTable"
  | 3 => .object "BindingKernel$Program"
  | 4 => .object "BindingKernel$Program"
  | 5 => .boolean
  | 6 => .boolean
  | 7 => .int
  | _ => .int
theorem pN_5 : ∀ a, a < 9 → ∀ b, b < 9 → a ≠ b → (pT_5 a).2.1 ≠ (pT_5 b).2.1 := by decide +kernel
theorem pO_5 : ∀ k, k < 9 → parseFieldDescriptor (pT_5 k).2.2.1 = some (pY_5 k) := by decide +kernel
def pT_6 : u_T := fun k => match k with
  | 0 => ("BindingKernel$PageList", "pages", "[I", true)
  | 1 => ("BindingKernel$PageList", "length", "I", false)
  | _ => ("BindingKernel$PageList", "end", "I", false)
def pY_6 : Nat → FieldType := fun k => match k with
  | 0 => .array .int
  | 1 => .int
  | _ => .int
theorem pN_6 : ∀ a, a < 3 → ∀ b, b < 3 → a ≠ b → (pT_6 a).2.1 ≠ (pT_6 b).2.1 := by decide +kernel
theorem pO_6 : ∀ k, k < 3 → parseFieldDescriptor (pT_6 k).2.2.1 = some (pY_6 k) := by decide +kernel
def pT_7 : u_T := fun k => match k with
  | 0 => ("BindingKernel$FrameQueue", "frames", "[LBindingKernel$Frame;", true)
  | 1 => ("BindingKernel$FrameQueue", "first", "I", false)
  | _ => ("BindingKernel$FrameQueue", "length", "I", false)
def pY_7 : Nat → FieldType := fun k => match k with
  | 0 => .array (.object "BindingKernel$Frame")
  | 1 => .int
  | _ => .int
theorem pN_7 : ∀ a, a < 3 → ∀ b, b < 3 → a ≠ b → (pT_7 a).2.1 ≠ (pT_7 b).2.1 := by decide +kernel
theorem pO_7 : ∀ k, k < 3 → parseFieldDescriptor (pT_7 k).2.2.1 = some (pY_7 k) := by decide +kernel
def pT_8 : u_T := fun k => match k with
  | 0 => ("BindingKernel$EntryTable", "dataBlocks", "[I", true)
  | _ => ("BindingKernel$EntryTable", "length", "I", false)
def pY_8 : Nat → FieldType := fun k => match k with
  | 0 => .array .int
  | _ => .int
theorem pN_8 : ∀ a, a < 2 → ∀ b, b < 2 → a ≠ b → (pT_8 a).2.1 ≠ (pT_8 b).2.1 := by decide +kernel
theorem pO_8 : ∀ k, k < 2 → parseFieldDescriptor (pT_8 k).2.2.1 = some (pY_8 k) := by decide +kernel
def pT_9 : u_T := fun k => match k with
  | 0 => ("BindingKernel$Program", "codes", "[I", true)
  | 1 => ("BindingKernel$Program", "operands", "[I", true)
  | 2 => ("BindingKernel$Program", "yeses", "[I", true)
  | 3 => ("BindingKernel$Program", "noes", "[I", true)
  | _ => ("BindingKernel$Program", "length", "I", false)
def pY_9 : Nat → FieldType := fun k => match k with
  | 0 => .array .int
  | 1 => .array .int
  | 2 => .array .int
  | 3 => .array .int
  | _ => .int
theorem pN_9 : ∀ a, a < 5 → ∀ b, b < 5 → a ≠ b → (pT_9 a).2.1 ≠ (pT_9 b).2.1 := by decide +kernel
theorem pO_9 : ∀ k, k < 5 → parseFieldDescriptor (pT_9 k).2.2.1 = some (pY_9 k) := by decide +kernel
def pT_10 : u_T := fun k => match k with
  | 0 => ("BindingKernelModel", "pages", "I", true)
  | 1 => ("BindingKernelModel", "blocks", "I", true)
  | 2 => ("BindingKernelModel", "open", "[Z", true)
  | 3 => ("BindingKernelModel", "isMap", "[Z", true)
  | 4 => ("BindingKernelModel", "first", "[I", true)
  | 5 => ("BindingKernelModel", "links", "[I", true)
  | 6 => ("BindingKernelModel", "now", "I", false)
  | 7 => ("BindingKernelModel", "taking", "I", false)
  | 8 => ("BindingKernelModel", "lost", "I", false)
  | 9 => ("BindingKernelModel", "owner", "[I", true)
  | 10 => ("BindingKernelModel", "took", "[I", true)
  | 11 => ("BindingKernelModel", "deadline", "[I", true)
  | 12 => ("BindingKernelModel", "right", "[I", true)
  | 13 => ("BindingKernelModel", "words", "[I", true)
  | 14 => ("BindingKernelModel", "gone", "[I", true)
  | 15 => ("BindingKernelModel", "goneMany", "[I", true)
  | 16 => ("BindingKernelModel", "length", "[I", true)
  | 17 => ("BindingKernelModel", "code", "[I", true)
  | 18 => ("BindingKernelModel", "standing", "[I", true)
  | 19 => ("BindingKernelModel", "filters", "I", false)
  | 20 => ("BindingKernelModel", "bytes", "I", false)
  | 21 => ("BindingKernelModel", "frame", "[I", true)
  | 22 => ("BindingKernelModel", "frames", "[I", true)
  | 23 => ("BindingKernelModel", "frameLength", "[I", true)
  | 24 => ("BindingKernelModel", "frameByte", "[I", true)
  | 25 => ("BindingKernelModel", "a", "I", false)
  | 26 => ("BindingKernelModel", "x", "I", false)
  | 27 => ("BindingKernelModel", "holds", "[I", true)
  | 28 => ("BindingKernelModel", "word", "[I", true)
  | 29 => ("BindingKernelModel", "data", "[I", true)
  | 30 => ("BindingKernelModel", "entries", "[I", true)
  | 31 => ("BindingKernelModel", "keys", "[I", true)
  | _ => ("BindingKernelModel", "values", "[I", true)
def pY_10 : Nat → FieldType := fun k => match k with
  | 0 => .int
  | 1 => .int
  | 2 => .array .boolean
  | 3 => .array .boolean
  | 4 => .array .int
  | 5 => .array .int
  | 6 => .int
  | 7 => .int
  | 8 => .int
  | 9 => .array .int
  | 10 => .array .int
  | 11 => .array .int
  | 12 => .array .int
  | 13 => .array .int
  | 14 => .array .int
  | 15 => .array .int
  | 16 => .array .int
  | 17 => .array .int
  | 18 => .array .int
  | 19 => .int
  | 20 => .int
  | 21 => .array .int
  | 22 => .array .int
  | 23 => .array .int
  | 24 => .array .int
  | 25 => .int
  | 26 => .int
  | 27 => .array .int
  | 28 => .array .int
  | 29 => .array .int
  | 30 => .array .int
  | 31 => .array .int
  | _ => .array .int
theorem pN_10 : ∀ a, a < 33 → ∀ b, b < 33 → a ≠ b → (pT_10 a).2.1 ≠ (pT_10 b).2.1 := by decide +kernel
theorem pO_10 : ∀ k, k < 33 → parseFieldDescriptor (pT_10 k).2.2.1 = some (pY_10 k) := by decide +kernel
def px_cl : List vw_C := [("BindingKernel", pT_0, 6), ("BindingKernel$Memory", pT_1, 9), ("BindingKernel$Disk", pT_2, 3), ("BindingKernel$FilterOrder", pT_3, 2), ("BindingKernel$Frame", pT_4, 2), ("BindingKernel$Application", pT_5, 9), ("BindingKernel$PageList", pT_6, 3), ("BindingKernel$FrameQueue", pT_7, 3), ("BindingKernel$EntryTable", pT_8, 2), ("BindingKernel$Program", pT_9, 5), ("BindingKernelModel", pT_10, 33)]
def px_ts : List FieldType := [.int, .boolean, .object "BindingKernel$Application", .object "BindingKernel$Frame"]
def px_ao : List String := ["BindingKernel$Application", "BindingKernel$Frame"]
def px_nw : List Cond := [.fieldLinkNest "BindingKernel" 138 "BindingKernel$Memory" "size" "I" "BindingKernel", .fieldLinkNest "BindingKernel" 296 "BindingKernel$FilterOrder" "length" "I" "BindingKernel", .fieldLinkNest "BindingKernel$Program" 52 "BindingKernel$Frame" "length" "I" "BindingKernel", .fieldLinkNest "BindingKernel" 186 "BindingKernel$Frame" "length" "I" "BindingKernel", .fieldLinkNest "BindingKernel" 198 "BindingKernel$FrameQueue" "length" "I" "BindingKernel", .fieldLinkNest "BindingKernel" 286 "BindingKernel$EntryTable" "length" "I" "BindingKernel", .fieldLinkNest "BindingKernel" 171 "BindingKernel$Program" "length" "I" "BindingKernel", .fieldLinkNest "BindingKernel" 147 "BindingKernel$Application" "pagesTakenAway" "LBindingKernel$PageList;" "BindingKernel", .fieldLinkNest "BindingKernel" 194 "BindingKernel$Application" "frames" "LBindingKernel$FrameQueue;" "BindingKernel", .fieldLinkNest "BindingKernel" 230 "BindingKernel$Application" "table" "LBindingKernel$EntryTable;" "BindingKernel", .fieldLinkNest "BindingKernel" 161 "BindingKernel$Application" "draft" "LBindingKernel$Program;" "BindingKernel", .fieldLinkNest "BindingKernel" 300 "BindingKernel$Application" "filter" "LBindingKernel$Program;" "BindingKernel", .fieldLinkNest "BindingKernel" 62 "BindingKernel$Application" "isOpen" "Z" "BindingKernel", .fieldLinkNest "BindingKernel" 218 "BindingKernel$Application" "isMap" "Z" "BindingKernel", .fieldLinkNest "BindingKernel" 74 "BindingKernel$Application" "firstLink" "I" "BindingKernel", .fieldLinkNest "BindingKernel" 77 "BindingKernel$Application" "links" "I" "BindingKernel", .methodLinkNest "BindingKernel$Program" 26 ⟨"BindingKernel", "isIn", "(III)Z"⟩ "BindingKernel"]
theorem pI_0 : ∀ w ∈ u_ws "BindingKernel" pT_0 6, w ∈ px_tbl := fun w h => by
  have h1 : u_ws "BindingKernel" pT_0 6 = [236, 238, 240, 242, 244, 246].filterMap (fun i => tables_1[i]?) := by decide +kernel
  have h2 : (u_ws "BindingKernel" pT_0 6).all goodWord = true := by decide +kernel
  have h3 := List.all_eq_true.mp h2 w h
  rw [h1] at h
  obtain ⟨i, -, hi⟩ := List.mem_filterMap.mp h
  exact px_in i hi h3
theorem pI_1 : ∀ w ∈ u_ws "BindingKernel$Memory" pT_1 9, w ∈ px_tbl := fun w h => by
  have h1 : u_ws "BindingKernel$Memory" pT_1 9 = [47, 49, 51, 53, 55, 57, 59, 61, 63].filterMap (fun i => tables_1[i]?) := by decide +kernel
  have h2 : (u_ws "BindingKernel$Memory" pT_1 9).all goodWord = true := by decide +kernel
  have h3 := List.all_eq_true.mp h2 w h
  rw [h1] at h
  obtain ⟨i, -, hi⟩ := List.mem_filterMap.mp h
  exact px_in i hi h3
theorem pI_2 : ∀ w ∈ u_ws "BindingKernel$Disk" pT_2 3, w ∈ px_tbl := fun w h => by
  have h1 : u_ws "BindingKernel$Disk" pT_2 3 = [77, 79, 81].filterMap (fun i => tables_1[i]?) := by decide +kernel
  have h2 : (u_ws "BindingKernel$Disk" pT_2 3).all goodWord = true := by decide +kernel
  have h3 := List.all_eq_true.mp h2 w h
  rw [h1] at h
  obtain ⟨i, -, hi⟩ := List.mem_filterMap.mp h
  exact px_in i hi h3
theorem pI_3 : ∀ w ∈ u_ws "BindingKernel$FilterOrder" pT_3 2, w ∈ px_tbl := fun w h => by
  have h1 : u_ws "BindingKernel$FilterOrder" pT_3 2 = [93, 95].filterMap (fun i => tables_1[i]?) := by decide +kernel
  have h2 : (u_ws "BindingKernel$FilterOrder" pT_3 2).all goodWord = true := by decide +kernel
  have h3 := List.all_eq_true.mp h2 w h
  rw [h1] at h
  obtain ⟨i, -, hi⟩ := List.mem_filterMap.mp h
  exact px_in i hi h3
theorem pI_4 : ∀ w ∈ u_ws "BindingKernel$Frame" pT_4 2, w ∈ px_tbl := fun w h => by
  have h1 : u_ws "BindingKernel$Frame" pT_4 2 = [108, 110].filterMap (fun i => tables_1[i]?) := by decide +kernel
  have h2 : (u_ws "BindingKernel$Frame" pT_4 2).all goodWord = true := by decide +kernel
  have h3 := List.all_eq_true.mp h2 w h
  rw [h1] at h
  obtain ⟨i, -, hi⟩ := List.mem_filterMap.mp h
  exact px_in i hi h3
theorem pI_5 : ∀ w ∈ u_ws "BindingKernel$Application" pT_5 9, w ∈ px_tbl := fun w h => by
  have h1 : u_ws "BindingKernel$Application" pT_5 9 = [211, 213, 215, 217, 219, 221, 223, 225, 227].filterMap (fun i => tables_1[i]?) := by decide +kernel
  have h2 : (u_ws "BindingKernel$Application" pT_5 9).all goodWord = true := by decide +kernel
  have h3 := List.all_eq_true.mp h2 w h
  rw [h1] at h
  obtain ⟨i, -, hi⟩ := List.mem_filterMap.mp h
  exact px_in i hi h3
theorem pI_6 : ∀ w ∈ u_ws "BindingKernel$PageList" pT_6 3, w ∈ px_tbl := fun w h => by
  have h1 : u_ws "BindingKernel$PageList" pT_6 3 = [129, 131, 133].filterMap (fun i => tables_1[i]?) := by decide +kernel
  have h2 : (u_ws "BindingKernel$PageList" pT_6 3).all goodWord = true := by decide +kernel
  have h3 := List.all_eq_true.mp h2 w h
  rw [h1] at h
  obtain ⟨i, -, hi⟩ := List.mem_filterMap.mp h
  exact px_in i hi h3
theorem pI_7 : ∀ w ∈ u_ws "BindingKernel$FrameQueue" pT_7 3, w ∈ px_tbl := fun w h => by
  have h1 : u_ws "BindingKernel$FrameQueue" pT_7 3 = [149, 151, 153].filterMap (fun i => tables_1[i]?) := by decide +kernel
  have h2 : (u_ws "BindingKernel$FrameQueue" pT_7 3).all goodWord = true := by decide +kernel
  have h3 := List.all_eq_true.mp h2 w h
  rw [h1] at h
  obtain ⟨i, -, hi⟩ := List.mem_filterMap.mp h
  exact px_in i hi h3
theorem pI_8 : ∀ w ∈ u_ws "BindingKernel$EntryTable" pT_8 2, w ∈ px_tbl := fun w h => by
  have h1 : u_ws "BindingKernel$EntryTable" pT_8 2 = [165, 167].filterMap (fun i => tables_1[i]?) := by decide +kernel
  have h2 : (u_ws "BindingKernel$EntryTable" pT_8 2).all goodWord = true := by decide +kernel
  have h3 := List.all_eq_true.mp h2 w h
  rw [h1] at h
  obtain ⟨i, -, hi⟩ := List.mem_filterMap.mp h
  exact px_in i hi h3
theorem pI_9 : ∀ w ∈ u_ws "BindingKernel$Program" pT_9 5, w ∈ px_tbl := fun w h => by
  have h1 : u_ws "BindingKernel$Program" pT_9 5 = [182, 184, 186, 188, 190].filterMap (fun i => tables_1[i]?) := by decide +kernel
  have h2 : (u_ws "BindingKernel$Program" pT_9 5).all goodWord = true := by decide +kernel
  have h3 := List.all_eq_true.mp h2 w h
  rw [h1] at h
  obtain ⟨i, -, hi⟩ := List.mem_filterMap.mp h
  exact px_in i hi h3
theorem pI_10 : ∀ w ∈ u_ws "BindingKernelModel" pT_10 33, w ∈ px_tbl := fun w h => by
  have h1 : u_ws "BindingKernelModel" pT_10 33 = [706, 708, 710, 712, 714, 716, 718, 720, 722, 724, 726, 728, 730, 732, 734, 736, 738, 740, 742, 744, 746, 748, 750, 752, 754, 756, 758, 760, 762, 764, 766, 768, 770].filterMap (fun i => tables_1[i]?) := by decide +kernel
  have h2 : (u_ws "BindingKernelModel" pT_10 33).all goodWord = true := by decide +kernel
  have h3 := List.all_eq_true.mp h2 w h
  rw [h1] at h
  obtain ⟨i, -, hi⟩ := List.mem_filterMap.mp h
  exact px_in i hi h3
abbrev M_K_init : pz_M := (⟨"BindingKernel", "<init>", "(II)V"⟩, prog_1_method_1_code, 4, none)
abbrev M_K_clampSize : pz_M := (⟨"BindingKernel", "clampSize", "(I)I"⟩, prog_1_method_23_code, 1, some .int)
abbrev M_Math_min : pz_M := (⟨"java/lang/Math", "min", "(II)I"⟩, prog_13_method_69_code, 2, some .int)
abbrev M_Math_max : pz_M := (⟨"java/lang/Math", "max", "(II)I"⟩, prog_13_method_65_code, 2, some .int)
abbrev M_Memory_init : pz_M := (⟨"BindingKernel$Memory", "<init>", "(I)V"⟩, prog_8_method_1_code, 3, none)
abbrev M_Disk_init : pz_M := (⟨"BindingKernel$Disk", "<init>", "(I)V"⟩, prog_3_method_1_code, 3, none)
abbrev M_FilterOrder_init : pz_M := (⟨"BindingKernel$FilterOrder", "<init>", "()V"⟩, prog_5_method_1_code, 1, none)
abbrev M_Frame_init : pz_M := (⟨"BindingKernel$Frame", "<init>", "()V"⟩, prog_6_method_1_code, 1, none)
abbrev M_Application_init : pz_M := (⟨"BindingKernel$Application", "<init>", "()V"⟩, prog_2_method_1_code, 1, none)
abbrev M_PageList_init : pz_M := (⟨"BindingKernel$PageList", "<init>", "()V"⟩, prog_9_method_1_code, 1, none)
abbrev M_FrameQueue_init : pz_M := (⟨"BindingKernel$FrameQueue", "<init>", "()V"⟩, prog_7_method_1_code, 2, none)
abbrev M_EntryTable_init : pz_M := (⟨"BindingKernel$EntryTable", "<init>", "()V"⟩, prog_4_method_1_code, 1, none)
abbrev M_Program_init : pz_M := (⟨"BindingKernel$Program", "<init>", "()V"⟩, prog_10_method_1_code, 1, none)
abbrev M_K_open : pz_M := (⟨"BindingKernel", "open", "(IZII)I"⟩, prog_1_method_2_code, 6, some .int)
abbrev M_K_isApp : pz_M := (⟨"BindingKernel", "isApp", "(I)Z"⟩, prog_1_method_25_code, 1, some .boolean)
abbrev M_K_isIn : pz_M := (⟨"BindingKernel", "isIn", "(III)Z"⟩, prog_1_method_24_code, 3, some .boolean)
abbrev M_K_isLayout : pz_M := (⟨"BindingKernel", "isLayout", "(II)Z"⟩, prog_1_method_26_code, 2, some .boolean)
abbrev M_Disk_leastFree : pz_M := (⟨"BindingKernel$Disk", "leastFree", "()I"⟩, prog_3_method_5_code, 2, some .int)
abbrev M_Disk_isFree : pz_M := (⟨"BindingKernel$Disk", "isFree", "(I)Z"⟩, prog_3_method_4_code, 2, some .boolean)
abbrev M_Application_begin : pz_M := (⟨"BindingKernel$Application", "begin", "(ZII)V"⟩, prog_2_method_2_code, 4, none)
abbrev M_PageList_clear : pz_M := (⟨"BindingKernel$PageList", "clear", "()V"⟩, prog_9_method_2_code, 1, none)
abbrev M_Disk_bind : pz_M := (⟨"BindingKernel$Disk", "bind", "(IIII)V"⟩, prog_3_method_7_code, 7, none)
abbrev M_Disk_setWord : pz_M := (⟨"BindingKernel$Disk", "setWord", "(III)V"⟩, prog_3_method_12_code, 4, none)
abbrev M_K_close : pz_M := (⟨"BindingKernel", "close", "(I)I"⟩, prog_1_method_3_code, 2, some .int)
abbrev M_K_isOpen : pz_M := (⟨"BindingKernel", "isOpen", "(I)Z"⟩, prog_1_method_27_code, 2, some .boolean)
abbrev M_Memory_forget : pz_M := (⟨"BindingKernel$Memory", "forget", "(I)V"⟩, prog_8_method_9_code, 3, none)
abbrev M_Memory_setRight : pz_M := (⟨"BindingKernel$Memory", "setRight", "(III)V"⟩, prog_8_method_11_code, 4, none)
abbrev M_Memory_free : pz_M := (⟨"BindingKernel$Memory", "free", "(I)V"⟩, prog_8_method_8_code, 3, none)
abbrev M_Disk_freeAllOf : pz_M := (⟨"BindingKernel$Disk", "freeAllOf", "(I)V"⟩, prog_3_method_9_code, 3, none)
abbrev M_Disk_free : pz_M := (⟨"BindingKernel$Disk", "free", "(I)V"⟩, prog_3_method_8_code, 2, none)
abbrev M_FilterOrder_drop : pz_M := (⟨"BindingKernel$FilterOrder", "drop", "(I)V"⟩, prog_5_method_5_code, 4, none)
abbrev M_FilterOrder_placeOf : pz_M := (⟨"BindingKernel$FilterOrder", "placeOf", "(I)I"⟩, prog_5_method_3_code, 3, some .int)
abbrev M_Application_end : pz_M := (⟨"BindingKernel$Application", "end", "()V"⟩, prog_2_method_3_code, 1, none)
abbrev M_Program_clear : pz_M := (⟨"BindingKernel$Program", "clear", "()V"⟩, prog_10_method_5_code, 1, none)
abbrev M_FrameQueue_clear : pz_M := (⟨"BindingKernel$FrameQueue", "clear", "()V"⟩, prog_7_method_3_code, 1, none)
abbrev M_EntryTable_clear : pz_M := (⟨"BindingKernel$EntryTable", "clear", "()V"⟩, prog_4_method_2_code, 1, none)
abbrev M_K_take : pz_M := (⟨"BindingKernel", "take", "(I)I"⟩, prog_1_method_4_code, 3, some .int)
abbrev M_Memory_leastFree : pz_M := (⟨"BindingKernel$Memory", "leastFree", "()I"⟩, prog_8_method_4_code, 2, some .int)
abbrev M_Memory_bind : pz_M := (⟨"BindingKernel$Memory", "bind", "(II)V"⟩, prog_8_method_7_code, 4, none)
abbrev M_Memory_setWord : pz_M := (⟨"BindingKernel$Memory", "setWord", "(III)V"⟩, prog_8_method_13_code, 4, none)
abbrev M_K_release : pz_M := (⟨"BindingKernel", "release", "(II)I"⟩, prog_1_method_5_code, 3, some .int)
abbrev M_K_owns : pz_M := (⟨"BindingKernel", "owns", "(II)Z"⟩, prog_1_method_28_code, 3, some .boolean)
abbrev M_Memory_hasPage : pz_M := (⟨"BindingKernel$Memory", "hasPage", "(I)Z"⟩, prog_8_method_2_code, 2, some .boolean)
abbrev M_Memory_ownerOf : pz_M := (⟨"BindingKernel$Memory", "ownerOf", "(I)I"⟩, prog_8_method_3_code, 2, some .int)
abbrev M_K_share : pz_M := (⟨"BindingKernel", "share", "(IIII)I"⟩, prog_1_method_6_code, 5, some .int)
abbrev M_K_store : pz_M := (⟨"BindingKernel", "store", "(IIII)I"⟩, prog_1_method_7_code, 5, some .int)
abbrev M_K_mayUse : pz_M := (⟨"BindingKernel", "mayUse", "(IIII)Z"⟩, prog_1_method_29_code, 5, some .boolean)
abbrev M_Memory_rightOf : pz_M := (⟨"BindingKernel$Memory", "rightOf", "(II)I"⟩, prog_8_method_10_code, 3, some .int)
abbrev M_K_fetch : pz_M := (⟨"BindingKernel", "fetch", "(III)J"⟩, prog_1_method_8_code, 4, some .long)
abbrev M_Memory_wordOf : pz_M := (⟨"BindingKernel$Memory", "wordOf", "(II)I"⟩, prog_8_method_12_code, 3, some .int)
abbrev M_K_revoke : pz_M := (⟨"BindingKernel", "revoke", "(III)I"⟩, prog_1_method_9_code, 6, some .int)
abbrev M_Memory_pageToName : pz_M := (⟨"BindingKernel$Memory", "pageToName", "(I)I"⟩, prog_8_method_14_code, 5, some .int)
abbrev M_Memory_nameAfter : pz_M := (⟨"BindingKernel$Memory", "nameAfter", "(II)V"⟩, prog_8_method_15_code, 3, none)
abbrev M_K_tick : pz_M := (⟨"BindingKernel", "tick", "(I)I"⟩, prog_1_method_10_code, 4, some .int)
abbrev M_Memory_passTime : pz_M := (⟨"BindingKernel$Memory", "passTime", "(I)V"⟩, prog_8_method_16_code, 2, none)
abbrev M_Memory_firstDue : pz_M := (⟨"BindingKernel$Memory", "firstDue", "()I"⟩, prog_8_method_17_code, 3, some .int)
abbrev M_PageList_append : pz_M := (⟨"BindingKernel$PageList", "append", "(I)V"⟩, prog_9_method_3_code, 2, none)
abbrev M_K_op : pz_M := (⟨"BindingKernel", "op", "(IIIII)I"⟩, prog_1_method_11_code, 7, some .int)
abbrev M_Program_isInstruction : pz_M := (⟨"BindingKernel$Program", "isInstruction", "(IIII)Z"⟩, prog_10_method_2_code, 4, some .boolean)
abbrev M_Program_isTest : pz_M := (⟨"BindingKernel$Program", "isTest", "(I)Z"⟩, prog_10_method_3_code, 1, some .boolean)
abbrev M_Program_isFull : pz_M := (⟨"BindingKernel$Program", "isFull", "()Z"⟩, prog_10_method_4_code, 1, some .boolean)
abbrev M_Program_append : pz_M := (⟨"BindingKernel$Program", "append", "(IIII)V"⟩, prog_10_method_6_code, 5, none)
abbrev M_K_install : pz_M := (⟨"BindingKernel", "install", "(I)I"⟩, prog_1_method_12_code, 2, some .int)
abbrev M_Program_isSound : pz_M := (⟨"BindingKernel$Program", "isSound", "()Z"⟩, prog_10_method_7_code, 3, some .boolean)
abbrev M_FilterOrder_append : pz_M := (⟨"BindingKernel$FilterOrder", "append", "(I)V"⟩, prog_5_method_4_code, 2, none)
abbrev M_Application_draftBecomesFilter : pz_M := (⟨"BindingKernel$Application", "draftBecomesFilter", "()V"⟩, prog_2_method_5_code, 2, none)
abbrev M_K_push : pz_M := (⟨"BindingKernel", "push", "(I)I"⟩, prog_1_method_13_code, 2, some .int)
abbrev M_Frame_isFull : pz_M := (⟨"BindingKernel$Frame", "isFull", "()Z"⟩, prog_6_method_2_code, 1, some .boolean)
abbrev M_Frame_append : pz_M := (⟨"BindingKernel$Frame", "append", "(I)V"⟩, prog_6_method_4_code, 2, none)
abbrev M_K_arrive : pz_M := (⟨"BindingKernel", "arrive", "()I"⟩, prog_1_method_14_code, 3, some .int)
abbrev M_K_firstAccepting : pz_M := (⟨"BindingKernel", "firstAccepting", "()I"⟩, prog_1_method_30_code, 3, some .int)
abbrev M_FilterOrder_appAt : pz_M := (⟨"BindingKernel$FilterOrder", "appAt", "(I)I"⟩, prog_5_method_2_code, 2, some .int)
abbrev M_Program_accepts : pz_M := (⟨"BindingKernel$Program", "accepts", "(LBindingKernel$Frame;)Z"⟩, prog_10_method_8_code, 10, some .boolean)
abbrev M_Frame_hasByte : pz_M := (⟨"BindingKernel$Frame", "hasByte", "(J)Z"⟩, prog_6_method_5_code, 3, some .boolean)
abbrev M_Frame_byteAt : pz_M := (⟨"BindingKernel$Frame", "byteAt", "(I)I"⟩, prog_6_method_6_code, 2, some .int)
abbrev M_Program_reckon : pz_M := (⟨"BindingKernel$Program", "reckon", "(III)I"⟩, prog_10_method_9_code, 3, some .int)
abbrev M_Program_holds : pz_M := (⟨"BindingKernel$Program", "holds", "(III)Z"⟩, prog_10_method_10_code, 3, some .boolean)
abbrev M_K_deliver : pz_M := (⟨"BindingKernel", "deliver", "(I)I"⟩, prog_1_method_31_code, 2, some .int)
abbrev M_FrameQueue_isFull : pz_M := (⟨"BindingKernel$FrameQueue", "isFull", "()Z"⟩, prog_7_method_2_code, 1, some .boolean)
abbrev M_FrameQueue_append : pz_M := (⟨"BindingKernel$FrameQueue", "append", "(LBindingKernel$Frame;)V"⟩, prog_7_method_4_code, 2, none)
abbrev M_Frame_copyFrom : pz_M := (⟨"BindingKernel$Frame", "copyFrom", "(LBindingKernel$Frame;)V"⟩, prog_6_method_7_code, 2, none)
abbrev M_Frame_clear : pz_M := (⟨"BindingKernel$Frame", "clear", "()V"⟩, prog_6_method_3_code, 1, none)
abbrev M_K_got : pz_M := (⟨"BindingKernel", "got", "(II)I"⟩, prog_1_method_15_code, 4, some .int)
abbrev M_FrameQueue_oldest : pz_M := (⟨"BindingKernel$FrameQueue", "oldest", "()LBindingKernel$Frame;"⟩, prog_7_method_5_code, 1, some (.object "BindingKernel$Frame"))
abbrev M_K_next : pz_M := (⟨"BindingKernel", "next", "(I)I"⟩, prog_1_method_16_code, 2, some .int)
abbrev M_FrameQueue_dropOldest : pz_M := (⟨"BindingKernel$FrameQueue", "dropOldest", "()V"⟩, prog_7_method_6_code, 1, none)
abbrev M_K_write : pz_M := (⟨"BindingKernel", "write", "(IIII)I"⟩, prog_1_method_17_code, 5, some .int)
abbrev M_Disk_hasBlock : pz_M := (⟨"BindingKernel$Disk", "hasBlock", "(I)Z"⟩, prog_3_method_2_code, 2, some .boolean)
abbrev M_Disk_ownerOf : pz_M := (⟨"BindingKernel$Disk", "ownerOf", "(I)I"⟩, prog_3_method_3_code, 2, some .int)
abbrev M_Application_isLink : pz_M := (⟨"BindingKernel$Application", "isLink", "(I)Z"⟩, prog_2_method_4_code, 2, some .boolean)
abbrev M_K_relink : pz_M := (⟨"BindingKernel", "relink", "(IIII)I"⟩, prog_1_method_32_code, 8, some .int)
abbrev M_Disk_wordOf : pz_M := (⟨"BindingKernel$Disk", "wordOf", "(II)I"⟩, prog_3_method_11_code, 3, some .int)
abbrev M_Disk_namesBlocks : pz_M := (⟨"BindingKernel$Disk", "namesBlocks", "(III)Z"⟩, prog_3_method_10_code, 5, some .boolean)
abbrev M_K_put : pz_M := (⟨"BindingKernel", "put", "(IIIZ)I"⟩, prog_1_method_18_code, 7, some .int)
abbrev M_EntryTable_placeOf : pz_M := (⟨"BindingKernel$EntryTable", "placeOf", "(LBindingKernel$Disk;I)I"⟩, prog_4_method_3_code, 4, some .int)
abbrev M_EntryTable_keyAt : pz_M := (⟨"BindingKernel$EntryTable", "keyAt", "(LBindingKernel$Disk;I)I"⟩, prog_4_method_6_code, 3, some .int)
abbrev M_EntryTable_blockOf : pz_M := (⟨"BindingKernel$EntryTable", "blockOf", "(I)I"⟩, prog_4_method_9_code, 2, some .int)
abbrev M_EntryTable_keyWordOf : pz_M := (⟨"BindingKernel$EntryTable", "keyWordOf", "(I)I"⟩, prog_4_method_10_code, 1, some .int)
abbrev M_EntryTable_append : pz_M := (⟨"BindingKernel$EntryTable", "append", "(LBindingKernel$Disk;III)I"⟩, prog_4_method_4_code, 6, some .int)
abbrev M_EntryTable_setEntry : pz_M := (⟨"BindingKernel$EntryTable", "setEntry", "(LBindingKernel$Disk;III)V"⟩, prog_4_method_8_code, 5, none)
abbrev M_EntryTable_removeAt : pz_M := (⟨"BindingKernel$EntryTable", "removeAt", "(LBindingKernel$Disk;I)V"⟩, prog_4_method_5_code, 4, none)
abbrev M_EntryTable_valueAt : pz_M := (⟨"BindingKernel$EntryTable", "valueAt", "(LBindingKernel$Disk;I)I"⟩, prog_4_method_7_code, 3, some .int)
abbrev M_K_get : pz_M := (⟨"BindingKernel", "get", "(II)J"⟩, prog_1_method_19_code, 4, some .long)
abbrev M_Math_floorDiv : pz_M := (⟨"java/lang/Math", "floorDiv", "(II)I"⟩, prog_13_method_47_code, 3, some .int)
abbrev M_Math_floorMod : pz_M := (⟨"java/lang/Math", "floorMod", "(II)I"⟩, prog_13_method_50_code, 3, some .int)
abbrev M_K_holder : pz_M := (⟨"BindingKernel", "holder", "(II)I"⟩, prog_1_method_20_code, 4, some .int)
abbrev M_PageList_keeps : pz_M := (⟨"BindingKernel$PageList", "keeps", "(I)Z"⟩, prog_9_method_4_code, 2, some .boolean)
abbrev M_PageList_beforeLast : pz_M := (⟨"BindingKernel$PageList", "beforeLast", "(I)I"⟩, prog_9_method_5_code, 2, some .int)
abbrev M_K_count : pz_M := (⟨"BindingKernel", "count", "(II)I"⟩, prog_1_method_21_code, 3, some .int)
abbrev M_Memory_pagesOf : pz_M := (⟨"BindingKernel$Memory", "pagesOf", "(I)I"⟩, prog_8_method_5_code, 4, some .int)
abbrev M_Disk_blocksOf : pz_M := (⟨"BindingKernel$Disk", "blocksOf", "(I)I"⟩, prog_3_method_6_code, 4, some .int)
abbrev M_K_countOf : pz_M := (⟨"BindingKernel", "countOf", "(II)I"⟩, prog_1_method_22_code, 3, some .int)
abbrev M_Memory_namedPagesOf : pz_M := (⟨"BindingKernel$Memory", "namedPagesOf", "(I)I"⟩, prog_8_method_6_code, 4, some .int)
abbrev M_Law_cell : pz_M := (⟨"BindingKernelLaw", "cell", "([II)I"⟩, method_2_code, 2, some .int)
abbrev M_Mo_init : pz_M := (⟨"BindingKernelModel", "<init>", "(II)V"⟩, prog_12_method_1_code, 4, none)
abbrev M_Mo_open : pz_M := (⟨"BindingKernelModel", "open", "(IZII)I"⟩, prog_12_method_7_code, 6, some .int)
abbrev M_Mo_out : pz_M := (⟨"BindingKernelModel", "out", "(II)Z"⟩, prog_12_method_2_code, 3, some .boolean)
abbrev M_Mo_freeBlock : pz_M := (⟨"BindingKernelModel", "freeBlock", "()I"⟩, prog_12_method_4_code, 2, some .int)
abbrev M_Mo_renew : pz_M := (⟨"BindingKernelModel", "renew", "(II)V"⟩, prog_12_method_5_code, 4, none)
abbrev M_Mo_isLink : pz_M := (⟨"BindingKernelModel", "isLink", "(II)Z"⟩, prog_12_method_6_code, 3, some .boolean)
abbrev M_Mo_close : pz_M := (⟨"BindingKernelModel", "close", "(I)I"⟩, prog_12_method_8_code, 3, some .int)
abbrev M_Mo_shut : pz_M := (⟨"BindingKernelModel", "shut", "(I)Z"⟩, prog_12_method_3_code, 2, some .boolean)
abbrev M_Mo_free : pz_M := (⟨"BindingKernelModel", "free", "(I)V"⟩, prog_12_method_9_code, 3, none)
abbrev M_Mo_withdraw : pz_M := (⟨"BindingKernelModel", "withdraw", "(I)V"⟩, prog_12_method_18_code, 4, none)
abbrev M_Mo_take : pz_M := (⟨"BindingKernelModel", "take", "(I)I"⟩, prog_12_method_10_code, 4, some .int)
abbrev M_Mo_release : pz_M := (⟨"BindingKernelModel", "release", "(II)I"⟩, prog_12_method_11_code, 3, some .int)
abbrev M_Mo_share : pz_M := (⟨"BindingKernelModel", "share", "(IIII)I"⟩, prog_12_method_12_code, 5, some .int)
abbrev M_Mo_store : pz_M := (⟨"BindingKernelModel", "store", "(IIII)I"⟩, prog_12_method_13_code, 5, some .int)
abbrev M_Mo_fetch : pz_M := (⟨"BindingKernelModel", "fetch", "(III)J"⟩, prog_12_method_14_code, 4, some .long)
abbrev M_Mo_revoke : pz_M := (⟨"BindingKernelModel", "revoke", "(III)I"⟩, prog_12_method_15_code, 9, some .int)
abbrev M_Mo_tick : pz_M := (⟨"BindingKernelModel", "tick", "(I)I"⟩, prog_12_method_16_code, 7, some .int)
abbrev M_Mo_op : pz_M := (⟨"BindingKernelModel", "op", "(IIIII)I"⟩, prog_12_method_17_code, 7, some .int)
abbrev M_Mo_install : pz_M := (⟨"BindingKernelModel", "install", "(I)I"⟩, prog_12_method_20_code, 5, some .int)
abbrev M_Mo_sound : pz_M := (⟨"BindingKernelModel", "sound", "(I)Z"⟩, prog_12_method_19_code, 5, some .boolean)
abbrev M_Mo_push : pz_M := (⟨"BindingKernelModel", "push", "(I)I"⟩, prog_12_method_21_code, 2, some .int)
abbrev M_Mo_arrive : pz_M := (⟨"BindingKernelModel", "arrive", "()I"⟩, prog_12_method_24_code, 5, some .int)
abbrev M_Mo_accepts : pz_M := (⟨"BindingKernelModel", "accepts", "(I)Z"⟩, prog_12_method_23_code, 7, some .boolean)
abbrev M_Mo_plain : pz_M := (⟨"BindingKernelModel", "plain", "(II)Z"⟩, prog_12_method_22_code, 5, some .boolean)
abbrev M_Mo_got : pz_M := (⟨"BindingKernelModel", "got", "(II)I"⟩, prog_12_method_25_code, 3, some .int)
abbrev M_Mo_next : pz_M := (⟨"BindingKernelModel", "next", "(I)I"⟩, prog_12_method_26_code, 3, some .int)
abbrev M_Mo_write : pz_M := (⟨"BindingKernelModel", "write", "(IIII)I"⟩, prog_12_method_28_code, 7, some .int)
abbrev M_Mo_hasLinks : pz_M := (⟨"BindingKernelModel", "hasLinks", "(II)Z"⟩, prog_12_method_27_code, 4, some .boolean)
abbrev M_Mo_put : pz_M := (⟨"BindingKernelModel", "put", "(IIIZ)I"⟩, prog_12_method_30_code, 8, some .int)
abbrev M_Mo_entryOf : pz_M := (⟨"BindingKernelModel", "entryOf", "(II)I"⟩, prog_12_method_29_code, 4, some .int)
abbrev M_Mo_get : pz_M := (⟨"BindingKernelModel", "get", "(II)J"⟩, prog_12_method_31_code, 4, some .long)
abbrev M_Mo_holder : pz_M := (⟨"BindingKernelModel", "holder", "(II)I"⟩, prog_12_method_32_code, 3, some .int)
abbrev M_Mo_count : pz_M := (⟨"BindingKernelModel", "count", "(II)I"⟩, prog_12_method_35_code, 4, some .int)
abbrev M_Mo_pagesOf : pz_M := (⟨"BindingKernelModel", "pagesOf", "(IZ)I"⟩, prog_12_method_33_code, 5, some .int)
abbrev M_Mo_blocksOf : pz_M := (⟨"BindingKernelModel", "blocksOf", "(I)I"⟩, prog_12_method_34_code, 4, some .int)
abbrev M_Law_law : pz_M := (⟨"BindingKernelLaw", "law", "([I)Z"⟩, code, maxLocals, ret)
