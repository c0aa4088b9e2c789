/-! what the instructions link -/
theorem l_Memory_9 : Cond.fieldLink "BindingKernel$Memory" 9 "BindingKernel$Memory" "size" "I" ∈ px_tbl := px_in 37 (by decide +kernel) rfl
theorem f_Memory_9 : pz_fd "BindingKernel$Memory" 9 1 0 := ⟨_, pT_1, 9, rfl, by decide, pI_1, Or.inl l_Memory_9⟩
theorem g_Memory_9 : pz_fw "BindingKernel$Memory" 9 1 0 (.int) true := ⟨_, pT_1, 9, pY_1, rfl, by decide, pI_1, Or.inl l_Memory_9, pO_1, pN_1, rfl, by decide +kernel, fun _ => rfl⟩
theorem l_Memory_15 : Cond.fieldLink "BindingKernel$Memory" 15 "BindingKernel$Memory" "words" "[I" ∈ px_tbl := px_in 39 (by decide +kernel) rfl
theorem f_Memory_15 : pz_fd "BindingKernel$Memory" 15 1 1 := ⟨_, pT_1, 9, rfl, by decide, pI_1, Or.inl l_Memory_15⟩
theorem g_Memory_15 : pz_fw "BindingKernel$Memory" 15 1 1 (.array .int) true := ⟨_, pT_1, 9, pY_1, rfl, by decide, pI_1, Or.inl l_Memory_15, pO_1, pN_1, rfl, by decide +kernel, fun _ => rfl⟩
theorem l_Memory_19 : Cond.fieldLink "BindingKernel$Memory" 19 "BindingKernel$Memory" "owners" "[I" ∈ px_tbl := px_in 40 (by decide +kernel) rfl
theorem f_Memory_19 : pz_fd "BindingKernel$Memory" 19 1 2 := ⟨_, pT_1, 9, rfl, by decide, pI_1, Or.inl l_Memory_19⟩
theorem g_Memory_19 : pz_fw "BindingKernel$Memory" 19 1 2 (.array .int) true := ⟨_, pT_1, 9, pY_1, rfl, by decide, pI_1, Or.inl l_Memory_19, pO_1, pN_1, rfl, by decide +kernel, fun _ => rfl⟩
theorem l_Memory_22 : Cond.fieldLink "BindingKernel$Memory" 22 "BindingKernel$Memory" "rights" "[I" ∈ px_tbl := px_in 41 (by decide +kernel) rfl
theorem f_Memory_22 : pz_fd "BindingKernel$Memory" 22 1 3 := ⟨_, pT_1, 9, rfl, by decide, pI_1, Or.inl l_Memory_22⟩
theorem g_Memory_22 : pz_fw "BindingKernel$Memory" 22 1 3 (.array .int) true := ⟨_, pT_1, 9, pY_1, rfl, by decide, pI_1, Or.inl l_Memory_22, pO_1, pN_1, rfl, by decide +kernel, fun _ => rfl⟩
theorem l_Memory_25 : Cond.fieldLink "BindingKernel$Memory" 25 "BindingKernel$Memory" "takings" "[I" ∈ px_tbl := px_in 42 (by decide +kernel) rfl
theorem f_Memory_25 : pz_fd "BindingKernel$Memory" 25 1 4 := ⟨_, pT_1, 9, rfl, by decide, pI_1, Or.inl l_Memory_25⟩
theorem g_Memory_25 : pz_fw "BindingKernel$Memory" 25 1 4 (.array .int) true := ⟨_, pT_1, 9, pY_1, rfl, by decide, pI_1, Or.inl l_Memory_25, pO_1, pN_1, rfl, by decide +kernel, fun _ => rfl⟩
theorem l_Memory_28 : Cond.fieldLink "BindingKernel$Memory" 28 "BindingKernel$Memory" "named" "[Z" ∈ px_tbl := px_in 43 (by decide +kernel) rfl
theorem f_Memory_28 : pz_fd "BindingKernel$Memory" 28 1 5 := ⟨_, pT_1, 9, rfl, by decide, pI_1, Or.inl l_Memory_28⟩
theorem g_Memory_28 : pz_fw "BindingKernel$Memory" 28 1 5 (.array .boolean) true := ⟨_, pT_1, 9, pY_1, rfl, by decide, pI_1, Or.inl l_Memory_28, pO_1, pN_1, rfl, by decide +kernel, fun _ => rfl⟩
theorem l_Memory_32 : Cond.fieldLink "BindingKernel$Memory" 32 "BindingKernel$Memory" "deadlines" "[I" ∈ px_tbl := px_in 44 (by decide +kernel) rfl
theorem f_Memory_32 : pz_fd "BindingKernel$Memory" 32 1 6 := ⟨_, pT_1, 9, rfl, by decide, pI_1, Or.inl l_Memory_32⟩
theorem g_Memory_32 : pz_fw "BindingKernel$Memory" 32 1 6 (.array .int) true := ⟨_, pT_1, 9, pY_1, rfl, by decide, pI_1, Or.inl l_Memory_32, pO_1, pN_1, rfl, by decide +kernel, fun _ => rfl⟩
theorem l_Memory_35 : Cond.fieldLink "BindingKernel$Memory" 35 "BindingKernel$Memory" "takingsSoFar" "I" ∈ px_tbl := px_in 45 (by decide +kernel) rfl
theorem f_Memory_35 : pz_fd "BindingKernel$Memory" 35 1 7 := ⟨_, pT_1, 9, rfl, by decide, pI_1, Or.inl l_Memory_35⟩
theorem g_Memory_35 : pz_fw "BindingKernel$Memory" 35 1 7 (.int) false := ⟨_, pT_1, 9, pY_1, rfl, by decide, pI_1, Or.inl l_Memory_35, pO_1, pN_1, rfl, by decide +kernel, fun h => by cases h⟩
theorem l_Memory_38 : Cond.fieldLink "BindingKernel$Memory" 38 "BindingKernel$Memory" "clock" "I" ∈ px_tbl := px_in 46 (by decide +kernel) rfl
theorem f_Memory_38 : pz_fd "BindingKernel$Memory" 38 1 8 := ⟨_, pT_1, 9, rfl, by decide, pI_1, Or.inl l_Memory_38⟩
theorem g_Memory_38 : pz_fw "BindingKernel$Memory" 38 1 8 (.int) false := ⟨_, pT_1, 9, pY_1, rfl, by decide, pI_1, Or.inl l_Memory_38, pO_1, pN_1, rfl, by decide +kernel, fun h => by cases h⟩
theorem l_Disk_9 : Cond.fieldLink "BindingKernel$Disk" 9 "BindingKernel$Disk" "size" "I" ∈ px_tbl := px_in 74 (by decide +kernel) rfl
theorem f_Disk_9 : pz_fd "BindingKernel$Disk" 9 2 0 := ⟨_, pT_2, 3, rfl, by decide, pI_2, Or.inl l_Disk_9⟩
theorem g_Disk_9 : pz_fw "BindingKernel$Disk" 9 2 0 (.int) true := ⟨_, pT_2, 3, pY_2, rfl, by decide, pI_2, Or.inl l_Disk_9, pO_2, pN_2, rfl, by decide +kernel, fun _ => rfl⟩
theorem l_Disk_15 : Cond.fieldLink "BindingKernel$Disk" 15 "BindingKernel$Disk" "words" "[I" ∈ px_tbl := px_in 75 (by decide +kernel) rfl
theorem f_Disk_15 : pz_fd "BindingKernel$Disk" 15 2 1 := ⟨_, pT_2, 3, rfl, by decide, pI_2, Or.inl l_Disk_15⟩
theorem g_Disk_15 : pz_fw "BindingKernel$Disk" 15 2 1 (.array .int) true := ⟨_, pT_2, 3, pY_2, rfl, by decide, pI_2, Or.inl l_Disk_15, pO_2, pN_2, rfl, by decide +kernel, fun _ => rfl⟩
theorem l_Disk_19 : Cond.fieldLink "BindingKernel$Disk" 19 "BindingKernel$Disk" "owners" "[I" ∈ px_tbl := px_in 76 (by decide +kernel) rfl
theorem f_Disk_19 : pz_fd "BindingKernel$Disk" 19 2 2 := ⟨_, pT_2, 3, rfl, by decide, pI_2, Or.inl l_Disk_19⟩
theorem g_Disk_19 : pz_fw "BindingKernel$Disk" 19 2 2 (.array .int) true := ⟨_, pT_2, 3, pY_2, rfl, by decide, pI_2, Or.inl l_Disk_19, pO_2, pN_2, rfl, by decide +kernel, fun _ => rfl⟩
theorem l_FilterOrder_9 : Cond.fieldLink "BindingKernel$FilterOrder" 9 "BindingKernel$FilterOrder" "appsInOrder" "[I" ∈ px_tbl := px_in 90 (by decide +kernel) rfl
theorem f_FilterOrder_9 : pz_fd "BindingKernel$FilterOrder" 9 3 0 := ⟨_, pT_3, 2, rfl, by decide, pI_3, Or.inl l_FilterOrder_9⟩
theorem g_FilterOrder_9 : pz_fw "BindingKernel$FilterOrder" 9 3 0 (.array .int) true := ⟨_, pT_3, 2, pY_3, rfl, by decide, pI_3, Or.inl l_FilterOrder_9, pO_3, pN_3, rfl, by decide +kernel, fun _ => rfl⟩
theorem l_FilterOrder_15 : Cond.fieldLink "BindingKernel$FilterOrder" 15 "BindingKernel$FilterOrder" "length" "I" ∈ px_tbl := px_in 91 (by decide +kernel) rfl
theorem f_FilterOrder_15 : pz_fd "BindingKernel$FilterOrder" 15 3 1 := ⟨_, pT_3, 2, rfl, by decide, pI_3, Or.inl l_FilterOrder_15⟩
theorem g_FilterOrder_15 : pz_fw "BindingKernel$FilterOrder" 15 3 1 (.int) false := ⟨_, pT_3, 2, pY_3, rfl, by decide, pI_3, Or.inl l_FilterOrder_15, pO_3, pN_3, rfl, by decide +kernel, fun h => by cases h⟩
theorem l_Frame_9 : Cond.fieldLink "BindingKernel$Frame" 9 "BindingKernel$Frame" "bytes" "[I" ∈ px_tbl := px_in 104 (by decide +kernel) rfl
theorem f_Frame_9 : pz_fd "BindingKernel$Frame" 9 4 0 := ⟨_, pT_4, 2, rfl, by decide, pI_4, Or.inl l_Frame_9⟩
theorem g_Frame_9 : pz_fw "BindingKernel$Frame" 9 4 0 (.array .int) true := ⟨_, pT_4, 2, pY_4, rfl, by decide, pI_4, Or.inl l_Frame_9, pO_4, pN_4, rfl, by decide +kernel, fun _ => rfl⟩
theorem l_Frame_13 : Cond.fieldLink "BindingKernel$Frame" 13 "BindingKernel$Frame" "length" "I" ∈ px_tbl := px_in 105 (by decide +kernel) rfl
theorem f_Frame_13 : pz_fd "BindingKernel$Frame" 13 4 1 := ⟨_, pT_4, 2, rfl, by decide, pI_4, Or.inl l_Frame_13⟩
theorem g_Frame_13 : pz_fw "BindingKernel$Frame" 13 4 1 (.int) false := ⟨_, pT_4, 2, pY_4, rfl, by decide, pI_4, Or.inl l_Frame_13, pO_4, pN_4, rfl, by decide +kernel, fun h => by cases h⟩
theorem l_PageList_9 : Cond.fieldLink "BindingKernel$PageList" 9 "BindingKernel$PageList" "pages" "[I" ∈ px_tbl := px_in 126 (by decide +kernel) rfl
theorem f_PageList_9 : pz_fd "BindingKernel$PageList" 9 6 0 := ⟨_, pT_6, 3, rfl, by decide, pI_6, Or.inl l_PageList_9⟩
theorem g_PageList_9 : pz_fw "BindingKernel$PageList" 9 6 0 (.array .int) true := ⟨_, pT_6, 3, pY_6, rfl, by decide, pI_6, Or.inl l_PageList_9, pO_6, pN_6, rfl, by decide +kernel, fun _ => rfl⟩
theorem l_PageList_13 : Cond.fieldLink "BindingKernel$PageList" 13 "BindingKernel$PageList" "length" "I" ∈ px_tbl := px_in 127 (by decide +kernel) rfl
theorem f_PageList_13 : pz_fd "BindingKernel$PageList" 13 6 1 := ⟨_, pT_6, 3, rfl, by decide, pI_6, Or.inl l_PageList_13⟩
theorem g_PageList_13 : pz_fw "BindingKernel$PageList" 13 6 1 (.int) false := ⟨_, pT_6, 3, pY_6, rfl, by decide, pI_6, Or.inl l_PageList_13, pO_6, pN_6, rfl, by decide +kernel, fun h => by cases h⟩
theorem l_PageList_17 : Cond.fieldLink "BindingKernel$PageList" 17 "BindingKernel$PageList" "end" "I" ∈ px_tbl := px_in 128 (by decide +kernel) rfl
theorem f_PageList_17 : pz_fd "BindingKernel$PageList" 17 6 2 := ⟨_, pT_6, 3, rfl, by decide, pI_6, Or.inl l_PageList_17⟩
theorem g_PageList_17 : pz_fw "BindingKernel$PageList" 17 6 2 (.int) false := ⟨_, pT_6, 3, pY_6, rfl, by decide, pI_6, Or.inl l_PageList_17, pO_6, pN_6, rfl, by decide +kernel, fun h => by cases h⟩
theorem l_FrameQueue_11 : Cond.fieldLink "BindingKernel$FrameQueue" 11 "BindingKernel$FrameQueue" "frames" "[LBindingKernel$Frame;" ∈ px_tbl := px_in 145 (by decide +kernel) rfl
theorem f_FrameQueue_11 : pz_fd "BindingKernel$FrameQueue" 11 7 0 := ⟨_, pT_7, 3, rfl, by decide, pI_7, Or.inl l_FrameQueue_11⟩
theorem g_FrameQueue_11 : pz_fw "BindingKernel$FrameQueue" 11 7 0 (.array (.object "BindingKernel$Frame")) true := ⟨_, pT_7, 3, pY_7, rfl, by decide, pI_7, Or.inl l_FrameQueue_11, pO_7, pN_7, rfl, by decide +kernel, fun _ => rfl⟩
theorem l_FrameQueue_15 : Cond.fieldLink "BindingKernel$FrameQueue" 15 "BindingKernel$FrameQueue" "first" "I" ∈ px_tbl := px_in 146 (by decide +kernel) rfl
theorem f_FrameQueue_15 : pz_fd "BindingKernel$FrameQueue" 15 7 1 := ⟨_, pT_7, 3, rfl, by decide, pI_7, Or.inl l_FrameQueue_15⟩
theorem g_FrameQueue_15 : pz_fw "BindingKernel$FrameQueue" 15 7 1 (.int) false := ⟨_, pT_7, 3, pY_7, rfl, by decide, pI_7, Or.inl l_FrameQueue_15, pO_7, pN_7, rfl, by decide +kernel, fun h => by cases h⟩
theorem l_FrameQueue_19 : Cond.fieldLink "BindingKernel$FrameQueue" 19 "BindingKernel$FrameQueue" "length" "I" ∈ px_tbl := px_in 147 (by decide +kernel) rfl
theorem f_FrameQueue_19 : pz_fd "BindingKernel$FrameQueue" 19 7 2 := ⟨_, pT_7, 3, rfl, by decide, pI_7, Or.inl l_FrameQueue_19⟩
theorem g_FrameQueue_19 : pz_fw "BindingKernel$FrameQueue" 19 7 2 (.int) false := ⟨_, pT_7, 3, pY_7, rfl, by decide, pI_7, Or.inl l_FrameQueue_19, pO_7, pN_7, rfl, by decide +kernel, fun h => by cases h⟩
theorem l_EntryTable_11 : Cond.fieldLink "BindingKernel$EntryTable" 11 "BindingKernel$EntryTable" "dataBlocks" "[I" ∈ px_tbl := px_in 162 (by decide +kernel) rfl
theorem f_EntryTable_11 : pz_fd "BindingKernel$EntryTable" 11 8 0 := ⟨_, pT_8, 2, rfl, by decide, pI_8, Or.inl l_EntryTable_11⟩
theorem g_EntryTable_11 : pz_fw "BindingKernel$EntryTable" 11 8 0 (.array .int) true := ⟨_, pT_8, 2, pY_8, rfl, by decide, pI_8, Or.inl l_EntryTable_11, pO_8, pN_8, rfl, by decide +kernel, fun _ => rfl⟩
theorem l_EntryTable_15 : Cond.fieldLink "BindingKernel$EntryTable" 15 "BindingKernel$EntryTable" "length" "I" ∈ px_tbl := px_in 163 (by decide +kernel) rfl
theorem f_EntryTable_15 : pz_fd "BindingKernel$EntryTable" 15 8 1 := ⟨_, pT_8, 2, rfl, by decide, pI_8, Or.inl l_EntryTable_15⟩
theorem g_EntryTable_15 : pz_fw "BindingKernel$EntryTable" 15 8 1 (.int) false := ⟨_, pT_8, 2, pY_8, rfl, by decide, pI_8, Or.inl l_EntryTable_15, pO_8, pN_8, rfl, by decide +kernel, fun h => by cases h⟩
theorem l_Program_9 : Cond.fieldLink "BindingKernel$Program" 9 "BindingKernel$Program" "codes" "[I" ∈ px_tbl := px_in 176 (by decide +kernel) rfl
theorem f_Program_9 : pz_fd "BindingKernel$Program" 9 9 0 := ⟨_, pT_9, 5, rfl, by decide, pI_9, Or.inl l_Program_9⟩
theorem g_Program_9 : pz_fw "BindingKernel$Program" 9 9 0 (.array .int) true := ⟨_, pT_9, 5, pY_9, rfl, by decide, pI_9, Or.inl l_Program_9, pO_9, pN_9, rfl, by decide +kernel, fun _ => rfl⟩
theorem l_Program_13 : Cond.fieldLink "BindingKernel$Program" 13 "BindingKernel$Program" "operands" "[I" ∈ px_tbl := px_in 177 (by decide +kernel) rfl
theorem f_Program_13 : pz_fd "BindingKernel$Program" 13 9 1 := ⟨_, pT_9, 5, rfl, by decide, pI_9, Or.inl l_Program_13⟩
theorem g_Program_13 : pz_fw "BindingKernel$Program" 13 9 1 (.array .int) true := ⟨_, pT_9, 5, pY_9, rfl, by decide, pI_9, Or.inl l_Program_13, pO_9, pN_9, rfl, by decide +kernel, fun _ => rfl⟩
theorem l_Program_16 : Cond.fieldLink "BindingKernel$Program" 16 "BindingKernel$Program" "yeses" "[I" ∈ px_tbl := px_in 178 (by decide +kernel) rfl
theorem f_Program_16 : pz_fd "BindingKernel$Program" 16 9 2 := ⟨_, pT_9, 5, rfl, by decide, pI_9, Or.inl l_Program_16⟩
theorem g_Program_16 : pz_fw "BindingKernel$Program" 16 9 2 (.array .int) true := ⟨_, pT_9, 5, pY_9, rfl, by decide, pI_9, Or.inl l_Program_16, pO_9, pN_9, rfl, by decide +kernel, fun _ => rfl⟩
theorem l_Program_19 : Cond.fieldLink "BindingKernel$Program" 19 "BindingKernel$Program" "noes" "[I" ∈ px_tbl := px_in 179 (by decide +kernel) rfl
theorem f_Program_19 : pz_fd "BindingKernel$Program" 19 9 3 := ⟨_, pT_9, 5, rfl, by decide, pI_9, Or.inl l_Program_19⟩
theorem g_Program_19 : pz_fw "BindingKernel$Program" 19 9 3 (.array .int) true := ⟨_, pT_9, 5, pY_9, rfl, by decide, pI_9, Or.inl l_Program_19, pO_9, pN_9, rfl, by decide +kernel, fun _ => rfl⟩
theorem l_Program_22 : Cond.fieldLink "BindingKernel$Program" 22 "BindingKernel$Program" "length" "I" ∈ px_tbl := px_in 180 (by decide +kernel) rfl
theorem f_Program_22 : pz_fd "BindingKernel$Program" 22 9 4 := ⟨_, pT_9, 5, rfl, by decide, pI_9, Or.inl l_Program_22⟩
theorem g_Program_22 : pz_fw "BindingKernel$Program" 22 9 4 (.int) false := ⟨_, pT_9, 5, pY_9, rfl, by decide, pI_9, Or.inl l_Program_22, pO_9, pN_9, rfl, by decide +kernel, fun h => by cases h⟩
theorem l_Application_10 : Cond.fieldLink "BindingKernel$Application" 10 "BindingKernel$Application" "pagesTakenAway" "LBindingKernel$PageList;" ∈ px_tbl := px_in 193 (by decide +kernel) rfl
theorem f_Application_10 : pz_fd "BindingKernel$Application" 10 5 0 := ⟨_, pT_5, 9, rfl, by decide, pI_5, Or.inl l_Application_10⟩
theorem g_Application_10 : pz_fw "BindingKernel$Application" 10 5 0 (.object "BindingKernel$PageList") true := ⟨_, pT_5, 9, pY_5, rfl, by decide, pI_5, Or.inl l_Application_10, pO_5, pN_5, rfl, by decide +kernel, fun _ => rfl⟩
theorem l_Application_19 : Cond.fieldLink "BindingKernel$Application" 19 "BindingKernel$Application" "frames" "LBindingKernel$FrameQueue;" ∈ px_tbl := px_in 195 (by decide +kernel) rfl
theorem f_Application_19 : pz_fd "BindingKernel$Application" 19 5 1 := ⟨_, pT_5, 9, rfl, by decide, pI_5, Or.inl l_Application_19⟩
theorem g_Application_19 : pz_fw "BindingKernel$Application" 19 5 1 (.object "BindingKernel$FrameQueue") true := ⟨_, pT_5, 9, pY_5, rfl, by decide, pI_5, Or.inl l_Application_19, pO_5, pN_5, rfl, by decide +kernel, fun _ => rfl⟩
theorem l_Application_26 : Cond.fieldLink "BindingKernel$Application" 26 "BindingKernel$Application" "table" "LBindingKernel$EntryTable;" ∈ px_tbl := px_in 197 (by decide +kernel) rfl
theorem f_Application_26 : pz_fd "BindingKernel$Application" 26 5 2 := ⟨_, pT_5, 9, rfl, by decide, pI_5, Or.inl l_Application_26⟩
theorem g_Application_26 : pz_fw "BindingKernel$Application" 26 5 2 (.object "BindingKernel$EntryTable") true := ⟨_, pT_5, 9, pY_5, rfl, by decide, pI_5, Or.inl l_Application_26, pO_5, pN_5, rfl, by decide +kernel, fun _ => rfl⟩
theorem l_Application_33 : Cond.fieldLink "BindingKernel$Application" 33 "BindingKernel$Application" "draft" "LBindingKernel$Program;" ∈ px_tbl := px_in 199 (by decide +kernel) rfl
theorem f_Application_33 : pz_fd "BindingKernel$Application" 33 5 3 := ⟨_, pT_5, 9, rfl, by decide, pI_5, Or.inl l_Application_33⟩
theorem g_Application_33 : pz_fw "BindingKernel$Application" 33 5 3 (.object "BindingKernel$Program") false := ⟨_, pT_5, 9, pY_5, rfl, by decide, pI_5, Or.inl l_Application_33, pO_5, pN_5, rfl, by decide +kernel, fun h => by cases h⟩
theorem l_Application_37 : Cond.fieldLink "BindingKernel$Application" 37 "BindingKernel$Application" "filter" "LBindingKernel$Program;" ∈ px_tbl := px_in 201 (by decide +kernel) rfl
theorem f_Application_37 : pz_fd "BindingKernel$Application" 37 5 4 := ⟨_, pT_5, 9, rfl, by decide, pI_5, Or.inl l_Application_37⟩
theorem g_Application_37 : pz_fw "BindingKernel$Application" 37 5 4 (.object "BindingKernel$Program") false := ⟨_, pT_5, 9, pY_5, rfl, by decide, pI_5, Or.inl l_Application_37, pO_5, pN_5, rfl, by decide +kernel, fun h => by cases h⟩
theorem l_Application_40 : Cond.fieldLink "BindingKernel$Application" 40 "BindingKernel$Application" "isOpen" "Z" ∈ px_tbl := px_in 203 (by decide +kernel) rfl
theorem f_Application_40 : pz_fd "BindingKernel$Application" 40 5 5 := ⟨_, pT_5, 9, rfl, by decide, pI_5, Or.inl l_Application_40⟩
theorem g_Application_40 : pz_fw "BindingKernel$Application" 40 5 5 (.boolean) false := ⟨_, pT_5, 9, pY_5, rfl, by decide, pI_5, Or.inl l_Application_40, pO_5, pN_5, rfl, by decide +kernel, fun h => by cases h⟩
theorem l_Application_44 : Cond.fieldLink "BindingKernel$Application" 44 "BindingKernel$Application" "isMap" "Z" ∈ px_tbl := px_in 205 (by decide +kernel) rfl
theorem f_Application_44 : pz_fd "BindingKernel$Application" 44 5 6 := ⟨_, pT_5, 9, rfl, by decide, pI_5, Or.inl l_Application_44⟩
theorem g_Application_44 : pz_fw "BindingKernel$Application" 44 5 6 (.boolean) false := ⟨_, pT_5, 9, pY_5, rfl, by decide, pI_5, Or.inl l_Application_44, pO_5, pN_5, rfl, by decide +kernel, fun h => by cases h⟩
theorem l_Application_47 : Cond.fieldLink "BindingKernel$Application" 47 "BindingKernel$Application" "firstLink" "I" ∈ px_tbl := px_in 207 (by decide +kernel) rfl
theorem f_Application_47 : pz_fd "BindingKernel$Application" 47 5 7 := ⟨_, pT_5, 9, rfl, by decide, pI_5, Or.inl l_Application_47⟩
theorem g_Application_47 : pz_fw "BindingKernel$Application" 47 5 7 (.int) false := ⟨_, pT_5, 9, pY_5, rfl, by decide, pI_5, Or.inl l_Application_47, pO_5, pN_5, rfl, by decide +kernel, fun h => by cases h⟩
theorem l_Application_51 : Cond.fieldLink "BindingKernel$Application" 51 "BindingKernel$Application" "links" "I" ∈ px_tbl := px_in 209 (by decide +kernel) rfl
theorem f_Application_51 : pz_fd "BindingKernel$Application" 51 5 8 := ⟨_, pT_5, 9, rfl, by decide, pI_5, Or.inl l_Application_51⟩
theorem g_Application_51 : pz_fw "BindingKernel$Application" 51 5 8 (.int) false := ⟨_, pT_5, 9, pY_5, rfl, by decide, pI_5, Or.inl l_Application_51, pO_5, pN_5, rfl, by decide +kernel, fun h => by cases h⟩
theorem l_K_49 : Cond.fieldLink "BindingKernel" 49 "BindingKernel" "apps" "[LBindingKernel$Application;" ∈ px_tbl := px_in 230 (by decide +kernel) rfl
theorem f_K_49 : pz_fd "BindingKernel" 49 0 0 := ⟨_, pT_0, 6, rfl, by decide, pI_0, Or.inl l_K_49⟩
theorem g_K_49 : pz_fw "BindingKernel" 49 0 0 (.array (.object "BindingKernel$Application")) true := ⟨_, pT_0, 6, pY_0, rfl, by decide, pI_0, Or.inl l_K_49, pO_0, pN_0, rfl, by decide +kernel, fun _ => rfl⟩
theorem l_K_18 : Cond.fieldLink "BindingKernel" 18 "BindingKernel" "memory" "LBindingKernel$Memory;" ∈ px_tbl := px_in 231 (by decide +kernel) rfl
theorem f_K_18 : pz_fd "BindingKernel" 18 0 1 := ⟨_, pT_0, 6, rfl, by decide, pI_0, Or.inl l_K_18⟩
theorem g_K_18 : pz_fw "BindingKernel" 18 0 1 (.object "BindingKernel$Memory") true := ⟨_, pT_0, 6, pY_0, rfl, by decide, pI_0, Or.inl l_K_18, pO_0, pN_0, rfl, by decide +kernel, fun _ => rfl⟩
theorem l_K_32 : Cond.fieldLink "BindingKernel" 32 "BindingKernel" "filterOrder" "LBindingKernel$FilterOrder;" ∈ px_tbl := px_in 232 (by decide +kernel) rfl
theorem f_K_32 : pz_fd "BindingKernel" 32 0 2 := ⟨_, pT_0, 6, rfl, by decide, pI_0, Or.inl l_K_32⟩
theorem g_K_32 : pz_fw "BindingKernel" 32 0 2 (.object "BindingKernel$FilterOrder") true := ⟨_, pT_0, 6, pY_0, rfl, by decide, pI_0, Or.inl l_K_32, pO_0, pN_0, rfl, by decide +kernel, fun _ => rfl⟩
theorem l_K_39 : Cond.fieldLink "BindingKernel" 39 "BindingKernel" "arriving" "LBindingKernel$Frame;" ∈ px_tbl := px_in 233 (by decide +kernel) rfl
theorem f_K_39 : pz_fd "BindingKernel" 39 0 3 := ⟨_, pT_0, 6, rfl, by decide, pI_0, Or.inl l_K_39⟩
theorem g_K_39 : pz_fw "BindingKernel" 39 0 3 (.object "BindingKernel$Frame") true := ⟨_, pT_0, 6, pY_0, rfl, by decide, pI_0, Or.inl l_K_39, pO_0, pN_0, rfl, by decide +kernel, fun _ => rfl⟩
theorem l_K_25 : Cond.fieldLink "BindingKernel" 25 "BindingKernel" "disk" "LBindingKernel$Disk;" ∈ px_tbl := px_in 234 (by decide +kernel) rfl
theorem f_K_25 : pz_fd "BindingKernel" 25 0 4 := ⟨_, pT_0, 6, rfl, by decide, pI_0, Or.inl l_K_25⟩
theorem g_K_25 : pz_fw "BindingKernel" 25 0 4 (.object "BindingKernel$Disk") true := ⟨_, pT_0, 6, pY_0, rfl, by decide, pI_0, Or.inl l_K_25, pO_0, pN_0, rfl, by decide +kernel, fun _ => rfl⟩
theorem l_K_43 : Cond.fieldLink "BindingKernel" 43 "BindingKernel" "framesLost" "I" ∈ px_tbl := px_in 235 (by decide +kernel) rfl
theorem f_K_43 : pz_fd "BindingKernel" 43 0 5 := ⟨_, pT_0, 6, rfl, by decide, pI_0, Or.inl l_K_43⟩
theorem g_K_43 : pz_fw "BindingKernel" 43 0 5 (.int) false := ⟨_, pT_0, 6, pY_0, rfl, by decide, pI_0, Or.inl l_K_43, pO_0, pN_0, rfl, by decide +kernel, fun h => by cases h⟩
theorem l_Mo_105 : Cond.fieldLink "BindingKernelModel" 105 "BindingKernelModel" "pages" "I" ∈ px_tbl := px_in 673 (by decide +kernel) rfl
theorem f_Mo_105 : pz_fd "BindingKernelModel" 105 10 0 := ⟨_, pT_10, 33, rfl, by decide, pI_10, Or.inl l_Mo_105⟩
theorem g_Mo_105 : pz_fw "BindingKernelModel" 105 10 0 (.int) true := ⟨_, pT_10, 33, pY_10, rfl, by decide, pI_10, Or.inl l_Mo_105, pO_10, pN_10, rfl, by decide +kernel, fun _ => rfl⟩
theorem l_Mo_108 : Cond.fieldLink "BindingKernelModel" 108 "BindingKernelModel" "blocks" "I" ∈ px_tbl := px_in 674 (by decide +kernel) rfl
theorem f_Mo_108 : pz_fd "BindingKernelModel" 108 10 1 := ⟨_, pT_10, 33, rfl, by decide, pI_10, Or.inl l_Mo_108⟩
theorem g_Mo_108 : pz_fw "BindingKernelModel" 108 10 1 (.int) true := ⟨_, pT_10, 33, pY_10, rfl, by decide, pI_10, Or.inl l_Mo_108, pO_10, pN_10, rfl, by decide +kernel, fun _ => rfl⟩
theorem l_Mo_7 : Cond.fieldLink "BindingKernelModel" 7 "BindingKernelModel" "open" "[Z" ∈ px_tbl := px_in 675 (by decide +kernel) rfl
theorem f_Mo_7 : pz_fd "BindingKernelModel" 7 10 2 := ⟨_, pT_10, 33, rfl, by decide, pI_10, Or.inl l_Mo_7⟩
theorem g_Mo_7 : pz_fw "BindingKernelModel" 7 10 2 (.array .boolean) true := ⟨_, pT_10, 33, pY_10, rfl, by decide, pI_10, Or.inl l_Mo_7, pO_10, pN_10, rfl, by decide +kernel, fun _ => rfl⟩
theorem l_Mo_13 : Cond.fieldLink "BindingKernelModel" 13 "BindingKernelModel" "isMap" "[Z" ∈ px_tbl := px_in 676 (by decide +kernel) rfl
theorem f_Mo_13 : pz_fd "BindingKernelModel" 13 10 3 := ⟨_, pT_10, 33, rfl, by decide, pI_10, Or.inl l_Mo_13⟩
theorem g_Mo_13 : pz_fw "BindingKernelModel" 13 10 3 (.array .boolean) true := ⟨_, pT_10, 33, pY_10, rfl, by decide, pI_10, Or.inl l_Mo_13, pO_10, pN_10, rfl, by decide +kernel, fun _ => rfl⟩
theorem l_Mo_16 : Cond.fieldLink "BindingKernelModel" 16 "BindingKernelModel" "first" "[I" ∈ px_tbl := px_in 677 (by decide +kernel) rfl
theorem f_Mo_16 : pz_fd "BindingKernelModel" 16 10 4 := ⟨_, pT_10, 33, rfl, by decide, pI_10, Or.inl l_Mo_16⟩
theorem g_Mo_16 : pz_fw "BindingKernelModel" 16 10 4 (.array .int) true := ⟨_, pT_10, 33, pY_10, rfl, by decide, pI_10, Or.inl l_Mo_16, pO_10, pN_10, rfl, by decide +kernel, fun _ => rfl⟩
theorem l_Mo_20 : Cond.fieldLink "BindingKernelModel" 20 "BindingKernelModel" "links" "[I" ∈ px_tbl := px_in 678 (by decide +kernel) rfl
theorem f_Mo_20 : pz_fd "BindingKernelModel" 20 10 5 := ⟨_, pT_10, 33, rfl, by decide, pI_10, Or.inl l_Mo_20⟩
theorem g_Mo_20 : pz_fw "BindingKernelModel" 20 10 5 (.array .int) true := ⟨_, pT_10, 33, pY_10, rfl, by decide, pI_10, Or.inl l_Mo_20, pO_10, pN_10, rfl, by decide +kernel, fun _ => rfl⟩
theorem l_Mo_23 : Cond.fieldLink "BindingKernelModel" 23 "BindingKernelModel" "now" "I" ∈ px_tbl := px_in 679 (by decide +kernel) rfl
theorem f_Mo_23 : pz_fd "BindingKernelModel" 23 10 6 := ⟨_, pT_10, 33, rfl, by decide, pI_10, Or.inl l_Mo_23⟩
theorem g_Mo_23 : pz_fw "BindingKernelModel" 23 10 6 (.int) false := ⟨_, pT_10, 33, pY_10, rfl, by decide, pI_10, Or.inl l_Mo_23, pO_10, pN_10, rfl, by decide +kernel, fun h => by cases h⟩
theorem l_Mo_27 : Cond.fieldLink "BindingKernelModel" 27 "BindingKernelModel" "taking" "I" ∈ px_tbl := px_in 680 (by decide +kernel) rfl
theorem f_Mo_27 : pz_fd "BindingKernelModel" 27 10 7 := ⟨_, pT_10, 33, rfl, by decide, pI_10, Or.inl l_Mo_27⟩
theorem g_Mo_27 : pz_fw "BindingKernelModel" 27 10 7 (.int) false := ⟨_, pT_10, 33, pY_10, rfl, by decide, pI_10, Or.inl l_Mo_27, pO_10, pN_10, rfl, by decide +kernel, fun h => by cases h⟩
theorem l_Mo_30 : Cond.fieldLink "BindingKernelModel" 30 "BindingKernelModel" "lost" "I" ∈ px_tbl := px_in 681 (by decide +kernel) rfl
theorem f_Mo_30 : pz_fd "BindingKernelModel" 30 10 8 := ⟨_, pT_10, 33, rfl, by decide, pI_10, Or.inl l_Mo_30⟩
theorem g_Mo_30 : pz_fw "BindingKernelModel" 30 10 8 (.int) false := ⟨_, pT_10, 33, pY_10, rfl, by decide, pI_10, Or.inl l_Mo_30, pO_10, pN_10, rfl, by decide +kernel, fun h => by cases h⟩
theorem l_Mo_33 : Cond.fieldLink "BindingKernelModel" 33 "BindingKernelModel" "owner" "[I" ∈ px_tbl := px_in 682 (by decide +kernel) rfl
theorem f_Mo_33 : pz_fd "BindingKernelModel" 33 10 9 := ⟨_, pT_10, 33, rfl, by decide, pI_10, Or.inl l_Mo_33⟩
theorem g_Mo_33 : pz_fw "BindingKernelModel" 33 10 9 (.array .int) true := ⟨_, pT_10, 33, pY_10, rfl, by decide, pI_10, Or.inl l_Mo_33, pO_10, pN_10, rfl, by decide +kernel, fun _ => rfl⟩
theorem l_Mo_36 : Cond.fieldLink "BindingKernelModel" 36 "BindingKernelModel" "took" "[I" ∈ px_tbl := px_in 683 (by decide +kernel) rfl
theorem f_Mo_36 : pz_fd "BindingKernelModel" 36 10 10 := ⟨_, pT_10, 33, rfl, by decide, pI_10, Or.inl l_Mo_36⟩
theorem g_Mo_36 : pz_fw "BindingKernelModel" 36 10 10 (.array .int) true := ⟨_, pT_10, 33, pY_10, rfl, by decide, pI_10, Or.inl l_Mo_36, pO_10, pN_10, rfl, by decide +kernel, fun _ => rfl⟩
theorem l_Mo_39 : Cond.fieldLink "BindingKernelModel" 39 "BindingKernelModel" "deadline" "[I" ∈ px_tbl := px_in 684 (by decide +kernel) rfl
theorem f_Mo_39 : pz_fd "BindingKernelModel" 39 10 11 := ⟨_, pT_10, 33, rfl, by decide, pI_10, Or.inl l_Mo_39⟩
theorem g_Mo_39 : pz_fw "BindingKernelModel" 39 10 11 (.array .int) true := ⟨_, pT_10, 33, pY_10, rfl, by decide, pI_10, Or.inl l_Mo_39, pO_10, pN_10, rfl, by decide +kernel, fun _ => rfl⟩
theorem l_Mo_42 : Cond.fieldLink "BindingKernelModel" 42 "BindingKernelModel" "right" "[I" ∈ px_tbl := px_in 685 (by decide +kernel) rfl
theorem f_Mo_42 : pz_fd "BindingKernelModel" 42 10 12 := ⟨_, pT_10, 33, rfl, by decide, pI_10, Or.inl l_Mo_42⟩
theorem g_Mo_42 : pz_fw "BindingKernelModel" 42 10 12 (.array .int) true := ⟨_, pT_10, 33, pY_10, rfl, by decide, pI_10, Or.inl l_Mo_42, pO_10, pN_10, rfl, by decide +kernel, fun _ => rfl⟩
theorem l_Mo_45 : Cond.fieldLink "BindingKernelModel" 45 "BindingKernelModel" "words" "[I" ∈ px_tbl := px_in 686 (by decide +kernel) rfl
theorem f_Mo_45 : pz_fd "BindingKernelModel" 45 10 13 := ⟨_, pT_10, 33, rfl, by decide, pI_10, Or.inl l_Mo_45⟩
theorem g_Mo_45 : pz_fw "BindingKernelModel" 45 10 13 (.array .int) true := ⟨_, pT_10, 33, pY_10, rfl, by decide, pI_10, Or.inl l_Mo_45, pO_10, pN_10, rfl, by decide +kernel, fun _ => rfl⟩
theorem l_Mo_48 : Cond.fieldLink "BindingKernelModel" 48 "BindingKernelModel" "gone" "[I" ∈ px_tbl := px_in 687 (by decide +kernel) rfl
theorem f_Mo_48 : pz_fd "BindingKernelModel" 48 10 14 := ⟨_, pT_10, 33, rfl, by decide, pI_10, Or.inl l_Mo_48⟩
theorem g_Mo_48 : pz_fw "BindingKernelModel" 48 10 14 (.array .int) true := ⟨_, pT_10, 33, pY_10, rfl, by decide, pI_10, Or.inl l_Mo_48, pO_10, pN_10, rfl, by decide +kernel, fun _ => rfl⟩
theorem l_Mo_51 : Cond.fieldLink "BindingKernelModel" 51 "BindingKernelModel" "goneMany" "[I" ∈ px_tbl := px_in 688 (by decide +kernel) rfl
theorem f_Mo_51 : pz_fd "BindingKernelModel" 51 10 15 := ⟨_, pT_10, 33, rfl, by decide, pI_10, Or.inl l_Mo_51⟩
theorem g_Mo_51 : pz_fw "BindingKernelModel" 51 10 15 (.array .int) true := ⟨_, pT_10, 33, pY_10, rfl, by decide, pI_10, Or.inl l_Mo_51, pO_10, pN_10, rfl, by decide +kernel, fun _ => rfl⟩
theorem l_Mo_54 : Cond.fieldLink "BindingKernelModel" 54 "BindingKernelModel" "length" "[I" ∈ px_tbl := px_in 689 (by decide +kernel) rfl
theorem f_Mo_54 : pz_fd "BindingKernelModel" 54 10 16 := ⟨_, pT_10, 33, rfl, by decide, pI_10, Or.inl l_Mo_54⟩
theorem g_Mo_54 : pz_fw "BindingKernelModel" 54 10 16 (.array .int) true := ⟨_, pT_10, 33, pY_10, rfl, by decide, pI_10, Or.inl l_Mo_54, pO_10, pN_10, rfl, by decide +kernel, fun _ => rfl⟩
theorem l_Mo_57 : Cond.fieldLink "BindingKernelModel" 57 "BindingKernelModel" "code" "[I" ∈ px_tbl := px_in 690 (by decide +kernel) rfl
theorem f_Mo_57 : pz_fd "BindingKernelModel" 57 10 17 := ⟨_, pT_10, 33, rfl, by decide, pI_10, Or.inl l_Mo_57⟩
theorem g_Mo_57 : pz_fw "BindingKernelModel" 57 10 17 (.array .int) true := ⟨_, pT_10, 33, pY_10, rfl, by decide, pI_10, Or.inl l_Mo_57, pO_10, pN_10, rfl, by decide +kernel, fun _ => rfl⟩
theorem l_Mo_60 : Cond.fieldLink "BindingKernelModel" 60 "BindingKernelModel" "standing" "[I" ∈ px_tbl := px_in 691 (by decide +kernel) rfl
theorem f_Mo_60 : pz_fd "BindingKernelModel" 60 10 18 := ⟨_, pT_10, 33, rfl, by decide, pI_10, Or.inl l_Mo_60⟩
theorem g_Mo_60 : pz_fw "BindingKernelModel" 60 10 18 (.array .int) true := ⟨_, pT_10, 33, pY_10, rfl, by decide, pI_10, Or.inl l_Mo_60, pO_10, pN_10, rfl, by decide +kernel, fun _ => rfl⟩
theorem l_Mo_63 : Cond.fieldLink "BindingKernelModel" 63 "BindingKernelModel" "filters" "I" ∈ px_tbl := px_in 692 (by decide +kernel) rfl
theorem f_Mo_63 : pz_fd "BindingKernelModel" 63 10 19 := ⟨_, pT_10, 33, rfl, by decide, pI_10, Or.inl l_Mo_63⟩
theorem g_Mo_63 : pz_fw "BindingKernelModel" 63 10 19 (.int) false := ⟨_, pT_10, 33, pY_10, rfl, by decide, pI_10, Or.inl l_Mo_63, pO_10, pN_10, rfl, by decide +kernel, fun h => by cases h⟩
theorem l_Mo_66 : Cond.fieldLink "BindingKernelModel" 66 "BindingKernelModel" "bytes" "I" ∈ px_tbl := px_in 693 (by decide +kernel) rfl
theorem f_Mo_66 : pz_fd "BindingKernelModel" 66 10 20 := ⟨_, pT_10, 33, rfl, by decide, pI_10, Or.inl l_Mo_66⟩
theorem g_Mo_66 : pz_fw "BindingKernelModel" 66 10 20 (.int) false := ⟨_, pT_10, 33, pY_10, rfl, by decide, pI_10, Or.inl l_Mo_66, pO_10, pN_10, rfl, by decide +kernel, fun h => by cases h⟩
theorem l_Mo_69 : Cond.fieldLink "BindingKernelModel" 69 "BindingKernelModel" "frame" "[I" ∈ px_tbl := px_in 694 (by decide +kernel) rfl
theorem f_Mo_69 : pz_fd "BindingKernelModel" 69 10 21 := ⟨_, pT_10, 33, rfl, by decide, pI_10, Or.inl l_Mo_69⟩
theorem g_Mo_69 : pz_fw "BindingKernelModel" 69 10 21 (.array .int) true := ⟨_, pT_10, 33, pY_10, rfl, by decide, pI_10, Or.inl l_Mo_69, pO_10, pN_10, rfl, by decide +kernel, fun _ => rfl⟩
theorem l_Mo_72 : Cond.fieldLink "BindingKernelModel" 72 "BindingKernelModel" "frames" "[I" ∈ px_tbl := px_in 695 (by decide +kernel) rfl
theorem f_Mo_72 : pz_fd "BindingKernelModel" 72 10 22 := ⟨_, pT_10, 33, rfl, by decide, pI_10, Or.inl l_Mo_72⟩
theorem g_Mo_72 : pz_fw "BindingKernelModel" 72 10 22 (.array .int) true := ⟨_, pT_10, 33, pY_10, rfl, by decide, pI_10, Or.inl l_Mo_72, pO_10, pN_10, rfl, by decide +kernel, fun _ => rfl⟩
theorem l_Mo_75 : Cond.fieldLink "BindingKernelModel" 75 "BindingKernelModel" "frameLength" "[I" ∈ px_tbl := px_in 696 (by decide +kernel) rfl
theorem f_Mo_75 : pz_fd "BindingKernelModel" 75 10 23 := ⟨_, pT_10, 33, rfl, by decide, pI_10, Or.inl l_Mo_75⟩
theorem g_Mo_75 : pz_fw "BindingKernelModel" 75 10 23 (.array .int) true := ⟨_, pT_10, 33, pY_10, rfl, by decide, pI_10, Or.inl l_Mo_75, pO_10, pN_10, rfl, by decide +kernel, fun _ => rfl⟩
theorem l_Mo_78 : Cond.fieldLink "BindingKernelModel" 78 "BindingKernelModel" "frameByte" "[I" ∈ px_tbl := px_in 697 (by decide +kernel) rfl
theorem f_Mo_78 : pz_fd "BindingKernelModel" 78 10 24 := ⟨_, pT_10, 33, rfl, by decide, pI_10, Or.inl l_Mo_78⟩
theorem g_Mo_78 : pz_fw "BindingKernelModel" 78 10 24 (.array .int) true := ⟨_, pT_10, 33, pY_10, rfl, by decide, pI_10, Or.inl l_Mo_78, pO_10, pN_10, rfl, by decide +kernel, fun _ => rfl⟩
theorem l_Mo_81 : Cond.fieldLink "BindingKernelModel" 81 "BindingKernelModel" "a" "I" ∈ px_tbl := px_in 698 (by decide +kernel) rfl
theorem f_Mo_81 : pz_fd "BindingKernelModel" 81 10 25 := ⟨_, pT_10, 33, rfl, by decide, pI_10, Or.inl l_Mo_81⟩
theorem g_Mo_81 : pz_fw "BindingKernelModel" 81 10 25 (.int) false := ⟨_, pT_10, 33, pY_10, rfl, by decide, pI_10, Or.inl l_Mo_81, pO_10, pN_10, rfl, by decide +kernel, fun h => by cases h⟩
theorem l_Mo_84 : Cond.fieldLink "BindingKernelModel" 84 "BindingKernelModel" "x" "I" ∈ px_tbl := px_in 699 (by decide +kernel) rfl
theorem f_Mo_84 : pz_fd "BindingKernelModel" 84 10 26 := ⟨_, pT_10, 33, rfl, by decide, pI_10, Or.inl l_Mo_84⟩
theorem g_Mo_84 : pz_fw "BindingKernelModel" 84 10 26 (.int) false := ⟨_, pT_10, 33, pY_10, rfl, by decide, pI_10, Or.inl l_Mo_84, pO_10, pN_10, rfl, by decide +kernel, fun h => by cases h⟩
theorem l_Mo_87 : Cond.fieldLink "BindingKernelModel" 87 "BindingKernelModel" "holds" "[I" ∈ px_tbl := px_in 700 (by decide +kernel) rfl
theorem f_Mo_87 : pz_fd "BindingKernelModel" 87 10 27 := ⟨_, pT_10, 33, rfl, by decide, pI_10, Or.inl l_Mo_87⟩
theorem g_Mo_87 : pz_fw "BindingKernelModel" 87 10 27 (.array .int) true := ⟨_, pT_10, 33, pY_10, rfl, by decide, pI_10, Or.inl l_Mo_87, pO_10, pN_10, rfl, by decide +kernel, fun _ => rfl⟩
theorem l_Mo_90 : Cond.fieldLink "BindingKernelModel" 90 "BindingKernelModel" "word" "[I" ∈ px_tbl := px_in 701 (by decide +kernel) rfl
theorem f_Mo_90 : pz_fd "BindingKernelModel" 90 10 28 := ⟨_, pT_10, 33, rfl, by decide, pI_10, Or.inl l_Mo_90⟩
theorem g_Mo_90 : pz_fw "BindingKernelModel" 90 10 28 (.array .int) true := ⟨_, pT_10, 33, pY_10, rfl, by decide, pI_10, Or.inl l_Mo_90, pO_10, pN_10, rfl, by decide +kernel, fun _ => rfl⟩
theorem l_Mo_93 : Cond.fieldLink "BindingKernelModel" 93 "BindingKernelModel" "data" "[I" ∈ px_tbl := px_in 702 (by decide +kernel) rfl
theorem f_Mo_93 : pz_fd "BindingKernelModel" 93 10 29 := ⟨_, pT_10, 33, rfl, by decide, pI_10, Or.inl l_Mo_93⟩
theorem g_Mo_93 : pz_fw "BindingKernelModel" 93 10 29 (.array .int) true := ⟨_, pT_10, 33, pY_10, rfl, by decide, pI_10, Or.inl l_Mo_93, pO_10, pN_10, rfl, by decide +kernel, fun _ => rfl⟩
theorem l_Mo_96 : Cond.fieldLink "BindingKernelModel" 96 "BindingKernelModel" "entries" "[I" ∈ px_tbl := px_in 703 (by decide +kernel) rfl
theorem f_Mo_96 : pz_fd "BindingKernelModel" 96 10 30 := ⟨_, pT_10, 33, rfl, by decide, pI_10, Or.inl l_Mo_96⟩
theorem g_Mo_96 : pz_fw "BindingKernelModel" 96 10 30 (.array .int) true := ⟨_, pT_10, 33, pY_10, rfl, by decide, pI_10, Or.inl l_Mo_96, pO_10, pN_10, rfl, by decide +kernel, fun _ => rfl⟩
theorem l_Mo_99 : Cond.fieldLink "BindingKernelModel" 99 "BindingKernelModel" "keys" "[I" ∈ px_tbl := px_in 704 (by decide +kernel) rfl
theorem f_Mo_99 : pz_fd "BindingKernelModel" 99 10 31 := ⟨_, pT_10, 33, rfl, by decide, pI_10, Or.inl l_Mo_99⟩
theorem g_Mo_99 : pz_fw "BindingKernelModel" 99 10 31 (.array .int) true := ⟨_, pT_10, 33, pY_10, rfl, by decide, pI_10, Or.inl l_Mo_99, pO_10, pN_10, rfl, by decide +kernel, fun _ => rfl⟩
theorem l_Mo_102 : Cond.fieldLink "BindingKernelModel" 102 "BindingKernelModel" "values" "[I" ∈ px_tbl := px_in 705 (by decide +kernel) rfl
theorem f_Mo_102 : pz_fd "BindingKernelModel" 102 10 32 := ⟨_, pT_10, 33, rfl, by decide, pI_10, Or.inl l_Mo_102⟩
theorem g_Mo_102 : pz_fw "BindingKernelModel" 102 10 32 (.array .int) true := ⟨_, pT_10, 33, pY_10, rfl, by decide, pI_10, Or.inl l_Mo_102, pO_10, pN_10, rfl, by decide +kernel, fun _ => rfl⟩
theorem l_K_138 : Cond.fieldLinkNest "BindingKernel" 138 "BindingKernel$Memory" "size" "I" "BindingKernel" ∈ px_nw := List.mem_of_getElem? (i := 0) rfl
theorem f_K_138 : pz_fd "BindingKernel" 138 1 0 := ⟨_, pT_1, 9, rfl, by decide, pI_1, Or.inr ⟨_, l_K_138⟩⟩
theorem l_K_296 : Cond.fieldLinkNest "BindingKernel" 296 "BindingKernel$FilterOrder" "length" "I" "BindingKernel" ∈ px_nw := List.mem_of_getElem? (i := 1) rfl
theorem f_K_296 : pz_fd "BindingKernel" 296 3 1 := ⟨_, pT_3, 2, rfl, by decide, pI_3, Or.inr ⟨_, l_K_296⟩⟩
theorem g_K_296 : pz_fw "BindingKernel" 296 3 1 (.int) false := ⟨_, pT_3, 2, pY_3, rfl, by decide, pI_3, Or.inr ⟨rfl, _, l_K_296⟩, pO_3, pN_3, rfl, by decide +kernel, fun h => by cases h⟩
theorem l_Program_52 : Cond.fieldLinkNest "BindingKernel$Program" 52 "BindingKernel$Frame" "length" "I" "BindingKernel" ∈ px_nw := List.mem_of_getElem? (i := 2) rfl
theorem f_Program_52 : pz_fd "BindingKernel$Program" 52 4 1 := ⟨_, pT_4, 2, rfl, by decide, pI_4, Or.inr ⟨_, l_Program_52⟩⟩
theorem g_Program_52 : pz_fw "BindingKernel$Program" 52 4 1 (.int) false := ⟨_, pT_4, 2, pY_4, rfl, by decide, pI_4, Or.inr ⟨rfl, _, l_Program_52⟩, pO_4, pN_4, rfl, by decide +kernel, fun h => by cases h⟩
theorem l_K_186 : Cond.fieldLinkNest "BindingKernel" 186 "BindingKernel$Frame" "length" "I" "BindingKernel" ∈ px_nw := List.mem_of_getElem? (i := 3) rfl
theorem f_K_186 : pz_fd "BindingKernel" 186 4 1 := ⟨_, pT_4, 2, rfl, by decide, pI_4, Or.inr ⟨_, l_K_186⟩⟩
theorem g_K_186 : pz_fw "BindingKernel" 186 4 1 (.int) false := ⟨_, pT_4, 2, pY_4, rfl, by decide, pI_4, Or.inr ⟨rfl, _, l_K_186⟩, pO_4, pN_4, rfl, by decide +kernel, fun h => by cases h⟩
theorem l_K_198 : Cond.fieldLinkNest "BindingKernel" 198 "BindingKernel$FrameQueue" "length" "I" "BindingKernel" ∈ px_nw := List.mem_of_getElem? (i := 4) rfl
theorem f_K_198 : pz_fd "BindingKernel" 198 7 2 := ⟨_, pT_7, 3, rfl, by decide, pI_7, Or.inr ⟨_, l_K_198⟩⟩
theorem g_K_198 : pz_fw "BindingKernel" 198 7 2 (.int) false := ⟨_, pT_7, 3, pY_7, rfl, by decide, pI_7, Or.inr ⟨rfl, _, l_K_198⟩, pO_7, pN_7, rfl, by decide +kernel, fun h => by cases h⟩
theorem l_K_286 : Cond.fieldLinkNest "BindingKernel" 286 "BindingKernel$EntryTable" "length" "I" "BindingKernel" ∈ px_nw := List.mem_of_getElem? (i := 5) rfl
theorem f_K_286 : pz_fd "BindingKernel" 286 8 1 := ⟨_, pT_8, 2, rfl, by decide, pI_8, Or.inr ⟨_, l_K_286⟩⟩
theorem g_K_286 : pz_fw "BindingKernel" 286 8 1 (.int) false := ⟨_, pT_8, 2, pY_8, rfl, by decide, pI_8, Or.inr ⟨rfl, _, l_K_286⟩, pO_8, pN_8, rfl, by decide +kernel, fun h => by cases h⟩
theorem l_K_171 : Cond.fieldLinkNest "BindingKernel" 171 "BindingKernel$Program" "length" "I" "BindingKernel" ∈ px_nw := List.mem_of_getElem? (i := 6) rfl
theorem f_K_171 : pz_fd "BindingKernel" 171 9 4 := ⟨_, pT_9, 5, rfl, by decide, pI_9, Or.inr ⟨_, l_K_171⟩⟩
theorem g_K_171 : pz_fw "BindingKernel" 171 9 4 (.int) false := ⟨_, pT_9, 5, pY_9, rfl, by decide, pI_9, Or.inr ⟨rfl, _, l_K_171⟩, pO_9, pN_9, rfl, by decide +kernel, fun h => by cases h⟩
theorem l_K_147 : Cond.fieldLinkNest "BindingKernel" 147 "BindingKernel$Application" "pagesTakenAway" "LBindingKernel$PageList;" "BindingKernel" ∈ px_nw := List.mem_of_getElem? (i := 7) rfl
theorem f_K_147 : pz_fd "BindingKernel" 147 5 0 := ⟨_, pT_5, 9, rfl, by decide, pI_5, Or.inr ⟨_, l_K_147⟩⟩
theorem l_K_194 : Cond.fieldLinkNest "BindingKernel" 194 "BindingKernel$Application" "frames" "LBindingKernel$FrameQueue;" "BindingKernel" ∈ px_nw := List.mem_of_getElem? (i := 8) rfl
theorem f_K_194 : pz_fd "BindingKernel" 194 5 1 := ⟨_, pT_5, 9, rfl, by decide, pI_5, Or.inr ⟨_, l_K_194⟩⟩
theorem l_K_230 : Cond.fieldLinkNest "BindingKernel" 230 "BindingKernel$Application" "table" "LBindingKernel$EntryTable;" "BindingKernel" ∈ px_nw := List.mem_of_getElem? (i := 9) rfl
theorem f_K_230 : pz_fd "BindingKernel" 230 5 2 := ⟨_, pT_5, 9, rfl, by decide, pI_5, Or.inr ⟨_, l_K_230⟩⟩
theorem l_K_161 : Cond.fieldLinkNest "BindingKernel" 161 "BindingKernel$Application" "draft" "LBindingKernel$Program;" "BindingKernel" ∈ px_nw := List.mem_of_getElem? (i := 10) rfl
theorem f_K_161 : pz_fd "BindingKernel" 161 5 3 := ⟨_, pT_5, 9, rfl, by decide, pI_5, Or.inr ⟨_, l_K_161⟩⟩
theorem g_K_161 : pz_fw "BindingKernel" 161 5 3 (.object "BindingKernel$Program") false := ⟨_, pT_5, 9, pY_5, rfl, by decide, pI_5, Or.inr ⟨rfl, _, l_K_161⟩, pO_5, pN_5, rfl, by decide +kernel, fun h => by cases h⟩
theorem l_K_300 : Cond.fieldLinkNest "BindingKernel" 300 "BindingKernel$Application" "filter" "LBindingKernel$Program;" "BindingKernel" ∈ px_nw := List.mem_of_getElem? (i := 11) rfl
theorem f_K_300 : pz_fd "BindingKernel" 300 5 4 := ⟨_, pT_5, 9, rfl, by decide, pI_5, Or.inr ⟨_, l_K_300⟩⟩
theorem g_K_300 : pz_fw "BindingKernel" 300 5 4 (.object "BindingKernel$Program") false := ⟨_, pT_5, 9, pY_5, rfl, by decide, pI_5, Or.inr ⟨rfl, _, l_K_300⟩, pO_5, pN_5, rfl, by decide +kernel, fun h => by cases h⟩
theorem l_K_62 : Cond.fieldLinkNest "BindingKernel" 62 "BindingKernel$Application" "isOpen" "Z" "BindingKernel" ∈ px_nw := List.mem_of_getElem? (i := 12) rfl
theorem f_K_62 : pz_fd "BindingKernel" 62 5 5 := ⟨_, pT_5, 9, rfl, by decide, pI_5, Or.inr ⟨_, l_K_62⟩⟩
theorem g_K_62 : pz_fw "BindingKernel" 62 5 5 (.boolean) false := ⟨_, pT_5, 9, pY_5, rfl, by decide, pI_5, Or.inr ⟨rfl, _, l_K_62⟩, pO_5, pN_5, rfl, by decide +kernel, fun h => by cases h⟩
theorem l_K_218 : Cond.fieldLinkNest "BindingKernel" 218 "BindingKernel$Application" "isMap" "Z" "BindingKernel" ∈ px_nw := List.mem_of_getElem? (i := 13) rfl
theorem f_K_218 : pz_fd "BindingKernel" 218 5 6 := ⟨_, pT_5, 9, rfl, by decide, pI_5, Or.inr ⟨_, l_K_218⟩⟩
theorem g_K_218 : pz_fw "BindingKernel" 218 5 6 (.boolean) false := ⟨_, pT_5, 9, pY_5, rfl, by decide, pI_5, Or.inr ⟨rfl, _, l_K_218⟩, pO_5, pN_5, rfl, by decide +kernel, fun h => by cases h⟩
theorem l_K_74 : Cond.fieldLinkNest "BindingKernel" 74 "BindingKernel$Application" "firstLink" "I" "BindingKernel" ∈ px_nw := List.mem_of_getElem? (i := 14) rfl
theorem f_K_74 : pz_fd "BindingKernel" 74 5 7 := ⟨_, pT_5, 9, rfl, by decide, pI_5, Or.inr ⟨_, l_K_74⟩⟩
theorem g_K_74 : pz_fw "BindingKernel" 74 5 7 (.int) false := ⟨_, pT_5, 9, pY_5, rfl, by decide, pI_5, Or.inr ⟨rfl, _, l_K_74⟩, pO_5, pN_5, rfl, by decide +kernel, fun h => by cases h⟩
theorem l_K_77 : Cond.fieldLinkNest "BindingKernel" 77 "BindingKernel$Application" "links" "I" "BindingKernel" ∈ px_nw := List.mem_of_getElem? (i := 15) rfl
theorem f_K_77 : pz_fd "BindingKernel" 77 5 8 := ⟨_, pT_5, 9, rfl, by decide, pI_5, Or.inr ⟨_, l_K_77⟩⟩
theorem g_K_77 : pz_fw "BindingKernel" 77 5 8 (.int) false := ⟨_, pT_5, 9, pY_5, rfl, by decide, pI_5, Or.inr ⟨rfl, _, l_K_77⟩, pO_5, pN_5, rfl, by decide +kernel, fun h => by cases h⟩
theorem k_K_init : Cond.code M_K_init.1 M_K_init.2.1 M_K_init.2.2.1 M_K_init.2.2.2 ∈ px_tbl := px_in 18 (by decide +kernel) rfl
theorem i_K_init : Cond.initialized M_K_init.1.cls ∈ px_tbl := px_in 1 (by decide +kernel) rfl
theorem j_K_init : Cond.instanceMethod M_K_init.1 ∈ px_tbl := px_in 17 (by decide +kernel) rfl
theorem k_K_clampSize : Cond.code M_K_clampSize.1 M_K_clampSize.2.1 M_K_clampSize.2.2.1 M_K_clampSize.2.2.2 ∈ px_tbl := px_in 26 (by decide +kernel) rfl
theorem i_K_clampSize : Cond.initialized M_K_clampSize.1.cls ∈ px_tbl := px_in 1 (by decide +kernel) rfl
theorem s_K_clampSize : Cond.static M_K_clampSize.1 ∈ px_tbl := px_in 25 (by decide +kernel) rfl
theorem k_Math_min : Cond.code M_Math_min.1 M_Math_min.2.1 M_Math_min.2.2.1 M_Math_min.2.2.2 ∈ px_tbl := px_in 29 (by decide +kernel) rfl
theorem i_Math_min : Cond.initialized M_Math_min.1.cls ∈ px_tbl := px_in 3 (by decide +kernel) rfl
theorem s_Math_min : Cond.static M_Math_min.1 ∈ px_tbl := px_in 28 (by decide +kernel) rfl
theorem k_Math_max : Cond.code M_Math_max.1 M_Math_max.2.1 M_Math_max.2.2.1 M_Math_max.2.2.2 ∈ px_tbl := px_in 32 (by decide +kernel) rfl
theorem i_Math_max : Cond.initialized M_Math_max.1.cls ∈ px_tbl := px_in 3 (by decide +kernel) rfl
theorem s_Math_max : Cond.static M_Math_max.1 ∈ px_tbl := px_in 31 (by decide +kernel) rfl
theorem k_Memory_init : Cond.code M_Memory_init.1 M_Memory_init.2.1 M_Memory_init.2.2.1 M_Memory_init.2.2.2 ∈ px_tbl := px_in 35 (by decide +kernel) rfl
theorem i_Memory_init : Cond.initialized M_Memory_init.1.cls ∈ px_tbl := px_in 2 (by decide +kernel) rfl
theorem j_Memory_init : Cond.instanceMethod M_Memory_init.1 ∈ px_tbl := px_in 34 (by decide +kernel) rfl
theorem k_Disk_init : Cond.code M_Disk_init.1 M_Disk_init.2.1 M_Disk_init.2.2.1 M_Disk_init.2.2.2 ∈ px_tbl := px_in 72 (by decide +kernel) rfl
theorem i_Disk_init : Cond.initialized M_Disk_init.1.cls ∈ px_tbl := px_in 4 (by decide +kernel) rfl
theorem j_Disk_init : Cond.instanceMethod M_Disk_init.1 ∈ px_tbl := px_in 71 (by decide +kernel) rfl
theorem k_FilterOrder_init : Cond.code M_FilterOrder_init.1 M_FilterOrder_init.2.1 M_FilterOrder_init.2.2.1 M_FilterOrder_init.2.2.2 ∈ px_tbl := px_in 88 (by decide +kernel) rfl
theorem i_FilterOrder_init : Cond.initialized M_FilterOrder_init.1.cls ∈ px_tbl := px_in 5 (by decide +kernel) rfl
theorem j_FilterOrder_init : Cond.instanceMethod M_FilterOrder_init.1 ∈ px_tbl := px_in 87 (by decide +kernel) rfl
theorem k_Frame_init : Cond.code M_Frame_init.1 M_Frame_init.2.1 M_Frame_init.2.2.1 M_Frame_init.2.2.2 ∈ px_tbl := px_in 102 (by decide +kernel) rfl
theorem i_Frame_init : Cond.initialized M_Frame_init.1.cls ∈ px_tbl := px_in 6 (by decide +kernel) rfl
theorem j_Frame_init : Cond.instanceMethod M_Frame_init.1 ∈ px_tbl := px_in 101 (by decide +kernel) rfl
theorem k_Application_init : Cond.code M_Application_init.1 M_Application_init.2.1 M_Application_init.2.2.1 M_Application_init.2.2.2 ∈ px_tbl := px_in 118 (by decide +kernel) rfl
theorem i_Application_init : Cond.initialized M_Application_init.1.cls ∈ px_tbl := px_in 7 (by decide +kernel) rfl
theorem j_Application_init : Cond.instanceMethod M_Application_init.1 ∈ px_tbl := px_in 117 (by decide +kernel) rfl
theorem k_PageList_init : Cond.code M_PageList_init.1 M_PageList_init.2.1 M_PageList_init.2.2.1 M_PageList_init.2.2.2 ∈ px_tbl := px_in 124 (by decide +kernel) rfl
theorem i_PageList_init : Cond.initialized M_PageList_init.1.cls ∈ px_tbl := px_in 8 (by decide +kernel) rfl
theorem j_PageList_init : Cond.instanceMethod M_PageList_init.1 ∈ px_tbl := px_in 123 (by decide +kernel) rfl
theorem k_FrameQueue_init : Cond.code M_FrameQueue_init.1 M_FrameQueue_init.2.1 M_FrameQueue_init.2.2.1 M_FrameQueue_init.2.2.2 ∈ px_tbl := px_in 140 (by decide +kernel) rfl
theorem i_FrameQueue_init : Cond.initialized M_FrameQueue_init.1.cls ∈ px_tbl := px_in 9 (by decide +kernel) rfl
theorem j_FrameQueue_init : Cond.instanceMethod M_FrameQueue_init.1 ∈ px_tbl := px_in 139 (by decide +kernel) rfl
theorem k_EntryTable_init : Cond.code M_EntryTable_init.1 M_EntryTable_init.2.1 M_EntryTable_init.2.2.1 M_EntryTable_init.2.2.2 ∈ px_tbl := px_in 160 (by decide +kernel) rfl
theorem i_EntryTable_init : Cond.initialized M_EntryTable_init.1.cls ∈ px_tbl := px_in 10 (by decide +kernel) rfl
theorem j_EntryTable_init : Cond.instanceMethod M_EntryTable_init.1 ∈ px_tbl := px_in 159 (by decide +kernel) rfl
theorem k_Program_init : Cond.code M_Program_init.1 M_Program_init.2.1 M_Program_init.2.2.1 M_Program_init.2.2.2 ∈ px_tbl := px_in 174 (by decide +kernel) rfl
theorem i_Program_init : Cond.initialized M_Program_init.1.cls ∈ px_tbl := px_in 11 (by decide +kernel) rfl
theorem j_Program_init : Cond.instanceMethod M_Program_init.1 ∈ px_tbl := px_in 173 (by decide +kernel) rfl
theorem k_K_open : Cond.code M_K_open.1 M_K_open.2.1 M_K_open.2.2.1 M_K_open.2.2.2 ∈ px_tbl := px_in 252 (by decide +kernel) rfl
theorem i_K_open : Cond.initialized M_K_open.1.cls ∈ px_tbl := px_in 1 (by decide +kernel) rfl
theorem j_K_open : Cond.instanceMethod M_K_open.1 ∈ px_tbl := px_in 250 (by decide +kernel) rfl
theorem v_K_open : Cond.selects M_K_open.1.cls M_K_open.1 M_K_open.1 ∈ px_tbl := px_in 251 (by decide +kernel) rfl
theorem k_K_isApp : Cond.code M_K_isApp.1 M_K_isApp.2.1 M_K_isApp.2.2.1 M_K_isApp.2.2.2 ∈ px_tbl := px_in 255 (by decide +kernel) rfl
theorem i_K_isApp : Cond.initialized M_K_isApp.1.cls ∈ px_tbl := px_in 1 (by decide +kernel) rfl
theorem s_K_isApp : Cond.static M_K_isApp.1 ∈ px_tbl := px_in 254 (by decide +kernel) rfl
theorem k_K_isIn : Cond.code M_K_isIn.1 M_K_isIn.2.1 M_K_isIn.2.2.1 M_K_isIn.2.2.2 ∈ px_tbl := px_in 258 (by decide +kernel) rfl
theorem i_K_isIn : Cond.initialized M_K_isIn.1.cls ∈ px_tbl := px_in 1 (by decide +kernel) rfl
theorem s_K_isIn : Cond.static M_K_isIn.1 ∈ px_tbl := px_in 257 (by decide +kernel) rfl
theorem k_K_isLayout : Cond.code M_K_isLayout.1 M_K_isLayout.2.1 M_K_isLayout.2.2.1 M_K_isLayout.2.2.2 ∈ px_tbl := px_in 261 (by decide +kernel) rfl
theorem i_K_isLayout : Cond.initialized M_K_isLayout.1.cls ∈ px_tbl := px_in 1 (by decide +kernel) rfl
theorem s_K_isLayout : Cond.static M_K_isLayout.1 ∈ px_tbl := px_in 260 (by decide +kernel) rfl
theorem k_Disk_leastFree : Cond.code M_Disk_leastFree.1 M_Disk_leastFree.2.1 M_Disk_leastFree.2.2.1 M_Disk_leastFree.2.2.2 ∈ px_tbl := px_in 265 (by decide +kernel) rfl
theorem i_Disk_leastFree : Cond.initialized M_Disk_leastFree.1.cls ∈ px_tbl := px_in 4 (by decide +kernel) rfl
theorem j_Disk_leastFree : Cond.instanceMethod M_Disk_leastFree.1 ∈ px_tbl := px_in 263 (by decide +kernel) rfl
theorem v_Disk_leastFree : Cond.selects M_Disk_leastFree.1.cls M_Disk_leastFree.1 M_Disk_leastFree.1 ∈ px_tbl := px_in 264 (by decide +kernel) rfl
theorem k_Disk_isFree : Cond.code M_Disk_isFree.1 M_Disk_isFree.2.1 M_Disk_isFree.2.2.1 M_Disk_isFree.2.2.2 ∈ px_tbl := px_in 269 (by decide +kernel) rfl
theorem i_Disk_isFree : Cond.initialized M_Disk_isFree.1.cls ∈ px_tbl := px_in 4 (by decide +kernel) rfl
theorem j_Disk_isFree : Cond.instanceMethod M_Disk_isFree.1 ∈ px_tbl := px_in 267 (by decide +kernel) rfl
theorem v_Disk_isFree : Cond.selects M_Disk_isFree.1.cls M_Disk_isFree.1 M_Disk_isFree.1 ∈ px_tbl := px_in 268 (by decide +kernel) rfl
theorem k_Application_begin : Cond.code M_Application_begin.1 M_Application_begin.2.1 M_Application_begin.2.2.1 M_Application_begin.2.2.2 ∈ px_tbl := px_in 273 (by decide +kernel) rfl
theorem i_Application_begin : Cond.initialized M_Application_begin.1.cls ∈ px_tbl := px_in 7 (by decide +kernel) rfl
theorem j_Application_begin : Cond.instanceMethod M_Application_begin.1 ∈ px_tbl := px_in 271 (by decide +kernel) rfl
theorem v_Application_begin : Cond.selects M_Application_begin.1.cls M_Application_begin.1 M_Application_begin.1 ∈ px_tbl := px_in 272 (by decide +kernel) rfl
theorem k_PageList_clear : Cond.code M_PageList_clear.1 M_PageList_clear.2.1 M_PageList_clear.2.2.1 M_PageList_clear.2.2.2 ∈ px_tbl := px_in 277 (by decide +kernel) rfl
theorem i_PageList_clear : Cond.initialized M_PageList_clear.1.cls ∈ px_tbl := px_in 8 (by decide +kernel) rfl
theorem j_PageList_clear : Cond.instanceMethod M_PageList_clear.1 ∈ px_tbl := px_in 275 (by decide +kernel) rfl
theorem v_PageList_clear : Cond.selects M_PageList_clear.1.cls M_PageList_clear.1 M_PageList_clear.1 ∈ px_tbl := px_in 276 (by decide +kernel) rfl
theorem k_Disk_bind : Cond.code M_Disk_bind.1 M_Disk_bind.2.1 M_Disk_bind.2.2.1 M_Disk_bind.2.2.2 ∈ px_tbl := px_in 281 (by decide +kernel) rfl
theorem i_Disk_bind : Cond.initialized M_Disk_bind.1.cls ∈ px_tbl := px_in 4 (by decide +kernel) rfl
theorem j_Disk_bind : Cond.instanceMethod M_Disk_bind.1 ∈ px_tbl := px_in 279 (by decide +kernel) rfl
theorem v_Disk_bind : Cond.selects M_Disk_bind.1.cls M_Disk_bind.1 M_Disk_bind.1 ∈ px_tbl := px_in 280 (by decide +kernel) rfl
theorem k_Disk_setWord : Cond.code M_Disk_setWord.1 M_Disk_setWord.2.1 M_Disk_setWord.2.2.1 M_Disk_setWord.2.2.2 ∈ px_tbl := px_in 285 (by decide +kernel) rfl
theorem i_Disk_setWord : Cond.initialized M_Disk_setWord.1.cls ∈ px_tbl := px_in 4 (by decide +kernel) rfl
theorem j_Disk_setWord : Cond.instanceMethod M_Disk_setWord.1 ∈ px_tbl := px_in 283 (by decide +kernel) rfl
theorem v_Disk_setWord : Cond.selects M_Disk_setWord.1.cls M_Disk_setWord.1 M_Disk_setWord.1 ∈ px_tbl := px_in 284 (by decide +kernel) rfl
theorem k_K_close : Cond.code M_K_close.1 M_K_close.2.1 M_K_close.2.2.1 M_K_close.2.2.2 ∈ px_tbl := px_in 289 (by decide +kernel) rfl
theorem i_K_close : Cond.initialized M_K_close.1.cls ∈ px_tbl := px_in 1 (by decide +kernel) rfl
theorem j_K_close : Cond.instanceMethod M_K_close.1 ∈ px_tbl := px_in 287 (by decide +kernel) rfl
theorem v_K_close : Cond.selects M_K_close.1.cls M_K_close.1 M_K_close.1 ∈ px_tbl := px_in 288 (by decide +kernel) rfl
theorem k_K_isOpen : Cond.code M_K_isOpen.1 M_K_isOpen.2.1 M_K_isOpen.2.2.1 M_K_isOpen.2.2.2 ∈ px_tbl := px_in 293 (by decide +kernel) rfl
theorem i_K_isOpen : Cond.initialized M_K_isOpen.1.cls ∈ px_tbl := px_in 1 (by decide +kernel) rfl
theorem j_K_isOpen : Cond.instanceMethod M_K_isOpen.1 ∈ px_tbl := px_in 292 (by decide +kernel) rfl
theorem v_K_isOpen : Cond.selects M_K_isOpen.1.cls M_K_isOpen.1 M_K_isOpen.1 ∈ px_tbl := px_inp 0 (by decide +kernel) rfl
theorem k_Memory_forget : Cond.code M_Memory_forget.1 M_Memory_forget.2.1 M_Memory_forget.2.2.1 M_Memory_forget.2.2.2 ∈ px_tbl := px_in 297 (by decide +kernel) rfl
theorem i_Memory_forget : Cond.initialized M_Memory_forget.1.cls ∈ px_tbl := px_in 2 (by decide +kernel) rfl
theorem j_Memory_forget : Cond.instanceMethod M_Memory_forget.1 ∈ px_tbl := px_in 295 (by decide +kernel) rfl
theorem v_Memory_forget : Cond.selects M_Memory_forget.1.cls M_Memory_forget.1 M_Memory_forget.1 ∈ px_tbl := px_in 296 (by decide +kernel) rfl
theorem k_Memory_setRight : Cond.code M_Memory_setRight.1 M_Memory_setRight.2.1 M_Memory_setRight.2.2.1 M_Memory_setRight.2.2.2 ∈ px_tbl := px_in 301 (by decide +kernel) rfl
theorem i_Memory_setRight : Cond.initialized M_Memory_setRight.1.cls ∈ px_tbl := px_in 2 (by decide +kernel) rfl
theorem j_Memory_setRight : Cond.instanceMethod M_Memory_setRight.1 ∈ px_tbl := px_in 299 (by decide +kernel) rfl
theorem v_Memory_setRight : Cond.selects M_Memory_setRight.1.cls M_Memory_setRight.1 M_Memory_setRight.1 ∈ px_tbl := px_in 300 (by decide +kernel) rfl
theorem k_Memory_free : Cond.code M_Memory_free.1 M_Memory_free.2.1 M_Memory_free.2.2.1 M_Memory_free.2.2.2 ∈ px_tbl := px_in 305 (by decide +kernel) rfl
theorem i_Memory_free : Cond.initialized M_Memory_free.1.cls ∈ px_tbl := px_in 2 (by decide +kernel) rfl
theorem j_Memory_free : Cond.instanceMethod M_Memory_free.1 ∈ px_tbl := px_in 303 (by decide +kernel) rfl
theorem v_Memory_free : Cond.selects M_Memory_free.1.cls M_Memory_free.1 M_Memory_free.1 ∈ px_tbl := px_in 304 (by decide +kernel) rfl
theorem k_Disk_freeAllOf : Cond.code M_Disk_freeAllOf.1 M_Disk_freeAllOf.2.1 M_Disk_freeAllOf.2.2.1 M_Disk_freeAllOf.2.2.2 ∈ px_tbl := px_in 309 (by decide +kernel) rfl
theorem i_Disk_freeAllOf : Cond.initialized M_Disk_freeAllOf.1.cls ∈ px_tbl := px_in 4 (by decide +kernel) rfl
theorem j_Disk_freeAllOf : Cond.instanceMethod M_Disk_freeAllOf.1 ∈ px_tbl := px_in 307 (by decide +kernel) rfl
theorem v_Disk_freeAllOf : Cond.selects M_Disk_freeAllOf.1.cls M_Disk_freeAllOf.1 M_Disk_freeAllOf.1 ∈ px_tbl := px_in 308 (by decide +kernel) rfl
theorem k_Disk_free : Cond.code M_Disk_free.1 M_Disk_free.2.1 M_Disk_free.2.2.1 M_Disk_free.2.2.2 ∈ px_tbl := px_in 313 (by decide +kernel) rfl
theorem i_Disk_free : Cond.initialized M_Disk_free.1.cls ∈ px_tbl := px_in 4 (by decide +kernel) rfl
theorem j_Disk_free : Cond.instanceMethod M_Disk_free.1 ∈ px_tbl := px_in 311 (by decide +kernel) rfl
theorem v_Disk_free : Cond.selects M_Disk_free.1.cls M_Disk_free.1 M_Disk_free.1 ∈ px_tbl := px_in 312 (by decide +kernel) rfl
theorem k_FilterOrder_drop : Cond.code M_FilterOrder_drop.1 M_FilterOrder_drop.2.1 M_FilterOrder_drop.2.2.1 M_FilterOrder_drop.2.2.2 ∈ px_tbl := px_in 317 (by decide +kernel) rfl
theorem i_FilterOrder_drop : Cond.initialized M_FilterOrder_drop.1.cls ∈ px_tbl := px_in 5 (by decide +kernel) rfl
theorem j_FilterOrder_drop : Cond.instanceMethod M_FilterOrder_drop.1 ∈ px_tbl := px_in 315 (by decide +kernel) rfl
theorem v_FilterOrder_drop : Cond.selects M_FilterOrder_drop.1.cls M_FilterOrder_drop.1 M_FilterOrder_drop.1 ∈ px_tbl := px_in 316 (by decide +kernel) rfl
theorem k_FilterOrder_placeOf : Cond.code M_FilterOrder_placeOf.1 M_FilterOrder_placeOf.2.1 M_FilterOrder_placeOf.2.2.1 M_FilterOrder_placeOf.2.2.2 ∈ px_tbl := px_in 321 (by decide +kernel) rfl
theorem i_FilterOrder_placeOf : Cond.initialized M_FilterOrder_placeOf.1.cls ∈ px_tbl := px_in 5 (by decide +kernel) rfl
theorem j_FilterOrder_placeOf : Cond.instanceMethod M_FilterOrder_placeOf.1 ∈ px_tbl := px_in 319 (by decide +kernel) rfl
theorem v_FilterOrder_placeOf : Cond.selects M_FilterOrder_placeOf.1.cls M_FilterOrder_placeOf.1 M_FilterOrder_placeOf.1 ∈ px_tbl := px_in 320 (by decide +kernel) rfl
theorem k_Application_end : Cond.code M_Application_end.1 M_Application_end.2.1 M_Application_end.2.2.1 M_Application_end.2.2.2 ∈ px_tbl := px_in 325 (by decide +kernel) rfl
theorem i_Application_end : Cond.initialized M_Application_end.1.cls ∈ px_tbl := px_in 7 (by decide +kernel) rfl
theorem j_Application_end : Cond.instanceMethod M_Application_end.1 ∈ px_tbl := px_in 323 (by decide +kernel) rfl
theorem v_Application_end : Cond.selects M_Application_end.1.cls M_Application_end.1 M_Application_end.1 ∈ px_tbl := px_in 324 (by decide +kernel) rfl
theorem k_Program_clear : Cond.code M_Program_clear.1 M_Program_clear.2.1 M_Program_clear.2.2.1 M_Program_clear.2.2.2 ∈ px_tbl := px_in 329 (by decide +kernel) rfl
theorem i_Program_clear : Cond.initialized M_Program_clear.1.cls ∈ px_tbl := px_in 11 (by decide +kernel) rfl
theorem j_Program_clear : Cond.instanceMethod M_Program_clear.1 ∈ px_tbl := px_in 327 (by decide +kernel) rfl
theorem v_Program_clear : Cond.selects M_Program_clear.1.cls M_Program_clear.1 M_Program_clear.1 ∈ px_tbl := px_in 328 (by decide +kernel) rfl
theorem k_FrameQueue_clear : Cond.code M_FrameQueue_clear.1 M_FrameQueue_clear.2.1 M_FrameQueue_clear.2.2.1 M_FrameQueue_clear.2.2.2 ∈ px_tbl := px_in 333 (by decide +kernel) rfl
theorem i_FrameQueue_clear : Cond.initialized M_FrameQueue_clear.1.cls ∈ px_tbl := px_in 9 (by decide +kernel) rfl
theorem j_FrameQueue_clear : Cond.instanceMethod M_FrameQueue_clear.1 ∈ px_tbl := px_in 331 (by decide +kernel) rfl
theorem v_FrameQueue_clear : Cond.selects M_FrameQueue_clear.1.cls M_FrameQueue_clear.1 M_FrameQueue_clear.1 ∈ px_tbl := px_in 332 (by decide +kernel) rfl
theorem k_EntryTable_clear : Cond.code M_EntryTable_clear.1 M_EntryTable_clear.2.1 M_EntryTable_clear.2.2.1 M_EntryTable_clear.2.2.2 ∈ px_tbl := px_in 337 (by decide +kernel) rfl
theorem i_EntryTable_clear : Cond.initialized M_EntryTable_clear.1.cls ∈ px_tbl := px_in 10 (by decide +kernel) rfl
theorem j_EntryTable_clear : Cond.instanceMethod M_EntryTable_clear.1 ∈ px_tbl := px_in 335 (by decide +kernel) rfl
theorem v_EntryTable_clear : Cond.selects M_EntryTable_clear.1.cls M_EntryTable_clear.1 M_EntryTable_clear.1 ∈ px_tbl := px_in 336 (by decide +kernel) rfl
theorem k_K_take : Cond.code M_K_take.1 M_K_take.2.1 M_K_take.2.2.1 M_K_take.2.2.2 ∈ px_tbl := px_in 341 (by decide +kernel) rfl
theorem i_K_take : Cond.initialized M_K_take.1.cls ∈ px_tbl := px_in 1 (by decide +kernel) rfl
theorem j_K_take : Cond.instanceMethod M_K_take.1 ∈ px_tbl := px_in 339 (by decide +kernel) rfl
theorem v_K_take : Cond.selects M_K_take.1.cls M_K_take.1 M_K_take.1 ∈ px_tbl := px_in 340 (by decide +kernel) rfl
theorem k_Memory_leastFree : Cond.code M_Memory_leastFree.1 M_Memory_leastFree.2.1 M_Memory_leastFree.2.2.1 M_Memory_leastFree.2.2.2 ∈ px_tbl := px_in 345 (by decide +kernel) rfl
theorem i_Memory_leastFree : Cond.initialized M_Memory_leastFree.1.cls ∈ px_tbl := px_in 2 (by decide +kernel) rfl
theorem j_Memory_leastFree : Cond.instanceMethod M_Memory_leastFree.1 ∈ px_tbl := px_in 343 (by decide +kernel) rfl
theorem v_Memory_leastFree : Cond.selects M_Memory_leastFree.1.cls M_Memory_leastFree.1 M_Memory_leastFree.1 ∈ px_tbl := px_in 344 (by decide +kernel) rfl
theorem k_Memory_bind : Cond.code M_Memory_bind.1 M_Memory_bind.2.1 M_Memory_bind.2.2.1 M_Memory_bind.2.2.2 ∈ px_tbl := px_in 349 (by decide +kernel) rfl
theorem i_Memory_bind : Cond.initialized M_Memory_bind.1.cls ∈ px_tbl := px_in 2 (by decide +kernel) rfl
theorem j_Memory_bind : Cond.instanceMethod M_Memory_bind.1 ∈ px_tbl := px_in 347 (by decide +kernel) rfl
theorem v_Memory_bind : Cond.selects M_Memory_bind.1.cls M_Memory_bind.1 M_Memory_bind.1 ∈ px_tbl := px_in 348 (by decide +kernel) rfl
theorem k_Memory_setWord : Cond.code M_Memory_setWord.1 M_Memory_setWord.2.1 M_Memory_setWord.2.2.1 M_Memory_setWord.2.2.2 ∈ px_tbl := px_in 353 (by decide +kernel) rfl
theorem i_Memory_setWord : Cond.initialized M_Memory_setWord.1.cls ∈ px_tbl := px_in 2 (by decide +kernel) rfl
theorem j_Memory_setWord : Cond.instanceMethod M_Memory_setWord.1 ∈ px_tbl := px_in 351 (by decide +kernel) rfl
theorem v_Memory_setWord : Cond.selects M_Memory_setWord.1.cls M_Memory_setWord.1 M_Memory_setWord.1 ∈ px_tbl := px_in 352 (by decide +kernel) rfl
theorem k_K_release : Cond.code M_K_release.1 M_K_release.2.1 M_K_release.2.2.1 M_K_release.2.2.2 ∈ px_tbl := px_in 357 (by decide +kernel) rfl
theorem i_K_release : Cond.initialized M_K_release.1.cls ∈ px_tbl := px_in 1 (by decide +kernel) rfl
theorem j_K_release : Cond.instanceMethod M_K_release.1 ∈ px_tbl := px_in 355 (by decide +kernel) rfl
theorem v_K_release : Cond.selects M_K_release.1.cls M_K_release.1 M_K_release.1 ∈ px_tbl := px_in 356 (by decide +kernel) rfl
theorem k_K_owns : Cond.code M_K_owns.1 M_K_owns.2.1 M_K_owns.2.2.1 M_K_owns.2.2.2 ∈ px_tbl := px_in 361 (by decide +kernel) rfl
theorem i_K_owns : Cond.initialized M_K_owns.1.cls ∈ px_tbl := px_in 1 (by decide +kernel) rfl
theorem j_K_owns : Cond.instanceMethod M_K_owns.1 ∈ px_tbl := px_in 360 (by decide +kernel) rfl
theorem v_K_owns : Cond.selects M_K_owns.1.cls M_K_owns.1 M_K_owns.1 ∈ px_tbl := px_inp 1 (by decide +kernel) rfl
theorem k_Memory_hasPage : Cond.code M_Memory_hasPage.1 M_Memory_hasPage.2.1 M_Memory_hasPage.2.2.1 M_Memory_hasPage.2.2.2 ∈ px_tbl := px_in 365 (by decide +kernel) rfl
theorem i_Memory_hasPage : Cond.initialized M_Memory_hasPage.1.cls ∈ px_tbl := px_in 2 (by decide +kernel) rfl
theorem j_Memory_hasPage : Cond.instanceMethod M_Memory_hasPage.1 ∈ px_tbl := px_in 363 (by decide +kernel) rfl
theorem v_Memory_hasPage : Cond.selects M_Memory_hasPage.1.cls M_Memory_hasPage.1 M_Memory_hasPage.1 ∈ px_tbl := px_in 364 (by decide +kernel) rfl
theorem k_Memory_ownerOf : Cond.code M_Memory_ownerOf.1 M_Memory_ownerOf.2.1 M_Memory_ownerOf.2.2.1 M_Memory_ownerOf.2.2.2 ∈ px_tbl := px_in 369 (by decide +kernel) rfl
theorem i_Memory_ownerOf : Cond.initialized M_Memory_ownerOf.1.cls ∈ px_tbl := px_in 2 (by decide +kernel) rfl
theorem j_Memory_ownerOf : Cond.instanceMethod M_Memory_ownerOf.1 ∈ px_tbl := px_in 367 (by decide +kernel) rfl
theorem v_Memory_ownerOf : Cond.selects M_Memory_ownerOf.1.cls M_Memory_ownerOf.1 M_Memory_ownerOf.1 ∈ px_tbl := px_in 368 (by decide +kernel) rfl
theorem k_K_share : Cond.code M_K_share.1 M_K_share.2.1 M_K_share.2.2.1 M_K_share.2.2.2 ∈ px_tbl := px_in 374 (by decide +kernel) rfl
theorem i_K_share : Cond.initialized M_K_share.1.cls ∈ px_tbl := px_in 1 (by decide +kernel) rfl
theorem j_K_share : Cond.instanceMethod M_K_share.1 ∈ px_tbl := px_in 372 (by decide +kernel) rfl
theorem v_K_share : Cond.selects M_K_share.1.cls M_K_share.1 M_K_share.1 ∈ px_tbl := px_in 373 (by decide +kernel) rfl
theorem k_K_store : Cond.code M_K_store.1 M_K_store.2.1 M_K_store.2.2.1 M_K_store.2.2.2 ∈ px_tbl := px_in 379 (by decide +kernel) rfl
theorem i_K_store : Cond.initialized M_K_store.1.cls ∈ px_tbl := px_in 1 (by decide +kernel) rfl
theorem j_K_store : Cond.instanceMethod M_K_store.1 ∈ px_tbl := px_in 377 (by decide +kernel) rfl
theorem v_K_store : Cond.selects M_K_store.1.cls M_K_store.1 M_K_store.1 ∈ px_tbl := px_in 378 (by decide +kernel) rfl
theorem k_K_mayUse : Cond.code M_K_mayUse.1 M_K_mayUse.2.1 M_K_mayUse.2.2.1 M_K_mayUse.2.2.2 ∈ px_tbl := px_in 383 (by decide +kernel) rfl
theorem i_K_mayUse : Cond.initialized M_K_mayUse.1.cls ∈ px_tbl := px_in 1 (by decide +kernel) rfl
theorem j_K_mayUse : Cond.instanceMethod M_K_mayUse.1 ∈ px_tbl := px_in 382 (by decide +kernel) rfl
theorem v_K_mayUse : Cond.selects M_K_mayUse.1.cls M_K_mayUse.1 M_K_mayUse.1 ∈ px_tbl := px_inp 2 (by decide +kernel) rfl
theorem k_Memory_rightOf : Cond.code M_Memory_rightOf.1 M_Memory_rightOf.2.1 M_Memory_rightOf.2.2.1 M_Memory_rightOf.2.2.2 ∈ px_tbl := px_in 387 (by decide +kernel) rfl
theorem i_Memory_rightOf : Cond.initialized M_Memory_rightOf.1.cls ∈ px_tbl := px_in 2 (by decide +kernel) rfl
theorem j_Memory_rightOf : Cond.instanceMethod M_Memory_rightOf.1 ∈ px_tbl := px_in 385 (by decide +kernel) rfl
theorem v_Memory_rightOf : Cond.selects M_Memory_rightOf.1.cls M_Memory_rightOf.1 M_Memory_rightOf.1 ∈ px_tbl := px_in 386 (by decide +kernel) rfl
theorem k_K_fetch : Cond.code M_K_fetch.1 M_K_fetch.2.1 M_K_fetch.2.2.1 M_K_fetch.2.2.2 ∈ px_tbl := px_in 392 (by decide +kernel) rfl
theorem i_K_fetch : Cond.initialized M_K_fetch.1.cls ∈ px_tbl := px_in 1 (by decide +kernel) rfl
theorem j_K_fetch : Cond.instanceMethod M_K_fetch.1 ∈ px_tbl := px_in 390 (by decide +kernel) rfl
theorem v_K_fetch : Cond.selects M_K_fetch.1.cls M_K_fetch.1 M_K_fetch.1 ∈ px_tbl := px_in 391 (by decide +kernel) rfl
theorem k_Memory_wordOf : Cond.code M_Memory_wordOf.1 M_Memory_wordOf.2.1 M_Memory_wordOf.2.2.1 M_Memory_wordOf.2.2.2 ∈ px_tbl := px_in 397 (by decide +kernel) rfl
theorem i_Memory_wordOf : Cond.initialized M_Memory_wordOf.1.cls ∈ px_tbl := px_in 2 (by decide +kernel) rfl
theorem j_Memory_wordOf : Cond.instanceMethod M_Memory_wordOf.1 ∈ px_tbl := px_in 395 (by decide +kernel) rfl
theorem v_Memory_wordOf : Cond.selects M_Memory_wordOf.1.cls M_Memory_wordOf.1 M_Memory_wordOf.1 ∈ px_tbl := px_in 396 (by decide +kernel) rfl
theorem k_K_revoke : Cond.code M_K_revoke.1 M_K_revoke.2.1 M_K_revoke.2.2.1 M_K_revoke.2.2.2 ∈ px_tbl := px_in 401 (by decide +kernel) rfl
theorem i_K_revoke : Cond.initialized M_K_revoke.1.cls ∈ px_tbl := px_in 1 (by decide +kernel) rfl
theorem j_K_revoke : Cond.instanceMethod M_K_revoke.1 ∈ px_tbl := px_in 399 (by decide +kernel) rfl
theorem v_K_revoke : Cond.selects M_K_revoke.1.cls M_K_revoke.1 M_K_revoke.1 ∈ px_tbl := px_in 400 (by decide +kernel) rfl
theorem k_Memory_pageToName : Cond.code M_Memory_pageToName.1 M_Memory_pageToName.2.1 M_Memory_pageToName.2.2.1 M_Memory_pageToName.2.2.2 ∈ px_tbl := px_in 405 (by decide +kernel) rfl
theorem i_Memory_pageToName : Cond.initialized M_Memory_pageToName.1.cls ∈ px_tbl := px_in 2 (by decide +kernel) rfl
theorem j_Memory_pageToName : Cond.instanceMethod M_Memory_pageToName.1 ∈ px_tbl := px_in 403 (by decide +kernel) rfl
theorem v_Memory_pageToName : Cond.selects M_Memory_pageToName.1.cls M_Memory_pageToName.1 M_Memory_pageToName.1 ∈ px_tbl := px_in 404 (by decide +kernel) rfl
theorem k_Memory_nameAfter : Cond.code M_Memory_nameAfter.1 M_Memory_nameAfter.2.1 M_Memory_nameAfter.2.2.1 M_Memory_nameAfter.2.2.2 ∈ px_tbl := px_in 409 (by decide +kernel) rfl
theorem i_Memory_nameAfter : Cond.initialized M_Memory_nameAfter.1.cls ∈ px_tbl := px_in 2 (by decide +kernel) rfl
theorem j_Memory_nameAfter : Cond.instanceMethod M_Memory_nameAfter.1 ∈ px_tbl := px_in 407 (by decide +kernel) rfl
theorem v_Memory_nameAfter : Cond.selects M_Memory_nameAfter.1.cls M_Memory_nameAfter.1 M_Memory_nameAfter.1 ∈ px_tbl := px_in 408 (by decide +kernel) rfl
theorem k_K_tick : Cond.code M_K_tick.1 M_K_tick.2.1 M_K_tick.2.2.1 M_K_tick.2.2.2 ∈ px_tbl := px_in 413 (by decide +kernel) rfl
theorem i_K_tick : Cond.initialized M_K_tick.1.cls ∈ px_tbl := px_in 1 (by decide +kernel) rfl
theorem j_K_tick : Cond.instanceMethod M_K_tick.1 ∈ px_tbl := px_in 411 (by decide +kernel) rfl
theorem v_K_tick : Cond.selects M_K_tick.1.cls M_K_tick.1 M_K_tick.1 ∈ px_tbl := px_in 412 (by decide +kernel) rfl
theorem k_Memory_passTime : Cond.code M_Memory_passTime.1 M_Memory_passTime.2.1 M_Memory_passTime.2.2.1 M_Memory_passTime.2.2.2 ∈ px_tbl := px_in 417 (by decide +kernel) rfl
theorem i_Memory_passTime : Cond.initialized M_Memory_passTime.1.cls ∈ px_tbl := px_in 2 (by decide +kernel) rfl
theorem j_Memory_passTime : Cond.instanceMethod M_Memory_passTime.1 ∈ px_tbl := px_in 415 (by decide +kernel) rfl
theorem v_Memory_passTime : Cond.selects M_Memory_passTime.1.cls M_Memory_passTime.1 M_Memory_passTime.1 ∈ px_tbl := px_in 416 (by decide +kernel) rfl
theorem k_Memory_firstDue : Cond.code M_Memory_firstDue.1 M_Memory_firstDue.2.1 M_Memory_firstDue.2.2.1 M_Memory_firstDue.2.2.2 ∈ px_tbl := px_in 421 (by decide +kernel) rfl
theorem i_Memory_firstDue : Cond.initialized M_Memory_firstDue.1.cls ∈ px_tbl := px_in 2 (by decide +kernel) rfl
theorem j_Memory_firstDue : Cond.instanceMethod M_Memory_firstDue.1 ∈ px_tbl := px_in 419 (by decide +kernel) rfl
theorem v_Memory_firstDue : Cond.selects M_Memory_firstDue.1.cls M_Memory_firstDue.1 M_Memory_firstDue.1 ∈ px_tbl := px_in 420 (by decide +kernel) rfl
theorem k_PageList_append : Cond.code M_PageList_append.1 M_PageList_append.2.1 M_PageList_append.2.2.1 M_PageList_append.2.2.2 ∈ px_tbl := px_in 425 (by decide +kernel) rfl
theorem i_PageList_append : Cond.initialized M_PageList_append.1.cls ∈ px_tbl := px_in 8 (by decide +kernel) rfl
theorem j_PageList_append : Cond.instanceMethod M_PageList_append.1 ∈ px_tbl := px_in 423 (by decide +kernel) rfl
theorem v_PageList_append : Cond.selects M_PageList_append.1.cls M_PageList_append.1 M_PageList_append.1 ∈ px_tbl := px_in 424 (by decide +kernel) rfl
theorem k_K_op : Cond.code M_K_op.1 M_K_op.2.1 M_K_op.2.2.1 M_K_op.2.2.2 ∈ px_tbl := px_in 430 (by decide +kernel) rfl
theorem i_K_op : Cond.initialized M_K_op.1.cls ∈ px_tbl := px_in 1 (by decide +kernel) rfl
theorem j_K_op : Cond.instanceMethod M_K_op.1 ∈ px_tbl := px_in 428 (by decide +kernel) rfl
theorem v_K_op : Cond.selects M_K_op.1.cls M_K_op.1 M_K_op.1 ∈ px_tbl := px_in 429 (by decide +kernel) rfl
theorem k_Program_isInstruction : Cond.code M_Program_isInstruction.1 M_Program_isInstruction.2.1 M_Program_isInstruction.2.2.1 M_Program_isInstruction.2.2.2 ∈ px_tbl := px_in 433 (by decide +kernel) rfl
theorem i_Program_isInstruction : Cond.initialized M_Program_isInstruction.1.cls ∈ px_tbl := px_in 11 (by decide +kernel) rfl
theorem s_Program_isInstruction : Cond.static M_Program_isInstruction.1 ∈ px_tbl := px_in 432 (by decide +kernel) rfl
theorem k_Program_isTest : Cond.code M_Program_isTest.1 M_Program_isTest.2.1 M_Program_isTest.2.2.1 M_Program_isTest.2.2.2 ∈ px_tbl := px_in 437 (by decide +kernel) rfl
theorem i_Program_isTest : Cond.initialized M_Program_isTest.1.cls ∈ px_tbl := px_in 11 (by decide +kernel) rfl
theorem s_Program_isTest : Cond.static M_Program_isTest.1 ∈ px_tbl := px_in 436 (by decide +kernel) rfl
theorem k_Program_isFull : Cond.code M_Program_isFull.1 M_Program_isFull.2.1 M_Program_isFull.2.2.1 M_Program_isFull.2.2.2 ∈ px_tbl := px_in 441 (by decide +kernel) rfl
theorem i_Program_isFull : Cond.initialized M_Program_isFull.1.cls ∈ px_tbl := px_in 11 (by decide +kernel) rfl
theorem j_Program_isFull : Cond.instanceMethod M_Program_isFull.1 ∈ px_tbl := px_in 439 (by decide +kernel) rfl
theorem v_Program_isFull : Cond.selects M_Program_isFull.1.cls M_Program_isFull.1 M_Program_isFull.1 ∈ px_tbl := px_in 440 (by decide +kernel) rfl
theorem k_Program_append : Cond.code M_Program_append.1 M_Program_append.2.1 M_Program_append.2.2.1 M_Program_append.2.2.2 ∈ px_tbl := px_in 445 (by decide +kernel) rfl
theorem i_Program_append : Cond.initialized M_Program_append.1.cls ∈ px_tbl := px_in 11 (by decide +kernel) rfl
theorem j_Program_append : Cond.instanceMethod M_Program_append.1 ∈ px_tbl := px_in 443 (by decide +kernel) rfl
theorem v_Program_append : Cond.selects M_Program_append.1.cls M_Program_append.1 M_Program_append.1 ∈ px_tbl := px_in 444 (by decide +kernel) rfl
theorem k_K_install : Cond.code M_K_install.1 M_K_install.2.1 M_K_install.2.2.1 M_K_install.2.2.2 ∈ px_tbl := px_in 449 (by decide +kernel) rfl
theorem i_K_install : Cond.initialized M_K_install.1.cls ∈ px_tbl := px_in 1 (by decide +kernel) rfl
theorem j_K_install : Cond.instanceMethod M_K_install.1 ∈ px_tbl := px_in 447 (by decide +kernel) rfl
theorem v_K_install : Cond.selects M_K_install.1.cls M_K_install.1 M_K_install.1 ∈ px_tbl := px_in 448 (by decide +kernel) rfl
theorem k_Program_isSound : Cond.code M_Program_isSound.1 M_Program_isSound.2.1 M_Program_isSound.2.2.1 M_Program_isSound.2.2.2 ∈ px_tbl := px_in 453 (by decide +kernel) rfl
theorem i_Program_isSound : Cond.initialized M_Program_isSound.1.cls ∈ px_tbl := px_in 11 (by decide +kernel) rfl
theorem j_Program_isSound : Cond.instanceMethod M_Program_isSound.1 ∈ px_tbl := px_in 451 (by decide +kernel) rfl
theorem v_Program_isSound : Cond.selects M_Program_isSound.1.cls M_Program_isSound.1 M_Program_isSound.1 ∈ px_tbl := px_in 452 (by decide +kernel) rfl
theorem k_FilterOrder_append : Cond.code M_FilterOrder_append.1 M_FilterOrder_append.2.1 M_FilterOrder_append.2.2.1 M_FilterOrder_append.2.2.2 ∈ px_tbl := px_in 459 (by decide +kernel) rfl
theorem i_FilterOrder_append : Cond.initialized M_FilterOrder_append.1.cls ∈ px_tbl := px_in 5 (by decide +kernel) rfl
theorem j_FilterOrder_append : Cond.instanceMethod M_FilterOrder_append.1 ∈ px_tbl := px_in 457 (by decide +kernel) rfl
theorem v_FilterOrder_append : Cond.selects M_FilterOrder_append.1.cls M_FilterOrder_append.1 M_FilterOrder_append.1 ∈ px_tbl := px_in 458 (by decide +kernel) rfl
theorem k_Application_draftBecomesFilter : Cond.code M_Application_draftBecomesFilter.1 M_Application_draftBecomesFilter.2.1 M_Application_draftBecomesFilter.2.2.1 M_Application_draftBecomesFilter.2.2.2 ∈ px_tbl := px_in 463 (by decide +kernel) rfl
theorem i_Application_draftBecomesFilter : Cond.initialized M_Application_draftBecomesFilter.1.cls ∈ px_tbl := px_in 7 (by decide +kernel) rfl
theorem j_Application_draftBecomesFilter : Cond.instanceMethod M_Application_draftBecomesFilter.1 ∈ px_tbl := px_in 461 (by decide +kernel) rfl
theorem v_Application_draftBecomesFilter : Cond.selects M_Application_draftBecomesFilter.1.cls M_Application_draftBecomesFilter.1 M_Application_draftBecomesFilter.1 ∈ px_tbl := px_in 462 (by decide +kernel) rfl
theorem k_K_push : Cond.code M_K_push.1 M_K_push.2.1 M_K_push.2.2.1 M_K_push.2.2.2 ∈ px_tbl := px_in 467 (by decide +kernel) rfl
theorem i_K_push : Cond.initialized M_K_push.1.cls ∈ px_tbl := px_in 1 (by decide +kernel) rfl
theorem j_K_push : Cond.instanceMethod M_K_push.1 ∈ px_tbl := px_in 465 (by decide +kernel) rfl
theorem v_K_push : Cond.selects M_K_push.1.cls M_K_push.1 M_K_push.1 ∈ px_tbl := px_in 466 (by decide +kernel) rfl
theorem k_Frame_isFull : Cond.code M_Frame_isFull.1 M_Frame_isFull.2.1 M_Frame_isFull.2.2.1 M_Frame_isFull.2.2.2 ∈ px_tbl := px_in 471 (by decide +kernel) rfl
theorem i_Frame_isFull : Cond.initialized M_Frame_isFull.1.cls ∈ px_tbl := px_in 6 (by decide +kernel) rfl
theorem j_Frame_isFull : Cond.instanceMethod M_Frame_isFull.1 ∈ px_tbl := px_in 469 (by decide +kernel) rfl
theorem v_Frame_isFull : Cond.selects M_Frame_isFull.1.cls M_Frame_isFull.1 M_Frame_isFull.1 ∈ px_tbl := px_in 470 (by decide +kernel) rfl
theorem k_Frame_append : Cond.code M_Frame_append.1 M_Frame_append.2.1 M_Frame_append.2.2.1 M_Frame_append.2.2.2 ∈ px_tbl := px_in 475 (by decide +kernel) rfl
theorem i_Frame_append : Cond.initialized M_Frame_append.1.cls ∈ px_tbl := px_in 6 (by decide +kernel) rfl
theorem j_Frame_append : Cond.instanceMethod M_Frame_append.1 ∈ px_tbl := px_in 473 (by decide +kernel) rfl
theorem v_Frame_append : Cond.selects M_Frame_append.1.cls M_Frame_append.1 M_Frame_append.1 ∈ px_tbl := px_in 474 (by decide +kernel) rfl
theorem k_K_arrive : Cond.code M_K_arrive.1 M_K_arrive.2.1 M_K_arrive.2.2.1 M_K_arrive.2.2.2 ∈ px_tbl := px_in 479 (by decide +kernel) rfl
theorem i_K_arrive : Cond.initialized M_K_arrive.1.cls ∈ px_tbl := px_in 1 (by decide +kernel) rfl
theorem j_K_arrive : Cond.instanceMethod M_K_arrive.1 ∈ px_tbl := px_in 477 (by decide +kernel) rfl
theorem v_K_arrive : Cond.selects M_K_arrive.1.cls M_K_arrive.1 M_K_arrive.1 ∈ px_tbl := px_in 478 (by decide +kernel) rfl
theorem k_K_firstAccepting : Cond.code M_K_firstAccepting.1 M_K_firstAccepting.2.1 M_K_firstAccepting.2.2.1 M_K_firstAccepting.2.2.2 ∈ px_tbl := px_in 483 (by decide +kernel) rfl
theorem i_K_firstAccepting : Cond.initialized M_K_firstAccepting.1.cls ∈ px_tbl := px_in 1 (by decide +kernel) rfl
theorem j_K_firstAccepting : Cond.instanceMethod M_K_firstAccepting.1 ∈ px_tbl := px_in 482 (by decide +kernel) rfl
theorem v_K_firstAccepting : Cond.selects M_K_firstAccepting.1.cls M_K_firstAccepting.1 M_K_firstAccepting.1 ∈ px_tbl := px_inp 3 (by decide +kernel) rfl
theorem k_FilterOrder_appAt : Cond.code M_FilterOrder_appAt.1 M_FilterOrder_appAt.2.1 M_FilterOrder_appAt.2.2.1 M_FilterOrder_appAt.2.2.2 ∈ px_tbl := px_in 487 (by decide +kernel) rfl
theorem i_FilterOrder_appAt : Cond.initialized M_FilterOrder_appAt.1.cls ∈ px_tbl := px_in 5 (by decide +kernel) rfl
theorem j_FilterOrder_appAt : Cond.instanceMethod M_FilterOrder_appAt.1 ∈ px_tbl := px_in 485 (by decide +kernel) rfl
theorem v_FilterOrder_appAt : Cond.selects M_FilterOrder_appAt.1.cls M_FilterOrder_appAt.1 M_FilterOrder_appAt.1 ∈ px_tbl := px_in 486 (by decide +kernel) rfl
theorem k_Program_accepts : Cond.code M_Program_accepts.1 M_Program_accepts.2.1 M_Program_accepts.2.2.1 M_Program_accepts.2.2.2 ∈ px_tbl := px_in 491 (by decide +kernel) rfl
theorem i_Program_accepts : Cond.initialized M_Program_accepts.1.cls ∈ px_tbl := px_in 11 (by decide +kernel) rfl
theorem j_Program_accepts : Cond.instanceMethod M_Program_accepts.1 ∈ px_tbl := px_in 489 (by decide +kernel) rfl
theorem v_Program_accepts : Cond.selects M_Program_accepts.1.cls M_Program_accepts.1 M_Program_accepts.1 ∈ px_tbl := px_in 490 (by decide +kernel) rfl
theorem k_Frame_hasByte : Cond.code M_Frame_hasByte.1 M_Frame_hasByte.2.1 M_Frame_hasByte.2.2.1 M_Frame_hasByte.2.2.2 ∈ px_tbl := px_in 495 (by decide +kernel) rfl
theorem i_Frame_hasByte : Cond.initialized M_Frame_hasByte.1.cls ∈ px_tbl := px_in 6 (by decide +kernel) rfl
theorem j_Frame_hasByte : Cond.instanceMethod M_Frame_hasByte.1 ∈ px_tbl := px_in 493 (by decide +kernel) rfl
theorem v_Frame_hasByte : Cond.selects M_Frame_hasByte.1.cls M_Frame_hasByte.1 M_Frame_hasByte.1 ∈ px_tbl := px_in 494 (by decide +kernel) rfl
theorem k_Frame_byteAt : Cond.code M_Frame_byteAt.1 M_Frame_byteAt.2.1 M_Frame_byteAt.2.2.1 M_Frame_byteAt.2.2.2 ∈ px_tbl := px_in 499 (by decide +kernel) rfl
theorem i_Frame_byteAt : Cond.initialized M_Frame_byteAt.1.cls ∈ px_tbl := px_in 6 (by decide +kernel) rfl
theorem j_Frame_byteAt : Cond.instanceMethod M_Frame_byteAt.1 ∈ px_tbl := px_in 497 (by decide +kernel) rfl
theorem v_Frame_byteAt : Cond.selects M_Frame_byteAt.1.cls M_Frame_byteAt.1 M_Frame_byteAt.1 ∈ px_tbl := px_in 498 (by decide +kernel) rfl
theorem k_Program_reckon : Cond.code M_Program_reckon.1 M_Program_reckon.2.1 M_Program_reckon.2.2.1 M_Program_reckon.2.2.2 ∈ px_tbl := px_in 502 (by decide +kernel) rfl
theorem i_Program_reckon : Cond.initialized M_Program_reckon.1.cls ∈ px_tbl := px_in 11 (by decide +kernel) rfl
theorem s_Program_reckon : Cond.static M_Program_reckon.1 ∈ px_tbl := px_in 501 (by decide +kernel) rfl
theorem k_Program_holds : Cond.code M_Program_holds.1 M_Program_holds.2.1 M_Program_holds.2.2.1 M_Program_holds.2.2.2 ∈ px_tbl := px_in 505 (by decide +kernel) rfl
theorem i_Program_holds : Cond.initialized M_Program_holds.1.cls ∈ px_tbl := px_in 11 (by decide +kernel) rfl
theorem s_Program_holds : Cond.static M_Program_holds.1 ∈ px_tbl := px_in 504 (by decide +kernel) rfl
theorem k_K_deliver : Cond.code M_K_deliver.1 M_K_deliver.2.1 M_K_deliver.2.2.1 M_K_deliver.2.2.2 ∈ px_tbl := px_in 509 (by decide +kernel) rfl
theorem i_K_deliver : Cond.initialized M_K_deliver.1.cls ∈ px_tbl := px_in 1 (by decide +kernel) rfl
theorem j_K_deliver : Cond.instanceMethod M_K_deliver.1 ∈ px_tbl := px_in 508 (by decide +kernel) rfl
theorem v_K_deliver : Cond.selects M_K_deliver.1.cls M_K_deliver.1 M_K_deliver.1 ∈ px_tbl := px_inp 4 (by decide +kernel) rfl
theorem k_FrameQueue_isFull : Cond.code M_FrameQueue_isFull.1 M_FrameQueue_isFull.2.1 M_FrameQueue_isFull.2.2.1 M_FrameQueue_isFull.2.2.2 ∈ px_tbl := px_in 513 (by decide +kernel) rfl
theorem i_FrameQueue_isFull : Cond.initialized M_FrameQueue_isFull.1.cls ∈ px_tbl := px_in 9 (by decide +kernel) rfl
theorem j_FrameQueue_isFull : Cond.instanceMethod M_FrameQueue_isFull.1 ∈ px_tbl := px_in 511 (by decide +kernel) rfl
theorem v_FrameQueue_isFull : Cond.selects M_FrameQueue_isFull.1.cls M_FrameQueue_isFull.1 M_FrameQueue_isFull.1 ∈ px_tbl := px_in 512 (by decide +kernel) rfl
theorem k_FrameQueue_append : Cond.code M_FrameQueue_append.1 M_FrameQueue_append.2.1 M_FrameQueue_append.2.2.1 M_FrameQueue_append.2.2.2 ∈ px_tbl := px_in 517 (by decide +kernel) rfl
theorem i_FrameQueue_append : Cond.initialized M_FrameQueue_append.1.cls ∈ px_tbl := px_in 9 (by decide +kernel) rfl
theorem j_FrameQueue_append : Cond.instanceMethod M_FrameQueue_append.1 ∈ px_tbl := px_in 515 (by decide +kernel) rfl
theorem v_FrameQueue_append : Cond.selects M_FrameQueue_append.1.cls M_FrameQueue_append.1 M_FrameQueue_append.1 ∈ px_tbl := px_in 516 (by decide +kernel) rfl
theorem k_Frame_copyFrom : Cond.code M_Frame_copyFrom.1 M_Frame_copyFrom.2.1 M_Frame_copyFrom.2.2.1 M_Frame_copyFrom.2.2.2 ∈ px_tbl := px_in 521 (by decide +kernel) rfl
theorem i_Frame_copyFrom : Cond.initialized M_Frame_copyFrom.1.cls ∈ px_tbl := px_in 6 (by decide +kernel) rfl
theorem j_Frame_copyFrom : Cond.instanceMethod M_Frame_copyFrom.1 ∈ px_tbl := px_in 519 (by decide +kernel) rfl
theorem v_Frame_copyFrom : Cond.selects M_Frame_copyFrom.1.cls M_Frame_copyFrom.1 M_Frame_copyFrom.1 ∈ px_tbl := px_in 520 (by decide +kernel) rfl
theorem k_Frame_clear : Cond.code M_Frame_clear.1 M_Frame_clear.2.1 M_Frame_clear.2.2.1 M_Frame_clear.2.2.2 ∈ px_tbl := px_in 528 (by decide +kernel) rfl
theorem i_Frame_clear : Cond.initialized M_Frame_clear.1.cls ∈ px_tbl := px_in 6 (by decide +kernel) rfl
theorem j_Frame_clear : Cond.instanceMethod M_Frame_clear.1 ∈ px_tbl := px_in 526 (by decide +kernel) rfl
theorem v_Frame_clear : Cond.selects M_Frame_clear.1.cls M_Frame_clear.1 M_Frame_clear.1 ∈ px_tbl := px_in 527 (by decide +kernel) rfl
theorem k_K_got : Cond.code M_K_got.1 M_K_got.2.1 M_K_got.2.2.1 M_K_got.2.2.2 ∈ px_tbl := px_in 532 (by decide +kernel) rfl
theorem i_K_got : Cond.initialized M_K_got.1.cls ∈ px_tbl := px_in 1 (by decide +kernel) rfl
theorem j_K_got : Cond.instanceMethod M_K_got.1 ∈ px_tbl := px_in 530 (by decide +kernel) rfl
theorem v_K_got : Cond.selects M_K_got.1.cls M_K_got.1 M_K_got.1 ∈ px_tbl := px_in 531 (by decide +kernel) rfl
theorem k_FrameQueue_oldest : Cond.code M_FrameQueue_oldest.1 M_FrameQueue_oldest.2.1 M_FrameQueue_oldest.2.2.1 M_FrameQueue_oldest.2.2.2 ∈ px_tbl := px_in 536 (by decide +kernel) rfl
theorem i_FrameQueue_oldest : Cond.initialized M_FrameQueue_oldest.1.cls ∈ px_tbl := px_in 9 (by decide +kernel) rfl
theorem j_FrameQueue_oldest : Cond.instanceMethod M_FrameQueue_oldest.1 ∈ px_tbl := px_in 534 (by decide +kernel) rfl
theorem v_FrameQueue_oldest : Cond.selects M_FrameQueue_oldest.1.cls M_FrameQueue_oldest.1 M_FrameQueue_oldest.1 ∈ px_tbl := px_in 535 (by decide +kernel) rfl
theorem k_K_next : Cond.code M_K_next.1 M_K_next.2.1 M_K_next.2.2.1 M_K_next.2.2.2 ∈ px_tbl := px_in 542 (by decide +kernel) rfl
theorem i_K_next : Cond.initialized M_K_next.1.cls ∈ px_tbl := px_in 1 (by decide +kernel) rfl
theorem j_K_next : Cond.instanceMethod M_K_next.1 ∈ px_tbl := px_in 540 (by decide +kernel) rfl
theorem v_K_next : Cond.selects M_K_next.1.cls M_K_next.1 M_K_next.1 ∈ px_tbl := px_in 541 (by decide +kernel) rfl
theorem k_FrameQueue_dropOldest : Cond.code M_FrameQueue_dropOldest.1 M_FrameQueue_dropOldest.2.1 M_FrameQueue_dropOldest.2.2.1 M_FrameQueue_dropOldest.2.2.2 ∈ px_tbl := px_in 546 (by decide +kernel) rfl
theorem i_FrameQueue_dropOldest : Cond.initialized M_FrameQueue_dropOldest.1.cls ∈ px_tbl := px_in 9 (by decide +kernel) rfl
theorem j_FrameQueue_dropOldest : Cond.instanceMethod M_FrameQueue_dropOldest.1 ∈ px_tbl := px_in 544 (by decide +kernel) rfl
theorem v_FrameQueue_dropOldest : Cond.selects M_FrameQueue_dropOldest.1.cls M_FrameQueue_dropOldest.1 M_FrameQueue_dropOldest.1 ∈ px_tbl := px_in 545 (by decide +kernel) rfl
theorem k_K_write : Cond.code M_K_write.1 M_K_write.2.1 M_K_write.2.2.1 M_K_write.2.2.2 ∈ px_tbl := px_in 550 (by decide +kernel) rfl
theorem i_K_write : Cond.initialized M_K_write.1.cls ∈ px_tbl := px_in 1 (by decide +kernel) rfl
theorem j_K_write : Cond.instanceMethod M_K_write.1 ∈ px_tbl := px_in 548 (by decide +kernel) rfl
theorem v_K_write : Cond.selects M_K_write.1.cls M_K_write.1 M_K_write.1 ∈ px_tbl := px_in 549 (by decide +kernel) rfl
theorem k_Disk_hasBlock : Cond.code M_Disk_hasBlock.1 M_Disk_hasBlock.2.1 M_Disk_hasBlock.2.2.1 M_Disk_hasBlock.2.2.2 ∈ px_tbl := px_in 554 (by decide +kernel) rfl
theorem i_Disk_hasBlock : Cond.initialized M_Disk_hasBlock.1.cls ∈ px_tbl := px_in 4 (by decide +kernel) rfl
theorem j_Disk_hasBlock : Cond.instanceMethod M_Disk_hasBlock.1 ∈ px_tbl := px_in 552 (by decide +kernel) rfl
theorem v_Disk_hasBlock : Cond.selects M_Disk_hasBlock.1.cls M_Disk_hasBlock.1 M_Disk_hasBlock.1 ∈ px_tbl := px_in 553 (by decide +kernel) rfl
theorem k_Disk_ownerOf : Cond.code M_Disk_ownerOf.1 M_Disk_ownerOf.2.1 M_Disk_ownerOf.2.2.1 M_Disk_ownerOf.2.2.2 ∈ px_tbl := px_in 558 (by decide +kernel) rfl
theorem i_Disk_ownerOf : Cond.initialized M_Disk_ownerOf.1.cls ∈ px_tbl := px_in 4 (by decide +kernel) rfl
theorem j_Disk_ownerOf : Cond.instanceMethod M_Disk_ownerOf.1 ∈ px_tbl := px_in 556 (by decide +kernel) rfl
theorem v_Disk_ownerOf : Cond.selects M_Disk_ownerOf.1.cls M_Disk_ownerOf.1 M_Disk_ownerOf.1 ∈ px_tbl := px_in 557 (by decide +kernel) rfl
theorem k_Application_isLink : Cond.code M_Application_isLink.1 M_Application_isLink.2.1 M_Application_isLink.2.2.1 M_Application_isLink.2.2.2 ∈ px_tbl := px_in 562 (by decide +kernel) rfl
theorem i_Application_isLink : Cond.initialized M_Application_isLink.1.cls ∈ px_tbl := px_in 7 (by decide +kernel) rfl
theorem j_Application_isLink : Cond.instanceMethod M_Application_isLink.1 ∈ px_tbl := px_in 560 (by decide +kernel) rfl
theorem v_Application_isLink : Cond.selects M_Application_isLink.1.cls M_Application_isLink.1 M_Application_isLink.1 ∈ px_tbl := px_in 561 (by decide +kernel) rfl
theorem k_K_relink : Cond.code M_K_relink.1 M_K_relink.2.1 M_K_relink.2.2.1 M_K_relink.2.2.2 ∈ px_tbl := px_in 566 (by decide +kernel) rfl
theorem i_K_relink : Cond.initialized M_K_relink.1.cls ∈ px_tbl := px_in 1 (by decide +kernel) rfl
theorem j_K_relink : Cond.instanceMethod M_K_relink.1 ∈ px_tbl := px_in 565 (by decide +kernel) rfl
theorem v_K_relink : Cond.selects M_K_relink.1.cls M_K_relink.1 M_K_relink.1 ∈ px_tbl := px_inp 5 (by decide +kernel) rfl
theorem k_Disk_wordOf : Cond.code M_Disk_wordOf.1 M_Disk_wordOf.2.1 M_Disk_wordOf.2.2.1 M_Disk_wordOf.2.2.2 ∈ px_tbl := px_in 570 (by decide +kernel) rfl
theorem i_Disk_wordOf : Cond.initialized M_Disk_wordOf.1.cls ∈ px_tbl := px_in 4 (by decide +kernel) rfl
theorem j_Disk_wordOf : Cond.instanceMethod M_Disk_wordOf.1 ∈ px_tbl := px_in 568 (by decide +kernel) rfl
theorem v_Disk_wordOf : Cond.selects M_Disk_wordOf.1.cls M_Disk_wordOf.1 M_Disk_wordOf.1 ∈ px_tbl := px_in 569 (by decide +kernel) rfl
theorem k_Disk_namesBlocks : Cond.code M_Disk_namesBlocks.1 M_Disk_namesBlocks.2.1 M_Disk_namesBlocks.2.2.1 M_Disk_namesBlocks.2.2.2 ∈ px_tbl := px_in 574 (by decide +kernel) rfl
theorem i_Disk_namesBlocks : Cond.initialized M_Disk_namesBlocks.1.cls ∈ px_tbl := px_in 4 (by decide +kernel) rfl
theorem j_Disk_namesBlocks : Cond.instanceMethod M_Disk_namesBlocks.1 ∈ px_tbl := px_in 572 (by decide +kernel) rfl
theorem v_Disk_namesBlocks : Cond.selects M_Disk_namesBlocks.1.cls M_Disk_namesBlocks.1 M_Disk_namesBlocks.1 ∈ px_tbl := px_in 573 (by decide +kernel) rfl
theorem k_K_put : Cond.code M_K_put.1 M_K_put.2.1 M_K_put.2.2.1 M_K_put.2.2.2 ∈ px_tbl := px_in 582 (by decide +kernel) rfl
theorem i_K_put : Cond.initialized M_K_put.1.cls ∈ px_tbl := px_in 1 (by decide +kernel) rfl
theorem j_K_put : Cond.instanceMethod M_K_put.1 ∈ px_tbl := px_in 580 (by decide +kernel) rfl
theorem v_K_put : Cond.selects M_K_put.1.cls M_K_put.1 M_K_put.1 ∈ px_tbl := px_in 581 (by decide +kernel) rfl
theorem k_EntryTable_placeOf : Cond.code M_EntryTable_placeOf.1 M_EntryTable_placeOf.2.1 M_EntryTable_placeOf.2.2.1 M_EntryTable_placeOf.2.2.2 ∈ px_tbl := px_in 586 (by decide +kernel) rfl
theorem i_EntryTable_placeOf : Cond.initialized M_EntryTable_placeOf.1.cls ∈ px_tbl := px_in 10 (by decide +kernel) rfl
theorem j_EntryTable_placeOf : Cond.instanceMethod M_EntryTable_placeOf.1 ∈ px_tbl := px_in 584 (by decide +kernel) rfl
theorem v_EntryTable_placeOf : Cond.selects M_EntryTable_placeOf.1.cls M_EntryTable_placeOf.1 M_EntryTable_placeOf.1 ∈ px_tbl := px_in 585 (by decide +kernel) rfl
theorem k_EntryTable_keyAt : Cond.code M_EntryTable_keyAt.1 M_EntryTable_keyAt.2.1 M_EntryTable_keyAt.2.2.1 M_EntryTable_keyAt.2.2.2 ∈ px_tbl := px_in 590 (by decide +kernel) rfl
theorem i_EntryTable_keyAt : Cond.initialized M_EntryTable_keyAt.1.cls ∈ px_tbl := px_in 10 (by decide +kernel) rfl
theorem j_EntryTable_keyAt : Cond.instanceMethod M_EntryTable_keyAt.1 ∈ px_tbl := px_in 588 (by decide +kernel) rfl
theorem v_EntryTable_keyAt : Cond.selects M_EntryTable_keyAt.1.cls M_EntryTable_keyAt.1 M_EntryTable_keyAt.1 ∈ px_tbl := px_in 589 (by decide +kernel) rfl
theorem k_EntryTable_blockOf : Cond.code M_EntryTable_blockOf.1 M_EntryTable_blockOf.2.1 M_EntryTable_blockOf.2.2.1 M_EntryTable_blockOf.2.2.2 ∈ px_tbl := px_in 594 (by decide +kernel) rfl
theorem i_EntryTable_blockOf : Cond.initialized M_EntryTable_blockOf.1.cls ∈ px_tbl := px_in 10 (by decide +kernel) rfl
theorem j_EntryTable_blockOf : Cond.instanceMethod M_EntryTable_blockOf.1 ∈ px_tbl := px_in 593 (by decide +kernel) rfl
theorem v_EntryTable_blockOf : Cond.selects M_EntryTable_blockOf.1.cls M_EntryTable_blockOf.1 M_EntryTable_blockOf.1 ∈ px_tbl := px_inp 6 (by decide +kernel) rfl
theorem k_EntryTable_keyWordOf : Cond.code M_EntryTable_keyWordOf.1 M_EntryTable_keyWordOf.2.1 M_EntryTable_keyWordOf.2.2.1 M_EntryTable_keyWordOf.2.2.2 ∈ px_tbl := px_in 597 (by decide +kernel) rfl
theorem i_EntryTable_keyWordOf : Cond.initialized M_EntryTable_keyWordOf.1.cls ∈ px_tbl := px_in 10 (by decide +kernel) rfl
theorem s_EntryTable_keyWordOf : Cond.static M_EntryTable_keyWordOf.1 ∈ px_tbl := px_in 596 (by decide +kernel) rfl
theorem k_EntryTable_append : Cond.code M_EntryTable_append.1 M_EntryTable_append.2.1 M_EntryTable_append.2.2.1 M_EntryTable_append.2.2.2 ∈ px_tbl := px_in 602 (by decide +kernel) rfl
theorem i_EntryTable_append : Cond.initialized M_EntryTable_append.1.cls ∈ px_tbl := px_in 10 (by decide +kernel) rfl
theorem j_EntryTable_append : Cond.instanceMethod M_EntryTable_append.1 ∈ px_tbl := px_in 600 (by decide +kernel) rfl
theorem v_EntryTable_append : Cond.selects M_EntryTable_append.1.cls M_EntryTable_append.1 M_EntryTable_append.1 ∈ px_tbl := px_in 601 (by decide +kernel) rfl
theorem k_EntryTable_setEntry : Cond.code M_EntryTable_setEntry.1 M_EntryTable_setEntry.2.1 M_EntryTable_setEntry.2.2.1 M_EntryTable_setEntry.2.2.2 ∈ px_tbl := px_in 608 (by decide +kernel) rfl
theorem i_EntryTable_setEntry : Cond.initialized M_EntryTable_setEntry.1.cls ∈ px_tbl := px_in 10 (by decide +kernel) rfl
theorem j_EntryTable_setEntry : Cond.instanceMethod M_EntryTable_setEntry.1 ∈ px_tbl := px_in 606 (by decide +kernel) rfl
theorem v_EntryTable_setEntry : Cond.selects M_EntryTable_setEntry.1.cls M_EntryTable_setEntry.1 M_EntryTable_setEntry.1 ∈ px_tbl := px_in 607 (by decide +kernel) rfl
theorem k_EntryTable_removeAt : Cond.code M_EntryTable_removeAt.1 M_EntryTable_removeAt.2.1 M_EntryTable_removeAt.2.2.1 M_EntryTable_removeAt.2.2.2 ∈ px_tbl := px_in 614 (by decide +kernel) rfl
theorem i_EntryTable_removeAt : Cond.initialized M_EntryTable_removeAt.1.cls ∈ px_tbl := px_in 10 (by decide +kernel) rfl
theorem j_EntryTable_removeAt : Cond.instanceMethod M_EntryTable_removeAt.1 ∈ px_tbl := px_in 612 (by decide +kernel) rfl
theorem v_EntryTable_removeAt : Cond.selects M_EntryTable_removeAt.1.cls M_EntryTable_removeAt.1 M_EntryTable_removeAt.1 ∈ px_tbl := px_in 613 (by decide +kernel) rfl
theorem k_EntryTable_valueAt : Cond.code M_EntryTable_valueAt.1 M_EntryTable_valueAt.2.1 M_EntryTable_valueAt.2.2.1 M_EntryTable_valueAt.2.2.2 ∈ px_tbl := px_in 618 (by decide +kernel) rfl
theorem i_EntryTable_valueAt : Cond.initialized M_EntryTable_valueAt.1.cls ∈ px_tbl := px_in 10 (by decide +kernel) rfl
theorem j_EntryTable_valueAt : Cond.instanceMethod M_EntryTable_valueAt.1 ∈ px_tbl := px_in 616 (by decide +kernel) rfl
theorem v_EntryTable_valueAt : Cond.selects M_EntryTable_valueAt.1.cls M_EntryTable_valueAt.1 M_EntryTable_valueAt.1 ∈ px_tbl := px_in 617 (by decide +kernel) rfl
theorem k_K_get : Cond.code M_K_get.1 M_K_get.2.1 M_K_get.2.2.1 M_K_get.2.2.2 ∈ px_tbl := px_in 623 (by decide +kernel) rfl
theorem i_K_get : Cond.initialized M_K_get.1.cls ∈ px_tbl := px_in 1 (by decide +kernel) rfl
theorem j_K_get : Cond.instanceMethod M_K_get.1 ∈ px_tbl := px_in 621 (by decide +kernel) rfl
theorem v_K_get : Cond.selects M_K_get.1.cls M_K_get.1 M_K_get.1 ∈ px_tbl := px_in 622 (by decide +kernel) rfl
theorem k_Math_floorDiv : Cond.code M_Math_floorDiv.1 M_Math_floorDiv.2.1 M_Math_floorDiv.2.2.1 M_Math_floorDiv.2.2.2 ∈ px_tbl := px_in 627 (by decide +kernel) rfl
theorem i_Math_floorDiv : Cond.initialized M_Math_floorDiv.1.cls ∈ px_tbl := px_in 3 (by decide +kernel) rfl
theorem s_Math_floorDiv : Cond.static M_Math_floorDiv.1 ∈ px_tbl := px_in 626 (by decide +kernel) rfl
theorem k_Math_floorMod : Cond.code M_Math_floorMod.1 M_Math_floorMod.2.1 M_Math_floorMod.2.2.1 M_Math_floorMod.2.2.2 ∈ px_tbl := px_in 630 (by decide +kernel) rfl
theorem i_Math_floorMod : Cond.initialized M_Math_floorMod.1.cls ∈ px_tbl := px_in 3 (by decide +kernel) rfl
theorem s_Math_floorMod : Cond.static M_Math_floorMod.1 ∈ px_tbl := px_in 629 (by decide +kernel) rfl
theorem k_K_holder : Cond.code M_K_holder.1 M_K_holder.2.1 M_K_holder.2.2.1 M_K_holder.2.2.2 ∈ px_tbl := px_in 634 (by decide +kernel) rfl
theorem i_K_holder : Cond.initialized M_K_holder.1.cls ∈ px_tbl := px_in 1 (by decide +kernel) rfl
theorem j_K_holder : Cond.instanceMethod M_K_holder.1 ∈ px_tbl := px_in 632 (by decide +kernel) rfl
theorem v_K_holder : Cond.selects M_K_holder.1.cls M_K_holder.1 M_K_holder.1 ∈ px_tbl := px_in 633 (by decide +kernel) rfl
theorem k_PageList_keeps : Cond.code M_PageList_keeps.1 M_PageList_keeps.2.1 M_PageList_keeps.2.2.1 M_PageList_keeps.2.2.2 ∈ px_tbl := px_in 638 (by decide +kernel) rfl
theorem i_PageList_keeps : Cond.initialized M_PageList_keeps.1.cls ∈ px_tbl := px_in 8 (by decide +kernel) rfl
theorem j_PageList_keeps : Cond.instanceMethod M_PageList_keeps.1 ∈ px_tbl := px_in 636 (by decide +kernel) rfl
theorem v_PageList_keeps : Cond.selects M_PageList_keeps.1.cls M_PageList_keeps.1 M_PageList_keeps.1 ∈ px_tbl := px_in 637 (by decide +kernel) rfl
theorem k_PageList_beforeLast : Cond.code M_PageList_beforeLast.1 M_PageList_beforeLast.2.1 M_PageList_beforeLast.2.2.1 M_PageList_beforeLast.2.2.2 ∈ px_tbl := px_in 642 (by decide +kernel) rfl
theorem i_PageList_beforeLast : Cond.initialized M_PageList_beforeLast.1.cls ∈ px_tbl := px_in 8 (by decide +kernel) rfl
theorem j_PageList_beforeLast : Cond.instanceMethod M_PageList_beforeLast.1 ∈ px_tbl := px_in 640 (by decide +kernel) rfl
theorem v_PageList_beforeLast : Cond.selects M_PageList_beforeLast.1.cls M_PageList_beforeLast.1 M_PageList_beforeLast.1 ∈ px_tbl := px_in 641 (by decide +kernel) rfl
theorem k_K_count : Cond.code M_K_count.1 M_K_count.2.1 M_K_count.2.2.1 M_K_count.2.2.2 ∈ px_tbl := px_in 646 (by decide +kernel) rfl
theorem i_K_count : Cond.initialized M_K_count.1.cls ∈ px_tbl := px_in 1 (by decide +kernel) rfl
theorem j_K_count : Cond.instanceMethod M_K_count.1 ∈ px_tbl := px_in 644 (by decide +kernel) rfl
theorem v_K_count : Cond.selects M_K_count.1.cls M_K_count.1 M_K_count.1 ∈ px_tbl := px_in 645 (by decide +kernel) rfl
theorem k_Memory_pagesOf : Cond.code M_Memory_pagesOf.1 M_Memory_pagesOf.2.1 M_Memory_pagesOf.2.2.1 M_Memory_pagesOf.2.2.2 ∈ px_tbl := px_in 650 (by decide +kernel) rfl
theorem i_Memory_pagesOf : Cond.initialized M_Memory_pagesOf.1.cls ∈ px_tbl := px_in 2 (by decide +kernel) rfl
theorem j_Memory_pagesOf : Cond.instanceMethod M_Memory_pagesOf.1 ∈ px_tbl := px_in 648 (by decide +kernel) rfl
theorem v_Memory_pagesOf : Cond.selects M_Memory_pagesOf.1.cls M_Memory_pagesOf.1 M_Memory_pagesOf.1 ∈ px_tbl := px_in 649 (by decide +kernel) rfl
theorem k_Disk_blocksOf : Cond.code M_Disk_blocksOf.1 M_Disk_blocksOf.2.1 M_Disk_blocksOf.2.2.1 M_Disk_blocksOf.2.2.2 ∈ px_tbl := px_in 654 (by decide +kernel) rfl
theorem i_Disk_blocksOf : Cond.initialized M_Disk_blocksOf.1.cls ∈ px_tbl := px_in 4 (by decide +kernel) rfl
theorem j_Disk_blocksOf : Cond.instanceMethod M_Disk_blocksOf.1 ∈ px_tbl := px_in 652 (by decide +kernel) rfl
theorem v_Disk_blocksOf : Cond.selects M_Disk_blocksOf.1.cls M_Disk_blocksOf.1 M_Disk_blocksOf.1 ∈ px_tbl := px_in 653 (by decide +kernel) rfl
theorem k_K_countOf : Cond.code M_K_countOf.1 M_K_countOf.2.1 M_K_countOf.2.2.1 M_K_countOf.2.2.2 ∈ px_tbl := px_in 658 (by decide +kernel) rfl
theorem i_K_countOf : Cond.initialized M_K_countOf.1.cls ∈ px_tbl := px_in 1 (by decide +kernel) rfl
theorem j_K_countOf : Cond.instanceMethod M_K_countOf.1 ∈ px_tbl := px_in 657 (by decide +kernel) rfl
theorem v_K_countOf : Cond.selects M_K_countOf.1.cls M_K_countOf.1 M_K_countOf.1 ∈ px_tbl := px_inp 7 (by decide +kernel) rfl
theorem k_Memory_namedPagesOf : Cond.code M_Memory_namedPagesOf.1 M_Memory_namedPagesOf.2.1 M_Memory_namedPagesOf.2.2.1 M_Memory_namedPagesOf.2.2.2 ∈ px_tbl := px_in 662 (by decide +kernel) rfl
theorem i_Memory_namedPagesOf : Cond.initialized M_Memory_namedPagesOf.1.cls ∈ px_tbl := px_in 2 (by decide +kernel) rfl
theorem j_Memory_namedPagesOf : Cond.instanceMethod M_Memory_namedPagesOf.1 ∈ px_tbl := px_in 660 (by decide +kernel) rfl
theorem v_Memory_namedPagesOf : Cond.selects M_Memory_namedPagesOf.1.cls M_Memory_namedPagesOf.1 M_Memory_namedPagesOf.1 ∈ px_tbl := px_in 661 (by decide +kernel) rfl
theorem k_Law_cell : Cond.code M_Law_cell.1 M_Law_cell.2.1 M_Law_cell.2.2.1 M_Law_cell.2.2.2 ∈ px_tbl := px_in 666 (by decide +kernel) rfl
theorem i_Law_cell : Cond.initialized M_Law_cell.1.cls ∈ px_tbl := px_in 0 (by decide +kernel) rfl
theorem s_Law_cell : Cond.static M_Law_cell.1 ∈ px_tbl := px_in 665 (by decide +kernel) rfl
theorem k_Mo_init : Cond.code M_Mo_init.1 M_Mo_init.2.1 M_Mo_init.2.2.1 M_Mo_init.2.2.2 ∈ px_tbl := px_in 671 (by decide +kernel) rfl
theorem i_Mo_init : Cond.initialized M_Mo_init.1.cls ∈ px_tbl := px_in 12 (by decide +kernel) rfl
theorem j_Mo_init : Cond.instanceMethod M_Mo_init.1 ∈ px_tbl := px_in 670 (by decide +kernel) rfl
theorem k_Mo_open : Cond.code M_Mo_open.1 M_Mo_open.2.1 M_Mo_open.2.2.1 M_Mo_open.2.2.2 ∈ px_tbl := px_in 776 (by decide +kernel) rfl
theorem i_Mo_open : Cond.initialized M_Mo_open.1.cls ∈ px_tbl := px_in 12 (by decide +kernel) rfl
theorem j_Mo_open : Cond.instanceMethod M_Mo_open.1 ∈ px_tbl := px_in 774 (by decide +kernel) rfl
theorem v_Mo_open : Cond.selects M_Mo_open.1.cls M_Mo_open.1 M_Mo_open.1 ∈ px_tbl := px_in 775 (by decide +kernel) rfl
theorem k_Mo_out : Cond.code M_Mo_out.1 M_Mo_out.2.1 M_Mo_out.2.2.1 M_Mo_out.2.2.2 ∈ px_tbl := px_in 780 (by decide +kernel) rfl
theorem i_Mo_out : Cond.initialized M_Mo_out.1.cls ∈ px_tbl := px_in 12 (by decide +kernel) rfl
theorem j_Mo_out : Cond.instanceMethod M_Mo_out.1 ∈ px_tbl := px_in 779 (by decide +kernel) rfl
theorem v_Mo_out : Cond.selects M_Mo_out.1.cls M_Mo_out.1 M_Mo_out.1 ∈ px_tbl := px_inp 8 (by decide +kernel) rfl
theorem k_Mo_freeBlock : Cond.code M_Mo_freeBlock.1 M_Mo_freeBlock.2.1 M_Mo_freeBlock.2.2.1 M_Mo_freeBlock.2.2.2 ∈ px_tbl := px_in 784 (by decide +kernel) rfl
theorem i_Mo_freeBlock : Cond.initialized M_Mo_freeBlock.1.cls ∈ px_tbl := px_in 12 (by decide +kernel) rfl
theorem j_Mo_freeBlock : Cond.instanceMethod M_Mo_freeBlock.1 ∈ px_tbl := px_in 783 (by decide +kernel) rfl
theorem v_Mo_freeBlock : Cond.selects M_Mo_freeBlock.1.cls M_Mo_freeBlock.1 M_Mo_freeBlock.1 ∈ px_tbl := px_inp 9 (by decide +kernel) rfl
theorem k_Mo_renew : Cond.code M_Mo_renew.1 M_Mo_renew.2.1 M_Mo_renew.2.2.1 M_Mo_renew.2.2.2 ∈ px_tbl := px_in 788 (by decide +kernel) rfl
theorem i_Mo_renew : Cond.initialized M_Mo_renew.1.cls ∈ px_tbl := px_in 12 (by decide +kernel) rfl
theorem j_Mo_renew : Cond.instanceMethod M_Mo_renew.1 ∈ px_tbl := px_in 787 (by decide +kernel) rfl
theorem v_Mo_renew : Cond.selects M_Mo_renew.1.cls M_Mo_renew.1 M_Mo_renew.1 ∈ px_tbl := px_inp 10 (by decide +kernel) rfl
theorem k_Mo_isLink : Cond.code M_Mo_isLink.1 M_Mo_isLink.2.1 M_Mo_isLink.2.2.1 M_Mo_isLink.2.2.2 ∈ px_tbl := px_in 792 (by decide +kernel) rfl
theorem i_Mo_isLink : Cond.initialized M_Mo_isLink.1.cls ∈ px_tbl := px_in 12 (by decide +kernel) rfl
theorem j_Mo_isLink : Cond.instanceMethod M_Mo_isLink.1 ∈ px_tbl := px_in 791 (by decide +kernel) rfl
theorem v_Mo_isLink : Cond.selects M_Mo_isLink.1.cls M_Mo_isLink.1 M_Mo_isLink.1 ∈ px_tbl := px_inp 11 (by decide +kernel) rfl
theorem k_Mo_close : Cond.code M_Mo_close.1 M_Mo_close.2.1 M_Mo_close.2.2.1 M_Mo_close.2.2.2 ∈ px_tbl := px_in 796 (by decide +kernel) rfl
theorem i_Mo_close : Cond.initialized M_Mo_close.1.cls ∈ px_tbl := px_in 12 (by decide +kernel) rfl
theorem j_Mo_close : Cond.instanceMethod M_Mo_close.1 ∈ px_tbl := px_in 794 (by decide +kernel) rfl
theorem v_Mo_close : Cond.selects M_Mo_close.1.cls M_Mo_close.1 M_Mo_close.1 ∈ px_tbl := px_in 795 (by decide +kernel) rfl
theorem k_Mo_shut : Cond.code M_Mo_shut.1 M_Mo_shut.2.1 M_Mo_shut.2.2.1 M_Mo_shut.2.2.2 ∈ px_tbl := px_in 800 (by decide +kernel) rfl
theorem i_Mo_shut : Cond.initialized M_Mo_shut.1.cls ∈ px_tbl := px_in 12 (by decide +kernel) rfl
theorem j_Mo_shut : Cond.instanceMethod M_Mo_shut.1 ∈ px_tbl := px_in 799 (by decide +kernel) rfl
theorem v_Mo_shut : Cond.selects M_Mo_shut.1.cls M_Mo_shut.1 M_Mo_shut.1 ∈ px_tbl := px_inp 12 (by decide +kernel) rfl
theorem k_Mo_free : Cond.code M_Mo_free.1 M_Mo_free.2.1 M_Mo_free.2.2.1 M_Mo_free.2.2.2 ∈ px_tbl := px_in 804 (by decide +kernel) rfl
theorem i_Mo_free : Cond.initialized M_Mo_free.1.cls ∈ px_tbl := px_in 12 (by decide +kernel) rfl
theorem j_Mo_free : Cond.instanceMethod M_Mo_free.1 ∈ px_tbl := px_in 803 (by decide +kernel) rfl
theorem v_Mo_free : Cond.selects M_Mo_free.1.cls M_Mo_free.1 M_Mo_free.1 ∈ px_tbl := px_inp 13 (by decide +kernel) rfl
theorem k_Mo_withdraw : Cond.code M_Mo_withdraw.1 M_Mo_withdraw.2.1 M_Mo_withdraw.2.2.1 M_Mo_withdraw.2.2.2 ∈ px_tbl := px_in 808 (by decide +kernel) rfl
theorem i_Mo_withdraw : Cond.initialized M_Mo_withdraw.1.cls ∈ px_tbl := px_in 12 (by decide +kernel) rfl
theorem j_Mo_withdraw : Cond.instanceMethod M_Mo_withdraw.1 ∈ px_tbl := px_in 807 (by decide +kernel) rfl
theorem v_Mo_withdraw : Cond.selects M_Mo_withdraw.1.cls M_Mo_withdraw.1 M_Mo_withdraw.1 ∈ px_tbl := px_inp 14 (by decide +kernel) rfl
theorem k_Mo_take : Cond.code M_Mo_take.1 M_Mo_take.2.1 M_Mo_take.2.2.1 M_Mo_take.2.2.2 ∈ px_tbl := px_in 812 (by decide +kernel) rfl
theorem i_Mo_take : Cond.initialized M_Mo_take.1.cls ∈ px_tbl := px_in 12 (by decide +kernel) rfl
theorem j_Mo_take : Cond.instanceMethod M_Mo_take.1 ∈ px_tbl := px_in 810 (by decide +kernel) rfl
theorem v_Mo_take : Cond.selects M_Mo_take.1.cls M_Mo_take.1 M_Mo_take.1 ∈ px_tbl := px_in 811 (by decide +kernel) rfl
theorem k_Mo_release : Cond.code M_Mo_release.1 M_Mo_release.2.1 M_Mo_release.2.2.1 M_Mo_release.2.2.2 ∈ px_tbl := px_in 816 (by decide +kernel) rfl
theorem i_Mo_release : Cond.initialized M_Mo_release.1.cls ∈ px_tbl := px_in 12 (by decide +kernel) rfl
theorem j_Mo_release : Cond.instanceMethod M_Mo_release.1 ∈ px_tbl := px_in 814 (by decide +kernel) rfl
theorem v_Mo_release : Cond.selects M_Mo_release.1.cls M_Mo_release.1 M_Mo_release.1 ∈ px_tbl := px_in 815 (by decide +kernel) rfl
theorem k_Mo_share : Cond.code M_Mo_share.1 M_Mo_share.2.1 M_Mo_share.2.2.1 M_Mo_share.2.2.2 ∈ px_tbl := px_in 820 (by decide +kernel) rfl
theorem i_Mo_share : Cond.initialized M_Mo_share.1.cls ∈ px_tbl := px_in 12 (by decide +kernel) rfl
theorem j_Mo_share : Cond.instanceMethod M_Mo_share.1 ∈ px_tbl := px_in 818 (by decide +kernel) rfl
theorem v_Mo_share : Cond.selects M_Mo_share.1.cls M_Mo_share.1 M_Mo_share.1 ∈ px_tbl := px_in 819 (by decide +kernel) rfl
theorem k_Mo_store : Cond.code M_Mo_store.1 M_Mo_store.2.1 M_Mo_store.2.2.1 M_Mo_store.2.2.2 ∈ px_tbl := px_in 824 (by decide +kernel) rfl
theorem i_Mo_store : Cond.initialized M_Mo_store.1.cls ∈ px_tbl := px_in 12 (by decide +kernel) rfl
theorem j_Mo_store : Cond.instanceMethod M_Mo_store.1 ∈ px_tbl := px_in 822 (by decide +kernel) rfl
theorem v_Mo_store : Cond.selects M_Mo_store.1.cls M_Mo_store.1 M_Mo_store.1 ∈ px_tbl := px_in 823 (by decide +kernel) rfl
theorem k_Mo_fetch : Cond.code M_Mo_fetch.1 M_Mo_fetch.2.1 M_Mo_fetch.2.2.1 M_Mo_fetch.2.2.2 ∈ px_tbl := px_in 828 (by decide +kernel) rfl
theorem i_Mo_fetch : Cond.initialized M_Mo_fetch.1.cls ∈ px_tbl := px_in 12 (by decide +kernel) rfl
theorem j_Mo_fetch : Cond.instanceMethod M_Mo_fetch.1 ∈ px_tbl := px_in 826 (by decide +kernel) rfl
theorem v_Mo_fetch : Cond.selects M_Mo_fetch.1.cls M_Mo_fetch.1 M_Mo_fetch.1 ∈ px_tbl := px_in 827 (by decide +kernel) rfl
theorem k_Mo_revoke : Cond.code M_Mo_revoke.1 M_Mo_revoke.2.1 M_Mo_revoke.2.2.1 M_Mo_revoke.2.2.2 ∈ px_tbl := px_in 833 (by decide +kernel) rfl
theorem i_Mo_revoke : Cond.initialized M_Mo_revoke.1.cls ∈ px_tbl := px_in 12 (by decide +kernel) rfl
theorem j_Mo_revoke : Cond.instanceMethod M_Mo_revoke.1 ∈ px_tbl := px_in 831 (by decide +kernel) rfl
theorem v_Mo_revoke : Cond.selects M_Mo_revoke.1.cls M_Mo_revoke.1 M_Mo_revoke.1 ∈ px_tbl := px_in 832 (by decide +kernel) rfl
theorem k_Mo_tick : Cond.code M_Mo_tick.1 M_Mo_tick.2.1 M_Mo_tick.2.2.1 M_Mo_tick.2.2.2 ∈ px_tbl := px_in 837 (by decide +kernel) rfl
theorem i_Mo_tick : Cond.initialized M_Mo_tick.1.cls ∈ px_tbl := px_in 12 (by decide +kernel) rfl
theorem j_Mo_tick : Cond.instanceMethod M_Mo_tick.1 ∈ px_tbl := px_in 835 (by decide +kernel) rfl
theorem v_Mo_tick : Cond.selects M_Mo_tick.1.cls M_Mo_tick.1 M_Mo_tick.1 ∈ px_tbl := px_in 836 (by decide +kernel) rfl
theorem k_Mo_op : Cond.code M_Mo_op.1 M_Mo_op.2.1 M_Mo_op.2.2.1 M_Mo_op.2.2.2 ∈ px_tbl := px_in 841 (by decide +kernel) rfl
theorem i_Mo_op : Cond.initialized M_Mo_op.1.cls ∈ px_tbl := px_in 12 (by decide +kernel) rfl
theorem j_Mo_op : Cond.instanceMethod M_Mo_op.1 ∈ px_tbl := px_in 839 (by decide +kernel) rfl
theorem v_Mo_op : Cond.selects M_Mo_op.1.cls M_Mo_op.1 M_Mo_op.1 ∈ px_tbl := px_in 840 (by decide +kernel) rfl
theorem k_Mo_install : Cond.code M_Mo_install.1 M_Mo_install.2.1 M_Mo_install.2.2.1 M_Mo_install.2.2.2 ∈ px_tbl := px_in 845 (by decide +kernel) rfl
theorem i_Mo_install : Cond.initialized M_Mo_install.1.cls ∈ px_tbl := px_in 12 (by decide +kernel) rfl
theorem j_Mo_install : Cond.instanceMethod M_Mo_install.1 ∈ px_tbl := px_in 843 (by decide +kernel) rfl
theorem v_Mo_install : Cond.selects M_Mo_install.1.cls M_Mo_install.1 M_Mo_install.1 ∈ px_tbl := px_in 844 (by decide +kernel) rfl
theorem k_Mo_sound : Cond.code M_Mo_sound.1 M_Mo_sound.2.1 M_Mo_sound.2.2.1 M_Mo_sound.2.2.2 ∈ px_tbl := px_in 849 (by decide +kernel) rfl
theorem i_Mo_sound : Cond.initialized M_Mo_sound.1.cls ∈ px_tbl := px_in 12 (by decide +kernel) rfl
theorem j_Mo_sound : Cond.instanceMethod M_Mo_sound.1 ∈ px_tbl := px_in 848 (by decide +kernel) rfl
theorem v_Mo_sound : Cond.selects M_Mo_sound.1.cls M_Mo_sound.1 M_Mo_sound.1 ∈ px_tbl := px_inp 15 (by decide +kernel) rfl
theorem k_Mo_push : Cond.code M_Mo_push.1 M_Mo_push.2.1 M_Mo_push.2.2.1 M_Mo_push.2.2.2 ∈ px_tbl := px_in 853 (by decide +kernel) rfl
theorem i_Mo_push : Cond.initialized M_Mo_push.1.cls ∈ px_tbl := px_in 12 (by decide +kernel) rfl
theorem j_Mo_push : Cond.instanceMethod M_Mo_push.1 ∈ px_tbl := px_in 851 (by decide +kernel) rfl
theorem v_Mo_push : Cond.selects M_Mo_push.1.cls M_Mo_push.1 M_Mo_push.1 ∈ px_tbl := px_in 852 (by decide +kernel) rfl
theorem k_Mo_arrive : Cond.code M_Mo_arrive.1 M_Mo_arrive.2.1 M_Mo_arrive.2.2.1 M_Mo_arrive.2.2.2 ∈ px_tbl := px_in 857 (by decide +kernel) rfl
theorem i_Mo_arrive : Cond.initialized M_Mo_arrive.1.cls ∈ px_tbl := px_in 12 (by decide +kernel) rfl
theorem j_Mo_arrive : Cond.instanceMethod M_Mo_arrive.1 ∈ px_tbl := px_in 855 (by decide +kernel) rfl
theorem v_Mo_arrive : Cond.selects M_Mo_arrive.1.cls M_Mo_arrive.1 M_Mo_arrive.1 ∈ px_tbl := px_in 856 (by decide +kernel) rfl
theorem k_Mo_accepts : Cond.code M_Mo_accepts.1 M_Mo_accepts.2.1 M_Mo_accepts.2.2.1 M_Mo_accepts.2.2.2 ∈ px_tbl := px_in 861 (by decide +kernel) rfl
theorem i_Mo_accepts : Cond.initialized M_Mo_accepts.1.cls ∈ px_tbl := px_in 12 (by decide +kernel) rfl
theorem j_Mo_accepts : Cond.instanceMethod M_Mo_accepts.1 ∈ px_tbl := px_in 860 (by decide +kernel) rfl
theorem v_Mo_accepts : Cond.selects M_Mo_accepts.1.cls M_Mo_accepts.1 M_Mo_accepts.1 ∈ px_tbl := px_inp 16 (by decide +kernel) rfl
theorem k_Mo_plain : Cond.code M_Mo_plain.1 M_Mo_plain.2.1 M_Mo_plain.2.2.1 M_Mo_plain.2.2.2 ∈ px_tbl := px_in 865 (by decide +kernel) rfl
theorem i_Mo_plain : Cond.initialized M_Mo_plain.1.cls ∈ px_tbl := px_in 12 (by decide +kernel) rfl
theorem j_Mo_plain : Cond.instanceMethod M_Mo_plain.1 ∈ px_tbl := px_in 864 (by decide +kernel) rfl
theorem v_Mo_plain : Cond.selects M_Mo_plain.1.cls M_Mo_plain.1 M_Mo_plain.1 ∈ px_tbl := px_inp 17 (by decide +kernel) rfl
theorem k_Mo_got : Cond.code M_Mo_got.1 M_Mo_got.2.1 M_Mo_got.2.2.1 M_Mo_got.2.2.2 ∈ px_tbl := px_in 869 (by decide +kernel) rfl
theorem i_Mo_got : Cond.initialized M_Mo_got.1.cls ∈ px_tbl := px_in 12 (by decide +kernel) rfl
theorem j_Mo_got : Cond.instanceMethod M_Mo_got.1 ∈ px_tbl := px_in 867 (by decide +kernel) rfl
theorem v_Mo_got : Cond.selects M_Mo_got.1.cls M_Mo_got.1 M_Mo_got.1 ∈ px_tbl := px_in 868 (by decide +kernel) rfl
theorem k_Mo_next : Cond.code M_Mo_next.1 M_Mo_next.2.1 M_Mo_next.2.2.1 M_Mo_next.2.2.2 ∈ px_tbl := px_in 873 (by decide +kernel) rfl
theorem i_Mo_next : Cond.initialized M_Mo_next.1.cls ∈ px_tbl := px_in 12 (by decide +kernel) rfl
theorem j_Mo_next : Cond.instanceMethod M_Mo_next.1 ∈ px_tbl := px_in 871 (by decide +kernel) rfl
theorem v_Mo_next : Cond.selects M_Mo_next.1.cls M_Mo_next.1 M_Mo_next.1 ∈ px_tbl := px_in 872 (by decide +kernel) rfl
theorem k_Mo_write : Cond.code M_Mo_write.1 M_Mo_write.2.1 M_Mo_write.2.2.1 M_Mo_write.2.2.2 ∈ px_tbl := px_in 877 (by decide +kernel) rfl
theorem i_Mo_write : Cond.initialized M_Mo_write.1.cls ∈ px_tbl := px_in 12 (by decide +kernel) rfl
theorem j_Mo_write : Cond.instanceMethod M_Mo_write.1 ∈ px_tbl := px_in 875 (by decide +kernel) rfl
theorem v_Mo_write : Cond.selects M_Mo_write.1.cls M_Mo_write.1 M_Mo_write.1 ∈ px_tbl := px_in 876 (by decide +kernel) rfl
theorem k_Mo_hasLinks : Cond.code M_Mo_hasLinks.1 M_Mo_hasLinks.2.1 M_Mo_hasLinks.2.2.1 M_Mo_hasLinks.2.2.2 ∈ px_tbl := px_in 881 (by decide +kernel) rfl
theorem i_Mo_hasLinks : Cond.initialized M_Mo_hasLinks.1.cls ∈ px_tbl := px_in 12 (by decide +kernel) rfl
theorem j_Mo_hasLinks : Cond.instanceMethod M_Mo_hasLinks.1 ∈ px_tbl := px_in 880 (by decide +kernel) rfl
theorem v_Mo_hasLinks : Cond.selects M_Mo_hasLinks.1.cls M_Mo_hasLinks.1 M_Mo_hasLinks.1 ∈ px_tbl := px_inp 18 (by decide +kernel) rfl
theorem k_Mo_put : Cond.code M_Mo_put.1 M_Mo_put.2.1 M_Mo_put.2.2.1 M_Mo_put.2.2.2 ∈ px_tbl := px_in 885 (by decide +kernel) rfl
theorem i_Mo_put : Cond.initialized M_Mo_put.1.cls ∈ px_tbl := px_in 12 (by decide +kernel) rfl
theorem j_Mo_put : Cond.instanceMethod M_Mo_put.1 ∈ px_tbl := px_in 883 (by decide +kernel) rfl
theorem v_Mo_put : Cond.selects M_Mo_put.1.cls M_Mo_put.1 M_Mo_put.1 ∈ px_tbl := px_in 884 (by decide +kernel) rfl
theorem k_Mo_entryOf : Cond.code M_Mo_entryOf.1 M_Mo_entryOf.2.1 M_Mo_entryOf.2.2.1 M_Mo_entryOf.2.2.2 ∈ px_tbl := px_in 889 (by decide +kernel) rfl
theorem i_Mo_entryOf : Cond.initialized M_Mo_entryOf.1.cls ∈ px_tbl := px_in 12 (by decide +kernel) rfl
theorem j_Mo_entryOf : Cond.instanceMethod M_Mo_entryOf.1 ∈ px_tbl := px_in 888 (by decide +kernel) rfl
theorem v_Mo_entryOf : Cond.selects M_Mo_entryOf.1.cls M_Mo_entryOf.1 M_Mo_entryOf.1 ∈ px_tbl := px_inp 19 (by decide +kernel) rfl
theorem k_Mo_get : Cond.code M_Mo_get.1 M_Mo_get.2.1 M_Mo_get.2.2.1 M_Mo_get.2.2.2 ∈ px_tbl := px_in 893 (by decide +kernel) rfl
theorem i_Mo_get : Cond.initialized M_Mo_get.1.cls ∈ px_tbl := px_in 12 (by decide +kernel) rfl
theorem j_Mo_get : Cond.instanceMethod M_Mo_get.1 ∈ px_tbl := px_in 891 (by decide +kernel) rfl
theorem v_Mo_get : Cond.selects M_Mo_get.1.cls M_Mo_get.1 M_Mo_get.1 ∈ px_tbl := px_in 892 (by decide +kernel) rfl
theorem k_Mo_holder : Cond.code M_Mo_holder.1 M_Mo_holder.2.1 M_Mo_holder.2.2.1 M_Mo_holder.2.2.2 ∈ px_tbl := px_in 897 (by decide +kernel) rfl
theorem i_Mo_holder : Cond.initialized M_Mo_holder.1.cls ∈ px_tbl := px_in 12 (by decide +kernel) rfl
theorem j_Mo_holder : Cond.instanceMethod M_Mo_holder.1 ∈ px_tbl := px_in 895 (by decide +kernel) rfl
theorem v_Mo_holder : Cond.selects M_Mo_holder.1.cls M_Mo_holder.1 M_Mo_holder.1 ∈ px_tbl := px_in 896 (by decide +kernel) rfl
theorem k_Mo_count : Cond.code M_Mo_count.1 M_Mo_count.2.1 M_Mo_count.2.2.1 M_Mo_count.2.2.2 ∈ px_tbl := px_in 901 (by decide +kernel) rfl
theorem i_Mo_count : Cond.initialized M_Mo_count.1.cls ∈ px_tbl := px_in 12 (by decide +kernel) rfl
theorem j_Mo_count : Cond.instanceMethod M_Mo_count.1 ∈ px_tbl := px_in 899 (by decide +kernel) rfl
theorem v_Mo_count : Cond.selects M_Mo_count.1.cls M_Mo_count.1 M_Mo_count.1 ∈ px_tbl := px_in 900 (by decide +kernel) rfl
theorem k_Mo_pagesOf : Cond.code M_Mo_pagesOf.1 M_Mo_pagesOf.2.1 M_Mo_pagesOf.2.2.1 M_Mo_pagesOf.2.2.2 ∈ px_tbl := px_in 905 (by decide +kernel) rfl
theorem i_Mo_pagesOf : Cond.initialized M_Mo_pagesOf.1.cls ∈ px_tbl := px_in 12 (by decide +kernel) rfl
theorem j_Mo_pagesOf : Cond.instanceMethod M_Mo_pagesOf.1 ∈ px_tbl := px_in 904 (by decide +kernel) rfl
theorem v_Mo_pagesOf : Cond.selects M_Mo_pagesOf.1.cls M_Mo_pagesOf.1 M_Mo_pagesOf.1 ∈ px_tbl := px_inp 20 (by decide +kernel) rfl
theorem k_Mo_blocksOf : Cond.code M_Mo_blocksOf.1 M_Mo_blocksOf.2.1 M_Mo_blocksOf.2.2.1 M_Mo_blocksOf.2.2.2 ∈ px_tbl := px_in 909 (by decide +kernel) rfl
theorem i_Mo_blocksOf : Cond.initialized M_Mo_blocksOf.1.cls ∈ px_tbl := px_in 12 (by decide +kernel) rfl
theorem j_Mo_blocksOf : Cond.instanceMethod M_Mo_blocksOf.1 ∈ px_tbl := px_in 908 (by decide +kernel) rfl
theorem v_Mo_blocksOf : Cond.selects M_Mo_blocksOf.1.cls M_Mo_blocksOf.1 M_Mo_blocksOf.1 ∈ px_tbl := px_inp 21 (by decide +kernel) rfl
theorem m_Law_15 : pz_mo "BindingKernelLaw" 15 M_K_init 2 := ⟨Or.inl (px_in 16 (by decide +kernel) rfl), k_K_init, i_K_init, by decide +kernel, by decide +kernel, by decide⟩
theorem m_K_9 : pz_mo "BindingKernel" 9 M_K_clampSize 1 := ⟨Or.inl (px_in 24 (by decide +kernel) rfl), k_K_clampSize, i_K_clampSize, by decide +kernel, by decide +kernel, by decide⟩
theorem m_K_287 : pz_mo "BindingKernel" 287 M_Math_min 2 := ⟨Or.inl (px_in 27 (by decide +kernel) rfl), k_Math_min, i_Math_min, by decide +kernel, by decide +kernel, by decide⟩
theorem m_K_290 : pz_mo "BindingKernel" 290 M_Math_max 2 := ⟨Or.inl (px_in 30 (by decide +kernel) rfl), k_Math_max, i_Math_max, by decide +kernel, by decide +kernel, by decide⟩
theorem m_K_15 : pz_mo "BindingKernel" 15 M_Memory_init 1 := ⟨Or.inl (px_in 33 (by decide +kernel) rfl), k_Memory_init, i_Memory_init, by decide +kernel, by decide +kernel, by decide⟩
theorem m_K_24 : pz_mo "BindingKernel" 24 M_Disk_init 1 := ⟨Or.inl (px_in 70 (by decide +kernel) rfl), k_Disk_init, i_Disk_init, by decide +kernel, by decide +kernel, by decide⟩
theorem m_K_31 : pz_mo "BindingKernel" 31 M_FilterOrder_init 0 := ⟨Or.inl (px_in 86 (by decide +kernel) rfl), k_FilterOrder_init, i_FilterOrder_init, by decide +kernel, by decide +kernel, by decide⟩
theorem m_K_38 : pz_mo "BindingKernel" 38 M_Frame_init 0 := ⟨Or.inl (px_in 100 (by decide +kernel) rfl), k_Frame_init, i_Frame_init, by decide +kernel, by decide +kernel, by decide⟩
theorem m_K_53 : pz_mo "BindingKernel" 53 M_Application_init 0 := ⟨Or.inl (px_in 116 (by decide +kernel) rfl), k_Application_init, i_Application_init, by decide +kernel, by decide +kernel, by decide⟩
theorem m_Application_9 : pz_mo "BindingKernel$Application" 9 M_PageList_init 0 := ⟨Or.inl (px_in 122 (by decide +kernel) rfl), k_PageList_init, i_PageList_init, by decide +kernel, by decide +kernel, by decide⟩
theorem m_Application_18 : pz_mo "BindingKernel$Application" 18 M_FrameQueue_init 0 := ⟨Or.inl (px_in 138 (by decide +kernel) rfl), k_FrameQueue_init, i_FrameQueue_init, by decide +kernel, by decide +kernel, by decide⟩
theorem m_FrameQueue_22 : pz_mo "BindingKernel$FrameQueue" 22 M_Frame_init 0 := ⟨Or.inl (px_in 144 (by decide +kernel) rfl), k_Frame_init, i_Frame_init, by decide +kernel, by decide +kernel, by decide⟩
theorem m_Application_25 : pz_mo "BindingKernel$Application" 25 M_EntryTable_init 0 := ⟨Or.inl (px_in 158 (by decide +kernel) rfl), k_EntryTable_init, i_EntryTable_init, by decide +kernel, by decide +kernel, by decide⟩
theorem m_Application_32 : pz_mo "BindingKernel$Application" 32 M_Program_init 0 := ⟨Or.inl (px_in 172 (by decide +kernel) rfl), k_Program_init, i_Program_init, by decide +kernel, by decide +kernel, by decide⟩
theorem m_Law_21 : pz_mo "BindingKernelLaw" 21 M_K_open 4 := ⟨Or.inl (px_in 249 (by decide +kernel) rfl), k_K_open, i_K_open, by decide +kernel, by decide +kernel, by decide⟩
theorem m_K_54 : pz_mo "BindingKernel" 54 M_K_isApp 1 := ⟨Or.inl (px_in 253 (by decide +kernel) rfl), k_K_isApp, i_K_isApp, by decide +kernel, by decide +kernel, by decide⟩
theorem m_K_108 : pz_mo "BindingKernel" 108 M_K_isIn 3 := ⟨Or.inl (px_in 256 (by decide +kernel) rfl), k_K_isIn, i_K_isIn, by decide +kernel, by decide +kernel, by decide⟩
theorem m_K_58 : pz_mo "BindingKernel" 58 M_K_isLayout 2 := ⟨Or.inl (px_in 259 (by decide +kernel) rfl), k_K_isLayout, i_K_isLayout, by decide +kernel, by decide +kernel, by decide⟩
theorem m_K_66 : pz_mo "BindingKernel" 66 M_Disk_leastFree 0 := ⟨Or.inl (px_in 262 (by decide +kernel) rfl), k_Disk_leastFree, i_Disk_leastFree, by decide +kernel, by decide +kernel, by decide⟩
theorem m_Disk_22 : pz_mo "BindingKernel$Disk" 22 M_Disk_isFree 1 := ⟨Or.inl (px_in 266 (by decide +kernel) rfl), k_Disk_isFree, i_Disk_isFree, by decide +kernel, by decide +kernel, by decide⟩
theorem m_K_70 : pz_mo "BindingKernel" 70 M_Application_begin 3 := ⟨Or.inl (px_in 270 (by decide +kernel) rfl), k_Application_begin, i_Application_begin, by decide +kernel, by decide +kernel, by decide⟩
theorem m_Application_54 : pz_mo "BindingKernel$Application" 54 M_PageList_clear 0 := ⟨Or.inl (px_in 274 (by decide +kernel) rfl), k_PageList_clear, i_PageList_clear, by decide +kernel, by decide +kernel, by decide⟩
theorem m_K_80 : pz_mo "BindingKernel" 80 M_Disk_bind 4 := ⟨Or.inl (px_in 278 (by decide +kernel) rfl), k_Disk_bind, i_Disk_bind, by decide +kernel, by decide +kernel, by decide⟩
theorem m_Disk_26 : pz_mo "BindingKernel$Disk" 26 M_Disk_setWord 3 := ⟨Or.inl (px_in 282 (by decide +kernel) rfl), k_Disk_setWord, i_Disk_setWord, by decide +kernel, by decide +kernel, by decide⟩
theorem m_Law_26 : pz_mo "BindingKernelLaw" 26 M_K_close 1 := ⟨Or.inl (px_in 286 (by decide +kernel) rfl), k_K_close, i_K_close, by decide +kernel, by decide +kernel, by decide⟩
theorem m_K_84 : pz_mo "BindingKernel" 84 M_K_isOpen 1 := ⟨Or.inl (px_in 290 (by decide +kernel) rfl), k_K_isOpen, i_K_isOpen, by decide +kernel, by decide +kernel, by decide⟩
theorem m_K_86 : pz_mo "BindingKernel" 86 M_Memory_forget 1 := ⟨Or.inl (px_in 294 (by decide +kernel) rfl), k_Memory_forget, i_Memory_forget, by decide +kernel, by decide +kernel, by decide⟩
theorem m_Memory_45 : pz_mo "BindingKernel$Memory" 45 M_Memory_setRight 3 := ⟨Or.inl (px_in 298 (by decide +kernel) rfl), k_Memory_setRight, i_Memory_setRight, by decide +kernel, by decide +kernel, by decide⟩
theorem m_Memory_48 : pz_mo "BindingKernel$Memory" 48 M_Memory_free 1 := ⟨Or.inl (px_in 302 (by decide +kernel) rfl), k_Memory_free, i_Memory_free, by decide +kernel, by decide +kernel, by decide⟩
theorem m_K_89 : pz_mo "BindingKernel" 89 M_Disk_freeAllOf 1 := ⟨Or.inl (px_in 306 (by decide +kernel) rfl), k_Disk_freeAllOf, i_Disk_freeAllOf, by decide +kernel, by decide +kernel, by decide⟩
theorem m_Disk_30 : pz_mo "BindingKernel$Disk" 30 M_Disk_free 1 := ⟨Or.inl (px_in 310 (by decide +kernel) rfl), k_Disk_free, i_Disk_free, by decide +kernel, by decide +kernel, by decide⟩
theorem m_K_92 : pz_mo "BindingKernel" 92 M_FilterOrder_drop 1 := ⟨Or.inl (px_in 314 (by decide +kernel) rfl), k_FilterOrder_drop, i_FilterOrder_drop, by decide +kernel, by decide +kernel, by decide⟩
theorem m_FilterOrder_19 : pz_mo "BindingKernel$FilterOrder" 19 M_FilterOrder_placeOf 1 := ⟨Or.inl (px_in 318 (by decide +kernel) rfl), k_FilterOrder_placeOf, i_FilterOrder_placeOf, by decide +kernel, by decide +kernel, by decide⟩
theorem m_K_95 : pz_mo "BindingKernel" 95 M_Application_end 0 := ⟨Or.inl (px_in 322 (by decide +kernel) rfl), k_Application_end, i_Application_end, by decide +kernel, by decide +kernel, by decide⟩
theorem m_Application_57 : pz_mo "BindingKernel$Application" 57 M_Program_clear 0 := ⟨Or.inl (px_in 326 (by decide +kernel) rfl), k_Program_clear, i_Program_clear, by decide +kernel, by decide +kernel, by decide⟩
theorem m_Application_58 : pz_mo "BindingKernel$Application" 58 M_FrameQueue_clear 0 := ⟨Or.inl (px_in 330 (by decide +kernel) rfl), k_FrameQueue_clear, i_FrameQueue_clear, by decide +kernel, by decide +kernel, by decide⟩
theorem m_Application_59 : pz_mo "BindingKernel$Application" 59 M_EntryTable_clear 0 := ⟨Or.inl (px_in 334 (by decide +kernel) rfl), k_EntryTable_clear, i_EntryTable_clear, by decide +kernel, by decide +kernel, by decide⟩
theorem m_Law_31 : pz_mo "BindingKernelLaw" 31 M_K_take 1 := ⟨Or.inl (px_in 338 (by decide +kernel) rfl), k_K_take, i_K_take, by decide +kernel, by decide +kernel, by decide⟩
theorem m_K_98 : pz_mo "BindingKernel" 98 M_Memory_leastFree 0 := ⟨Or.inl (px_in 342 (by decide +kernel) rfl), k_Memory_leastFree, i_Memory_leastFree, by decide +kernel, by decide +kernel, by decide⟩
theorem m_K_99 : pz_mo "BindingKernel" 99 M_Memory_bind 2 := ⟨Or.inl (px_in 346 (by decide +kernel) rfl), k_Memory_bind, i_Memory_bind, by decide +kernel, by decide +kernel, by decide⟩
theorem m_Memory_41 : pz_mo "BindingKernel$Memory" 41 M_Memory_setWord 3 := ⟨Or.inl (px_in 350 (by decide +kernel) rfl), k_Memory_setWord, i_Memory_setWord, by decide +kernel, by decide +kernel, by decide⟩
theorem m_Law_35 : pz_mo "BindingKernelLaw" 35 M_K_release 2 := ⟨Or.inl (px_in 354 (by decide +kernel) rfl), k_K_release, i_K_release, by decide +kernel, by decide +kernel, by decide⟩
theorem m_K_102 : pz_mo "BindingKernel" 102 M_K_owns 2 := ⟨Or.inl (px_in 358 (by decide +kernel) rfl), k_K_owns, i_K_owns, by decide +kernel, by decide +kernel, by decide⟩
theorem m_K_263 : pz_mo "BindingKernel" 263 M_Memory_hasPage 1 := ⟨Or.inl (px_in 362 (by decide +kernel) rfl), k_Memory_hasPage, i_Memory_hasPage, by decide +kernel, by decide +kernel, by decide⟩
theorem m_K_144 : pz_mo "BindingKernel" 144 M_Memory_ownerOf 1 := ⟨Or.inl (px_in 366 (by decide +kernel) rfl), k_Memory_ownerOf, i_Memory_ownerOf, by decide +kernel, by decide +kernel, by decide⟩
theorem m_K_105 : pz_mo "BindingKernel" 105 M_Memory_free 1 := ⟨Or.inl (px_in 370 (by decide +kernel) rfl), k_Memory_free, i_Memory_free, by decide +kernel, by decide +kernel, by decide⟩
theorem m_Law_40 : pz_mo "BindingKernelLaw" 40 M_K_share 4 := ⟨Or.inl (px_in 371 (by decide +kernel) rfl), k_K_share, i_K_share, by decide +kernel, by decide +kernel, by decide⟩
theorem m_K_112 : pz_mo "BindingKernel" 112 M_Memory_setRight 3 := ⟨Or.inl (px_in 375 (by decide +kernel) rfl), k_Memory_setRight, i_Memory_setRight, by decide +kernel, by decide +kernel, by decide⟩
theorem m_Law_45 : pz_mo "BindingKernelLaw" 45 M_K_store 4 := ⟨Or.inl (px_in 376 (by decide +kernel) rfl), k_K_store, i_K_store, by decide +kernel, by decide +kernel, by decide⟩
theorem m_K_116 : pz_mo "BindingKernel" 116 M_K_mayUse 4 := ⟨Or.inl (px_in 380 (by decide +kernel) rfl), k_K_mayUse, i_K_mayUse, by decide +kernel, by decide +kernel, by decide⟩
theorem m_K_293 : pz_mo "BindingKernel" 293 M_Memory_rightOf 2 := ⟨Or.inl (px_in 384 (by decide +kernel) rfl), k_Memory_rightOf, i_Memory_rightOf, by decide +kernel, by decide +kernel, by decide⟩
theorem m_K_120 : pz_mo "BindingKernel" 120 M_Memory_setWord 3 := ⟨Or.inl (px_in 388 (by decide +kernel) rfl), k_Memory_setWord, i_Memory_setWord, by decide +kernel, by decide +kernel, by decide⟩
theorem m_Law_49 : pz_mo "BindingKernelLaw" 49 M_K_fetch 3 := ⟨Or.inl (px_in 389 (by decide +kernel) rfl), k_K_fetch, i_K_fetch, by decide +kernel, by decide +kernel, by decide⟩
theorem m_K_125 : pz_mo "BindingKernel" 125 M_Memory_wordOf 2 := ⟨Or.inl (px_in 394 (by decide +kernel) rfl), k_Memory_wordOf, i_Memory_wordOf, by decide +kernel, by decide +kernel, by decide⟩
theorem m_Law_54 : pz_mo "BindingKernelLaw" 54 M_K_revoke 3 := ⟨Or.inl (px_in 398 (by decide +kernel) rfl), k_K_revoke, i_K_revoke, by decide +kernel, by decide +kernel, by decide⟩
theorem m_K_129 : pz_mo "BindingKernel" 129 M_Memory_pageToName 1 := ⟨Or.inl (px_in 402 (by decide +kernel) rfl), k_Memory_pageToName, i_Memory_pageToName, by decide +kernel, by decide +kernel, by decide⟩
theorem m_K_132 : pz_mo "BindingKernel" 132 M_Memory_nameAfter 2 := ⟨Or.inl (px_in 406 (by decide +kernel) rfl), k_Memory_nameAfter, i_Memory_nameAfter, by decide +kernel, by decide +kernel, by decide⟩
theorem m_Law_59 : pz_mo "BindingKernelLaw" 59 M_K_tick 1 := ⟨Or.inl (px_in 410 (by decide +kernel) rfl), k_K_tick, i_K_tick, by decide +kernel, by decide +kernel, by decide⟩
theorem m_K_135 : pz_mo "BindingKernel" 135 M_Memory_passTime 1 := ⟨Or.inl (px_in 414 (by decide +kernel) rfl), k_Memory_passTime, i_Memory_passTime, by decide +kernel, by decide +kernel, by decide⟩
theorem m_K_141 : pz_mo "BindingKernel" 141 M_Memory_firstDue 0 := ⟨Or.inl (px_in 418 (by decide +kernel) rfl), k_Memory_firstDue, i_Memory_firstDue, by decide +kernel, by decide +kernel, by decide⟩
theorem m_K_151 : pz_mo "BindingKernel" 151 M_PageList_append 1 := ⟨Or.inl (px_in 422 (by decide +kernel) rfl), k_PageList_append, i_PageList_append, by decide +kernel, by decide +kernel, by decide⟩
theorem m_PageList_20 : pz_mo "BindingKernel$PageList" 20 M_Math_min 2 := ⟨Or.inl (px_in 426 (by decide +kernel) rfl), k_Math_min, i_Math_min, by decide +kernel, by decide +kernel, by decide⟩
theorem m_Law_63 : pz_mo "BindingKernelLaw" 63 M_K_op 5 := ⟨Or.inl (px_in 427 (by decide +kernel) rfl), k_K_op, i_K_op, by decide +kernel, by decide +kernel, by decide⟩
theorem m_K_156 : pz_mo "BindingKernel" 156 M_Program_isInstruction 4 := ⟨Or.inl (px_in 431 (by decide +kernel) rfl), k_Program_isInstruction, i_Program_isInstruction, by decide +kernel, by decide +kernel, by decide⟩
theorem m_Program_32 : pz_mo "BindingKernel$Program" 32 M_Program_isTest 1 := ⟨Or.inl (px_in 435 (by decide +kernel) rfl), k_Program_isTest, i_Program_isTest, by decide +kernel, by decide +kernel, by decide⟩
theorem m_K_165 : pz_mo "BindingKernel" 165 M_Program_isFull 0 := ⟨Or.inl (px_in 438 (by decide +kernel) rfl), k_Program_isFull, i_Program_isFull, by decide +kernel, by decide +kernel, by decide⟩
theorem m_K_169 : pz_mo "BindingKernel" 169 M_Program_append 4 := ⟨Or.inl (px_in 442 (by decide +kernel) rfl), k_Program_append, i_Program_append, by decide +kernel, by decide +kernel, by decide⟩
theorem m_Law_68 : pz_mo "BindingKernelLaw" 68 M_K_install 1 := ⟨Or.inl (px_in 446 (by decide +kernel) rfl), k_K_install, i_K_install, by decide +kernel, by decide +kernel, by decide⟩
theorem m_K_174 : pz_mo "BindingKernel" 174 M_Program_isSound 0 := ⟨Or.inl (px_in 450 (by decide +kernel) rfl), k_Program_isSound, i_Program_isSound, by decide +kernel, by decide +kernel, by decide⟩
theorem m_Program_36 : pz_mo "BindingKernel$Program" 36 M_Math_max 2 := ⟨Or.inl (px_in 454 (by decide +kernel) rfl), k_Math_max, i_Math_max, by decide +kernel, by decide +kernel, by decide⟩
theorem m_K_177 : pz_mo "BindingKernel" 177 M_Program_clear 0 := ⟨Or.inl (px_in 455 (by decide +kernel) rfl), k_Program_clear, i_Program_clear, by decide +kernel, by decide +kernel, by decide⟩
theorem m_K_180 : pz_mo "BindingKernel" 180 M_FilterOrder_append 1 := ⟨Or.inl (px_in 456 (by decide +kernel) rfl), k_FilterOrder_append, i_FilterOrder_append, by decide +kernel, by decide +kernel, by decide⟩
theorem m_K_181 : pz_mo "BindingKernel" 181 M_Application_draftBecomesFilter 0 := ⟨Or.inl (px_in 460 (by decide +kernel) rfl), k_Application_draftBecomesFilter, i_Application_draftBecomesFilter, by decide +kernel, by decide +kernel, by decide⟩
theorem m_Law_72 : pz_mo "BindingKernelLaw" 72 M_K_push 1 := ⟨Or.inl (px_in 464 (by decide +kernel) rfl), k_K_push, i_K_push, by decide +kernel, by decide +kernel, by decide⟩
theorem m_K_184 : pz_mo "BindingKernel" 184 M_Frame_isFull 0 := ⟨Or.inl (px_in 468 (by decide +kernel) rfl), k_Frame_isFull, i_Frame_isFull, by decide +kernel, by decide +kernel, by decide⟩
theorem m_K_185 : pz_mo "BindingKernel" 185 M_Frame_append 1 := ⟨Or.inl (px_in 472 (by decide +kernel) rfl), k_Frame_append, i_Frame_append, by decide +kernel, by decide +kernel, by decide⟩
theorem m_Law_76 : pz_mo "BindingKernelLaw" 76 M_K_arrive 0 := ⟨Or.inl (px_in 476 (by decide +kernel) rfl), k_K_arrive, i_K_arrive, by decide +kernel, by decide +kernel, by decide⟩
theorem m_K_187 : pz_mo "BindingKernel" 187 M_K_firstAccepting 0 := ⟨Or.inl (px_in 480 (by decide +kernel) rfl), k_K_firstAccepting, i_K_firstAccepting, by decide +kernel, by decide +kernel, by decide⟩
theorem m_K_297 : pz_mo "BindingKernel" 297 M_FilterOrder_appAt 1 := ⟨Or.inl (px_in 484 (by decide +kernel) rfl), k_FilterOrder_appAt, i_FilterOrder_appAt, by decide +kernel, by decide +kernel, by decide⟩
theorem m_K_303 : pz_mo "BindingKernel" 303 M_Program_accepts 1 := ⟨Or.inl (px_in 488 (by decide +kernel) rfl), k_Program_accepts, i_Program_accepts, by decide +kernel, by decide +kernel, by decide⟩
theorem m_Program_42 : pz_mo "BindingKernel$Program" 42 M_Frame_hasByte 1 := ⟨Or.inl (px_in 492 (by decide +kernel) rfl), k_Frame_hasByte, i_Frame_hasByte, by decide +kernel, by decide +kernel, by decide⟩
theorem m_Program_48 : pz_mo "BindingKernel$Program" 48 M_Frame_byteAt 1 := ⟨Or.inl (px_in 496 (by decide +kernel) rfl), k_Frame_byteAt, i_Frame_byteAt, by decide +kernel, by decide +kernel, by decide⟩
theorem m_Program_53 : pz_mo "BindingKernel$Program" 53 M_Program_reckon 3 := ⟨Or.inl (px_in 500 (by decide +kernel) rfl), k_Program_reckon, i_Program_reckon, by decide +kernel, by decide +kernel, by decide⟩
theorem m_Program_57 : pz_mo "BindingKernel$Program" 57 M_Program_holds 3 := ⟨Or.inl (px_in 503 (by decide +kernel) rfl), k_Program_holds, i_Program_holds, by decide +kernel, by decide +kernel, by decide⟩
theorem m_K_190 : pz_mo "BindingKernel" 190 M_K_deliver 1 := ⟨Or.inl (px_in 506 (by decide +kernel) rfl), k_K_deliver, i_K_deliver, by decide +kernel, by decide +kernel, by decide⟩
theorem m_K_307 : pz_mo "BindingKernel" 307 M_FrameQueue_isFull 0 := ⟨Or.inl (px_in 510 (by decide +kernel) rfl), k_FrameQueue_isFull, i_FrameQueue_isFull, by decide +kernel, by decide +kernel, by decide⟩
theorem m_K_308 : pz_mo "BindingKernel" 308 M_FrameQueue_append 1 := ⟨Or.inl (px_in 514 (by decide +kernel) rfl), k_FrameQueue_append, i_FrameQueue_append, by decide +kernel, by decide +kernel, by decide⟩
theorem m_FrameQueue_23 : pz_mo "BindingKernel$FrameQueue" 23 M_Frame_copyFrom 1 := ⟨Or.inl (px_in 518 (by decide +kernel) rfl), k_Frame_copyFrom, i_Frame_copyFrom, by decide +kernel, by decide +kernel, by decide⟩
theorem m_K_193 : pz_mo "BindingKernel" 193 M_Frame_clear 0 := ⟨Or.inl (px_in 525 (by decide +kernel) rfl), k_Frame_clear, i_Frame_clear, by decide +kernel, by decide +kernel, by decide⟩
theorem m_Law_81 : pz_mo "BindingKernelLaw" 81 M_K_got 2 := ⟨Or.inl (px_in 529 (by decide +kernel) rfl), k_K_got, i_K_got, by decide +kernel, by decide +kernel, by decide⟩
theorem m_K_201 : pz_mo "BindingKernel" 201 M_FrameQueue_oldest 0 := ⟨Or.inl (px_in 533 (by decide +kernel) rfl), k_FrameQueue_oldest, i_FrameQueue_oldest, by decide +kernel, by decide +kernel, by decide⟩
theorem m_K_205 : pz_mo "BindingKernel" 205 M_Frame_hasByte 1 := ⟨Or.inl (px_in 537 (by decide +kernel) rfl), k_Frame_hasByte, i_Frame_hasByte, by decide +kernel, by decide +kernel, by decide⟩
theorem m_K_209 : pz_mo "BindingKernel" 209 M_Frame_byteAt 1 := ⟨Or.inl (px_in 538 (by decide +kernel) rfl), k_Frame_byteAt, i_Frame_byteAt, by decide +kernel, by decide +kernel, by decide⟩
theorem m_Law_85 : pz_mo "BindingKernelLaw" 85 M_K_next 1 := ⟨Or.inl (px_in 539 (by decide +kernel) rfl), k_K_next, i_K_next, by decide +kernel, by decide +kernel, by decide⟩
theorem m_K_212 : pz_mo "BindingKernel" 212 M_FrameQueue_dropOldest 0 := ⟨Or.inl (px_in 543 (by decide +kernel) rfl), k_FrameQueue_dropOldest, i_FrameQueue_dropOldest, by decide +kernel, by decide +kernel, by decide⟩
theorem m_Law_89 : pz_mo "BindingKernelLaw" 89 M_K_write 4 := ⟨Or.inl (px_in 547 (by decide +kernel) rfl), k_K_write, i_K_write, by decide +kernel, by decide +kernel, by decide⟩
theorem m_K_215 : pz_mo "BindingKernel" 215 M_Disk_hasBlock 1 := ⟨Or.inl (px_in 551 (by decide +kernel) rfl), k_Disk_hasBlock, i_Disk_hasBlock, by decide +kernel, by decide +kernel, by decide⟩
theorem m_K_221 : pz_mo "BindingKernel" 221 M_Disk_ownerOf 1 := ⟨Or.inl (px_in 555 (by decide +kernel) rfl), k_Disk_ownerOf, i_Disk_ownerOf, by decide +kernel, by decide +kernel, by decide⟩
theorem m_K_222 : pz_mo "BindingKernel" 222 M_Application_isLink 1 := ⟨Or.inl (px_in 559 (by decide +kernel) rfl), k_Application_isLink, i_Application_isLink, by decide +kernel, by decide +kernel, by decide⟩
theorem m_K_225 : pz_mo "BindingKernel" 225 M_K_relink 4 := ⟨Or.inl (px_in 563 (by decide +kernel) rfl), k_K_relink, i_K_relink, by decide +kernel, by decide +kernel, by decide⟩
theorem m_K_262 : pz_mo "BindingKernel" 262 M_Disk_wordOf 2 := ⟨Or.inl (px_in 567 (by decide +kernel) rfl), k_Disk_wordOf, i_Disk_wordOf, by decide +kernel, by decide +kernel, by decide⟩
theorem m_K_311 : pz_mo "BindingKernel" 311 M_Disk_namesBlocks 3 := ⟨Or.inl (px_in 571 (by decide +kernel) rfl), k_Disk_namesBlocks, i_Disk_namesBlocks, by decide +kernel, by decide +kernel, by decide⟩
theorem m_Disk_34 : pz_mo "BindingKernel$Disk" 34 M_Disk_wordOf 2 := ⟨Or.inl (px_in 575 (by decide +kernel) rfl), k_Disk_wordOf, i_Disk_wordOf, by decide +kernel, by decide +kernel, by decide⟩
theorem m_K_314 : pz_mo "BindingKernel" 314 M_Disk_isFree 1 := ⟨Or.inl (px_in 576 (by decide +kernel) rfl), k_Disk_isFree, i_Disk_isFree, by decide +kernel, by decide +kernel, by decide⟩
theorem m_K_317 : pz_mo "BindingKernel" 317 M_Disk_free 1 := ⟨Or.inl (px_in 577 (by decide +kernel) rfl), k_Disk_free, i_Disk_free, by decide +kernel, by decide +kernel, by decide⟩
theorem m_K_229 : pz_mo "BindingKernel" 229 M_Disk_setWord 3 := ⟨Or.inl (px_in 578 (by decide +kernel) rfl), k_Disk_setWord, i_Disk_setWord, by decide +kernel, by decide +kernel, by decide⟩
theorem m_Law_93 : pz_mo "BindingKernelLaw" 93 M_K_put 4 := ⟨Or.inl (px_in 579 (by decide +kernel) rfl), k_K_put, i_K_put, by decide +kernel, by decide +kernel, by decide⟩
theorem m_K_234 : pz_mo "BindingKernel" 234 M_EntryTable_placeOf 2 := ⟨Or.inl (px_in 583 (by decide +kernel) rfl), k_EntryTable_placeOf, i_EntryTable_placeOf, by decide +kernel, by decide +kernel, by decide⟩
theorem m_EntryTable_19 : pz_mo "BindingKernel$EntryTable" 19 M_EntryTable_keyAt 2 := ⟨Or.inl (px_in 587 (by decide +kernel) rfl), k_EntryTable_keyAt, i_EntryTable_keyAt, by decide +kernel, by decide +kernel, by decide⟩
theorem m_EntryTable_40 : pz_mo "BindingKernel$EntryTable" 40 M_EntryTable_blockOf 1 := ⟨Or.inl (px_in 591 (by decide +kernel) rfl), k_EntryTable_blockOf, i_EntryTable_blockOf, by decide +kernel, by decide +kernel, by decide⟩
theorem m_EntryTable_48 : pz_mo "BindingKernel$EntryTable" 48 M_EntryTable_keyWordOf 1 := ⟨Or.inl (px_in 595 (by decide +kernel) rfl), k_EntryTable_keyWordOf, i_EntryTable_keyWordOf, by decide +kernel, by decide +kernel, by decide⟩
theorem m_EntryTable_51 : pz_mo "BindingKernel$EntryTable" 51 M_Disk_wordOf 2 := ⟨Or.inl (px_in 598 (by decide +kernel) rfl), k_Disk_wordOf, i_Disk_wordOf, by decide +kernel, by decide +kernel, by decide⟩
theorem m_K_240 : pz_mo "BindingKernel" 240 M_EntryTable_append 4 := ⟨Or.inl (px_in 599 (by decide +kernel) rfl), k_EntryTable_append, i_EntryTable_append, by decide +kernel, by decide +kernel, by decide⟩
theorem m_EntryTable_23 : pz_mo "BindingKernel$EntryTable" 23 M_Disk_leastFree 0 := ⟨Or.inl (px_in 603 (by decide +kernel) rfl), k_Disk_leastFree, i_Disk_leastFree, by decide +kernel, by decide +kernel, by decide⟩
theorem m_EntryTable_29 : pz_mo "BindingKernel$EntryTable" 29 M_Disk_bind 4 := ⟨Or.inl (px_in 604 (by decide +kernel) rfl), k_Disk_bind, i_Disk_bind, by decide +kernel, by decide +kernel, by decide⟩
theorem m_EntryTable_33 : pz_mo "BindingKernel$EntryTable" 33 M_EntryTable_setEntry 4 := ⟨Or.inl (px_in 605 (by decide +kernel) rfl), k_EntryTable_setEntry, i_EntryTable_setEntry, by decide +kernel, by decide +kernel, by decide⟩
theorem m_EntryTable_55 : pz_mo "BindingKernel$EntryTable" 55 M_Disk_setWord 3 := ⟨Or.inl (px_in 609 (by decide +kernel) rfl), k_Disk_setWord, i_Disk_setWord, by decide +kernel, by decide +kernel, by decide⟩
theorem m_K_243 : pz_mo "BindingKernel" 243 M_EntryTable_setEntry 4 := ⟨Or.inl (px_in 610 (by decide +kernel) rfl), k_EntryTable_setEntry, i_EntryTable_setEntry, by decide +kernel, by decide +kernel, by decide⟩
theorem m_K_247 : pz_mo "BindingKernel" 247 M_EntryTable_removeAt 2 := ⟨Or.inl (px_in 611 (by decide +kernel) rfl), k_EntryTable_removeAt, i_EntryTable_removeAt, by decide +kernel, by decide +kernel, by decide⟩
theorem m_EntryTable_37 : pz_mo "BindingKernel$EntryTable" 37 M_EntryTable_valueAt 2 := ⟨Or.inl (px_in 615 (by decide +kernel) rfl), k_EntryTable_valueAt, i_EntryTable_valueAt, by decide +kernel, by decide +kernel, by decide⟩
theorem m_EntryTable_44 : pz_mo "BindingKernel$EntryTable" 44 M_Disk_free 1 := ⟨Or.inl (px_in 619 (by decide +kernel) rfl), k_Disk_free, i_Disk_free, by decide +kernel, by decide +kernel, by decide⟩
theorem m_Law_98 : pz_mo "BindingKernelLaw" 98 M_K_get 2 := ⟨Or.inl (px_in 620 (by decide +kernel) rfl), k_K_get, i_K_get, by decide +kernel, by decide +kernel, by decide⟩
theorem m_K_251 : pz_mo "BindingKernel" 251 M_EntryTable_valueAt 2 := ⟨Or.inl (px_in 624 (by decide +kernel) rfl), k_EntryTable_valueAt, i_EntryTable_valueAt, by decide +kernel, by decide +kernel, by decide⟩
theorem m_K_254 : pz_mo "BindingKernel" 254 M_Math_floorDiv 2 := ⟨Or.inl (px_in 625 (by decide +kernel) rfl), k_Math_floorDiv, i_Math_floorDiv, by decide +kernel, by decide +kernel, by decide⟩
theorem m_K_259 : pz_mo "BindingKernel" 259 M_Math_floorMod 2 := ⟨Or.inl (px_in 628 (by decide +kernel) rfl), k_Math_floorMod, i_Math_floorMod, by decide +kernel, by decide +kernel, by decide⟩
theorem m_Law_103 : pz_mo "BindingKernelLaw" 103 M_K_holder 2 := ⟨Or.inl (px_in 631 (by decide +kernel) rfl), k_K_holder, i_K_holder, by decide +kernel, by decide +kernel, by decide⟩
theorem m_K_266 : pz_mo "BindingKernel" 266 M_PageList_keeps 1 := ⟨Or.inl (px_in 635 (by decide +kernel) rfl), k_PageList_keeps, i_PageList_keeps, by decide +kernel, by decide +kernel, by decide⟩
theorem m_K_269 : pz_mo "BindingKernel" 269 M_PageList_beforeLast 1 := ⟨Or.inl (px_in 639 (by decide +kernel) rfl), k_PageList_beforeLast, i_PageList_beforeLast, by decide +kernel, by decide +kernel, by decide⟩
theorem m_Law_107 : pz_mo "BindingKernelLaw" 107 M_K_count 2 := ⟨Or.inl (px_in 643 (by decide +kernel) rfl), k_K_count, i_K_count, by decide +kernel, by decide +kernel, by decide⟩
theorem m_K_272 : pz_mo "BindingKernel" 272 M_Memory_pagesOf 1 := ⟨Or.inl (px_in 647 (by decide +kernel) rfl), k_Memory_pagesOf, i_Memory_pagesOf, by decide +kernel, by decide +kernel, by decide⟩
theorem m_K_275 : pz_mo "BindingKernel" 275 M_Disk_blocksOf 1 := ⟨Or.inl (px_in 651 (by decide +kernel) rfl), k_Disk_blocksOf, i_Disk_blocksOf, by decide +kernel, by decide +kernel, by decide⟩
theorem m_K_278 : pz_mo "BindingKernel" 278 M_K_countOf 2 := ⟨Or.inl (px_in 655 (by decide +kernel) rfl), k_K_countOf, i_K_countOf, by decide +kernel, by decide +kernel, by decide⟩
theorem m_K_281 : pz_mo "BindingKernel" 281 M_Memory_namedPagesOf 1 := ⟨Or.inl (px_in 659 (by decide +kernel) rfl), k_Memory_namedPagesOf, i_Memory_namedPagesOf, by decide +kernel, by decide +kernel, by decide⟩
theorem m_K_284 : pz_mo "BindingKernel" 284 M_FilterOrder_placeOf 1 := ⟨Or.inl (px_in 663 (by decide +kernel) rfl), k_FilterOrder_placeOf, i_FilterOrder_placeOf, by decide +kernel, by decide +kernel, by decide⟩
theorem m_Law_9 : pz_mo "BindingKernelLaw" 9 M_Law_cell 2 := ⟨Or.inl (px_in 664 (by decide +kernel) rfl), k_Law_cell, i_Law_cell, by decide +kernel, by decide +kernel, by decide⟩
theorem m_Law_20 : pz_mo "BindingKernelLaw" 20 M_Mo_init 2 := ⟨Or.inl (px_in 669 (by decide +kernel) rfl), k_Mo_init, i_Mo_init, by decide +kernel, by decide +kernel, by decide⟩
theorem m_Law_25 : pz_mo "BindingKernelLaw" 25 M_Mo_open 4 := ⟨Or.inl (px_in 773 (by decide +kernel) rfl), k_Mo_open, i_Mo_open, by decide +kernel, by decide +kernel, by decide⟩
theorem m_Mo_111 : pz_mo "BindingKernelModel" 111 M_Mo_out 2 := ⟨Or.inl (px_in 777 (by decide +kernel) rfl), k_Mo_out, i_Mo_out, by decide +kernel, by decide +kernel, by decide⟩
theorem m_Mo_118 : pz_mo "BindingKernelModel" 118 M_Mo_freeBlock 0 := ⟨Or.inl (px_in 781 (by decide +kernel) rfl), k_Mo_freeBlock, i_Mo_freeBlock, by decide +kernel, by decide +kernel, by decide⟩
theorem m_Mo_122 : pz_mo "BindingKernelModel" 122 M_Mo_renew 2 := ⟨Or.inl (px_in 785 (by decide +kernel) rfl), k_Mo_renew, i_Mo_renew, by decide +kernel, by decide +kernel, by decide⟩
theorem m_Mo_115 : pz_mo "BindingKernelModel" 115 M_Mo_isLink 2 := ⟨Or.inl (px_in 789 (by decide +kernel) rfl), k_Mo_isLink, i_Mo_isLink, by decide +kernel, by decide +kernel, by decide⟩
theorem m_Law_30 : pz_mo "BindingKernelLaw" 30 M_Mo_close 1 := ⟨Or.inl (px_in 793 (by decide +kernel) rfl), k_Mo_close, i_Mo_close, by decide +kernel, by decide +kernel, by decide⟩
theorem m_Mo_126 : pz_mo "BindingKernelModel" 126 M_Mo_shut 1 := ⟨Or.inl (px_in 797 (by decide +kernel) rfl), k_Mo_shut, i_Mo_shut, by decide +kernel, by decide +kernel, by decide⟩
theorem m_Mo_130 : pz_mo "BindingKernelModel" 130 M_Mo_free 1 := ⟨Or.inl (px_in 801 (by decide +kernel) rfl), k_Mo_free, i_Mo_free, by decide +kernel, by decide +kernel, by decide⟩
theorem m_Mo_134 : pz_mo "BindingKernelModel" 134 M_Mo_withdraw 1 := ⟨Or.inl (px_in 805 (by decide +kernel) rfl), k_Mo_withdraw, i_Mo_withdraw, by decide +kernel, by decide +kernel, by decide⟩
theorem m_Law_34 : pz_mo "BindingKernelLaw" 34 M_Mo_take 1 := ⟨Or.inl (px_in 809 (by decide +kernel) rfl), k_Mo_take, i_Mo_take, by decide +kernel, by decide +kernel, by decide⟩
theorem m_Law_39 : pz_mo "BindingKernelLaw" 39 M_Mo_release 2 := ⟨Or.inl (px_in 813 (by decide +kernel) rfl), k_Mo_release, i_Mo_release, by decide +kernel, by decide +kernel, by decide⟩
theorem m_Law_44 : pz_mo "BindingKernelLaw" 44 M_Mo_share 4 := ⟨Or.inl (px_in 817 (by decide +kernel) rfl), k_Mo_share, i_Mo_share, by decide +kernel, by decide +kernel, by decide⟩
theorem m_Law_48 : pz_mo "BindingKernelLaw" 48 M_Mo_store 4 := ⟨Or.inl (px_in 821 (by decide +kernel) rfl), k_Mo_store, i_Mo_store, by decide +kernel, by decide +kernel, by decide⟩
theorem m_Law_53 : pz_mo "BindingKernelLaw" 53 M_Mo_fetch 3 := ⟨Or.inl (px_in 825 (by decide +kernel) rfl), k_Mo_fetch, i_Mo_fetch, by decide +kernel, by decide +kernel, by decide⟩
theorem m_Law_58 : pz_mo "BindingKernelLaw" 58 M_Mo_revoke 3 := ⟨Or.inl (px_in 830 (by decide +kernel) rfl), k_Mo_revoke, i_Mo_revoke, by decide +kernel, by decide +kernel, by decide⟩
theorem m_Law_62 : pz_mo "BindingKernelLaw" 62 M_Mo_tick 1 := ⟨Or.inl (px_in 834 (by decide +kernel) rfl), k_Mo_tick, i_Mo_tick, by decide +kernel, by decide +kernel, by decide⟩
theorem m_Law_67 : pz_mo "BindingKernelLaw" 67 M_Mo_op 5 := ⟨Or.inl (px_in 838 (by decide +kernel) rfl), k_Mo_op, i_Mo_op, by decide +kernel, by decide +kernel, by decide⟩
theorem m_Law_71 : pz_mo "BindingKernelLaw" 71 M_Mo_install 1 := ⟨Or.inl (px_in 842 (by decide +kernel) rfl), k_Mo_install, i_Mo_install, by decide +kernel, by decide +kernel, by decide⟩
theorem m_Mo_139 : pz_mo "BindingKernelModel" 139 M_Mo_sound 1 := ⟨Or.inl (px_in 846 (by decide +kernel) rfl), k_Mo_sound, i_Mo_sound, by decide +kernel, by decide +kernel, by decide⟩
theorem m_Law_75 : pz_mo "BindingKernelLaw" 75 M_Mo_push 1 := ⟨Or.inl (px_in 850 (by decide +kernel) rfl), k_Mo_push, i_Mo_push, by decide +kernel, by decide +kernel, by decide⟩
theorem m_Law_80 : pz_mo "BindingKernelLaw" 80 M_Mo_arrive 0 := ⟨Or.inl (px_in 854 (by decide +kernel) rfl), k_Mo_arrive, i_Mo_arrive, by decide +kernel, by decide +kernel, by decide⟩
theorem m_Mo_145 : pz_mo "BindingKernelModel" 145 M_Mo_accepts 1 := ⟨Or.inl (px_in 858 (by decide +kernel) rfl), k_Mo_accepts, i_Mo_accepts, by decide +kernel, by decide +kernel, by decide⟩
theorem m_Mo_142 : pz_mo "BindingKernelModel" 142 M_Mo_plain 2 := ⟨Or.inl (px_in 862 (by decide +kernel) rfl), k_Mo_plain, i_Mo_plain, by decide +kernel, by decide +kernel, by decide⟩
theorem m_Law_84 : pz_mo "BindingKernelLaw" 84 M_Mo_got 2 := ⟨Or.inl (px_in 866 (by decide +kernel) rfl), k_Mo_got, i_Mo_got, by decide +kernel, by decide +kernel, by decide⟩
theorem m_Law_88 : pz_mo "BindingKernelLaw" 88 M_Mo_next 1 := ⟨Or.inl (px_in 870 (by decide +kernel) rfl), k_Mo_next, i_Mo_next, by decide +kernel, by decide +kernel, by decide⟩
theorem m_Law_92 : pz_mo "BindingKernelLaw" 92 M_Mo_write 4 := ⟨Or.inl (px_in 874 (by decide +kernel) rfl), k_Mo_write, i_Mo_write, by decide +kernel, by decide +kernel, by decide⟩
theorem m_Mo_148 : pz_mo "BindingKernelModel" 148 M_Mo_hasLinks 2 := ⟨Or.inl (px_in 878 (by decide +kernel) rfl), k_Mo_hasLinks, i_Mo_hasLinks, by decide +kernel, by decide +kernel, by decide⟩
theorem m_Law_97 : pz_mo "BindingKernelLaw" 97 M_Mo_put 4 := ⟨Or.inl (px_in 882 (by decide +kernel) rfl), k_Mo_put, i_Mo_put, by decide +kernel, by decide +kernel, by decide⟩
theorem m_Mo_151 : pz_mo "BindingKernelModel" 151 M_Mo_entryOf 2 := ⟨Or.inl (px_in 886 (by decide +kernel) rfl), k_Mo_entryOf, i_Mo_entryOf, by decide +kernel, by decide +kernel, by decide⟩
theorem m_Law_102 : pz_mo "BindingKernelLaw" 102 M_Mo_get 2 := ⟨Or.inl (px_in 890 (by decide +kernel) rfl), k_Mo_get, i_Mo_get, by decide +kernel, by decide +kernel, by decide⟩
theorem m_Law_106 : pz_mo "BindingKernelLaw" 106 M_Mo_holder 2 := ⟨Or.inl (px_in 894 (by decide +kernel) rfl), k_Mo_holder, i_Mo_holder, by decide +kernel, by decide +kernel, by decide⟩
theorem m_Law_110 : pz_mo "BindingKernelLaw" 110 M_Mo_count 2 := ⟨Or.inl (px_in 898 (by decide +kernel) rfl), k_Mo_count, i_Mo_count, by decide +kernel, by decide +kernel, by decide⟩
theorem m_Mo_155 : pz_mo "BindingKernelModel" 155 M_Mo_pagesOf 2 := ⟨Or.inl (px_in 902 (by decide +kernel) rfl), k_Mo_pagesOf, i_Mo_pagesOf, by decide +kernel, by decide +kernel, by decide⟩
theorem m_Mo_159 : pz_mo "BindingKernelModel" 159 M_Mo_blocksOf 1 := ⟨Or.inl (px_in 906 (by decide +kernel) rfl), k_Mo_blocksOf, i_Mo_blocksOf, by decide +kernel, by decide +kernel, by decide⟩
theorem m_Program_26 : pz_mo "BindingKernel$Program" 26 M_K_isIn 3 := ⟨Or.inr ⟨"BindingKernel", List.mem_of_getElem? (i := 16) rfl⟩, k_K_isIn, i_K_isIn, by decide +kernel, by decide +kernel, by decide⟩
theorem q_Law_7 : Cond.classLink "BindingKernelLaw" 7 "BindingKernel" ∈ px_tbl := px_in 14 (by decide +kernel) rfl
theorem n_Law_7 : pz_mk "BindingKernelLaw" 7 0 6 [.null, .null, .null, .null, .null, .int 0] := ⟨_, pT_0, pY_0, rfl, pI_0, pO_0, q_Law_7, px_in 15 (by decide +kernel) rfl, px_in 1 (by decide +kernel) rfl, by decide +kernel, fun _ _ => rfl⟩
theorem q_K_7 : Cond.classLink "BindingKernel" 7 "BindingKernel$Memory" ∈ px_tbl := px_in 22 (by decide +kernel) rfl
theorem n_K_7 : pz_mk "BindingKernel" 7 1 9 [.int 0, .null, .null, .null, .null, .null, .null, .int 0, .int 0] := ⟨_, pT_1, pY_1, rfl, pI_1, pO_1, q_K_7, px_in 23 (by decide +kernel) rfl, px_in 2 (by decide +kernel) rfl, by decide +kernel, fun _ _ => rfl⟩
theorem q_K_22 : Cond.classLink "BindingKernel" 22 "BindingKernel$Disk" ∈ px_tbl := px_in 68 (by decide +kernel) rfl
theorem n_K_22 : pz_mk "BindingKernel" 22 2 3 [.int 0, .null, .null] := ⟨_, pT_2, pY_2, rfl, pI_2, pO_2, q_K_22, px_in 69 (by decide +kernel) rfl, px_in 4 (by decide +kernel) rfl, by decide +kernel, fun _ _ => rfl⟩
theorem q_K_29 : Cond.classLink "BindingKernel" 29 "BindingKernel$FilterOrder" ∈ px_tbl := px_in 84 (by decide +kernel) rfl
theorem n_K_29 : pz_mk "BindingKernel" 29 3 2 [.null, .int 0] := ⟨_, pT_3, pY_3, rfl, pI_3, pO_3, q_K_29, px_in 85 (by decide +kernel) rfl, px_in 5 (by decide +kernel) rfl, by decide +kernel, fun _ _ => rfl⟩
theorem q_K_36 : Cond.classLink "BindingKernel" 36 "BindingKernel$Frame" ∈ px_tbl := px_in 98 (by decide +kernel) rfl
theorem n_K_36 : pz_mk "BindingKernel" 36 4 2 [.null, .int 0] := ⟨_, pT_4, pY_4, rfl, pI_4, pO_4, q_K_36, px_in 99 (by decide +kernel) rfl, px_in 6 (by decide +kernel) rfl, by decide +kernel, fun _ _ => rfl⟩
theorem q_K_47 : Cond.classLink "BindingKernel" 47 "BindingKernel$Application" ∈ px_tbl := px_in 113 (by decide +kernel) rfl
theorem n_K_47 : pz_mk "BindingKernel" 47 5 9 [.null, .null, .null, .null, .null, .int 0, .int 0, .int 0, .int 0] := ⟨_, pT_5, pY_5, rfl, pI_5, pO_5, q_K_47, px_in 115 (by decide +kernel) rfl, px_in 7 (by decide +kernel) rfl, by decide +kernel, fun _ _ => rfl⟩
theorem q_Application_7 : Cond.classLink "BindingKernel$Application" 7 "BindingKernel$PageList" ∈ px_tbl := px_in 120 (by decide +kernel) rfl
theorem n_Application_7 : pz_mk "BindingKernel$Application" 7 6 3 [.null, .int 0, .int 0] := ⟨_, pT_6, pY_6, rfl, pI_6, pO_6, q_Application_7, px_in 121 (by decide +kernel) rfl, px_in 8 (by decide +kernel) rfl, by decide +kernel, fun _ _ => rfl⟩
theorem q_Application_16 : Cond.classLink "BindingKernel$Application" 16 "BindingKernel$FrameQueue" ∈ px_tbl := px_in 136 (by decide +kernel) rfl
theorem n_Application_16 : pz_mk "BindingKernel$Application" 16 7 3 [.null, .int 0, .int 0] := ⟨_, pT_7, pY_7, rfl, pI_7, pO_7, q_Application_16, px_in 137 (by decide +kernel) rfl, px_in 9 (by decide +kernel) rfl, by decide +kernel, fun _ _ => rfl⟩
theorem q_FrameQueue_9 : Cond.classLink "BindingKernel$FrameQueue" 9 "BindingKernel$Frame" ∈ px_tbl := px_in 142 (by decide +kernel) rfl
theorem n_FrameQueue_9 : pz_mk "BindingKernel$FrameQueue" 9 4 2 [.null, .int 0] := ⟨_, pT_4, pY_4, rfl, pI_4, pO_4, q_FrameQueue_9, px_in 99 (by decide +kernel) rfl, px_in 6 (by decide +kernel) rfl, by decide +kernel, fun _ _ => rfl⟩
theorem q_Application_23 : Cond.classLink "BindingKernel$Application" 23 "BindingKernel$EntryTable" ∈ px_tbl := px_in 156 (by decide +kernel) rfl
theorem n_Application_23 : pz_mk "BindingKernel$Application" 23 8 2 [.null, .int 0] := ⟨_, pT_8, pY_8, rfl, pI_8, pO_8, q_Application_23, px_in 157 (by decide +kernel) rfl, px_in 10 (by decide +kernel) rfl, by decide +kernel, fun _ _ => rfl⟩
theorem q_Application_30 : Cond.classLink "BindingKernel$Application" 30 "BindingKernel$Program" ∈ px_tbl := px_in 170 (by decide +kernel) rfl
theorem n_Application_30 : pz_mk "BindingKernel$Application" 30 9 5 [.null, .null, .null, .null, .int 0] := ⟨_, pT_9, pY_9, rfl, pI_9, pO_9, q_Application_30, px_in 171 (by decide +kernel) rfl, px_in 11 (by decide +kernel) rfl, by decide +kernel, fun _ _ => rfl⟩
theorem q_Law_18 : Cond.classLink "BindingKernelLaw" 18 "BindingKernelModel" ∈ px_tbl := px_in 667 (by decide +kernel) rfl
theorem n_Law_18 : pz_mk "BindingKernelLaw" 18 10 33 [.int 0, .int 0, .null, .null, .null, .null, .int 0, .int 0, .int 0, .null, .null, .null, .null, .null, .null, .null, .null, .null, .null, .int 0, .int 0, .null, .null, .null, .null, .int 0, .int 0, .null, .null, .null, .null, .null, .null] := ⟨_, pT_10, pY_10, rfl, pI_10, pO_10, q_Law_18, px_in 668 (by decide +kernel) rfl, px_in 12 (by decide +kernel) rfl, by decide +kernel, fun _ _ => rfl⟩
theorem o_K_1 : Cond.methodLink "BindingKernel" 1 Lib.objectInit ∈ px_tbl := px_in 19 (by decide +kernel) rfl
theorem o_Memory_3 : Cond.methodLink "BindingKernel$Memory" 3 Lib.objectInit ∈ px_tbl := px_in 36 (by decide +kernel) rfl
theorem o_Disk_3 : Cond.methodLink "BindingKernel$Disk" 3 Lib.objectInit ∈ px_tbl := px_in 73 (by decide +kernel) rfl
theorem o_FilterOrder_3 : Cond.methodLink "BindingKernel$FilterOrder" 3 Lib.objectInit ∈ px_tbl := px_in 89 (by decide +kernel) rfl
theorem o_Frame_1 : Cond.methodLink "BindingKernel$Frame" 1 Lib.objectInit ∈ px_tbl := px_in 103 (by decide +kernel) rfl
theorem o_Application_1 : Cond.methodLink "BindingKernel$Application" 1 Lib.objectInit ∈ px_tbl := px_in 119 (by decide +kernel) rfl
theorem o_PageList_1 : Cond.methodLink "BindingKernel$PageList" 1 Lib.objectInit ∈ px_tbl := px_in 125 (by decide +kernel) rfl
theorem o_FrameQueue_1 : Cond.methodLink "BindingKernel$FrameQueue" 1 Lib.objectInit ∈ px_tbl := px_in 141 (by decide +kernel) rfl
theorem o_EntryTable_3 : Cond.methodLink "BindingKernel$EntryTable" 3 Lib.objectInit ∈ px_tbl := px_in 161 (by decide +kernel) rfl
theorem o_Program_1 : Cond.methodLink "BindingKernel$Program" 1 Lib.objectInit ∈ px_tbl := px_in 175 (by decide +kernel) rfl
theorem o_Mo_1 : Cond.methodLink "BindingKernelModel" 1 Lib.objectInit ∈ px_tbl := px_in 672 (by decide +kernel) rfl
theorem o_1 : Cond.instanceMethod Lib.objectInit ∈ px_tbl := px_in 20 (by decide +kernel) rfl
theorem o_2 : Cond.code Lib.objectInit ⟨#[0xb1]⟩ 1 none ∈ px_tbl := px_in 21 (by decide +kernel) rfl
theorem ac_int : Cond.arrayClass .int ∈ px_tbl := px_in 66 (by decide +kernel) rfl
theorem ac_boolean : Cond.arrayClass .boolean ∈ px_tbl := px_in 67 (by decide +kernel) rfl
theorem z_K_123 : Cond.constantLong "BindingKernel" 123 (1000000000000 : Int64) ∈ px_tbl := px_in 393 (by decide +kernel) rfl
theorem z_Mo_137 : Cond.constantLong "BindingKernelModel" 137 (1000000000000 : Int64) ∈ px_tbl := px_in 829 (by decide +kernel) rfl
