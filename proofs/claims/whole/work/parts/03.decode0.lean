/-! decode rows -/
theorem d_K_init_0 : decode M_K_init.2.1 0 = .ok (.aload_n 0, 1) := by decide +kernel
theorem d_K_init_1 : decode M_K_init.2.1 1 = .ok (.invokespecial 1, 3) := by decide +kernel
theorem d_K_init_4 : decode M_K_init.2.1 4 = .ok (.aload_n 0, 1) := by decide +kernel
theorem d_K_init_5 : decode M_K_init.2.1 5 = .ok (.new 7, 3) := by decide +kernel
theorem d_K_init_8 : decode M_K_init.2.1 8 = .ok (.dup, 1) := by decide +kernel
theorem d_K_init_9 : decode M_K_init.2.1 9 = .ok (.iload_n 1, 1) := by decide +kernel
theorem d_K_init_10 : decode M_K_init.2.1 10 = .ok (.invokestatic 9, 3) := by decide +kernel
theorem d_K_init_13 : decode M_K_init.2.1 13 = .ok (.invokespecial 15, 3) := by decide +kernel
theorem d_K_init_16 : decode M_K_init.2.1 16 = .ok (.putfield 18, 3) := by decide +kernel
theorem d_K_init_19 : decode M_K_init.2.1 19 = .ok (.aload_n 0, 1) := by decide +kernel
theorem d_K_init_20 : decode M_K_init.2.1 20 = .ok (.new 22, 3) := by decide +kernel
theorem d_K_init_23 : decode M_K_init.2.1 23 = .ok (.dup, 1) := by decide +kernel
theorem d_K_init_24 : decode M_K_init.2.1 24 = .ok (.iload_n 2, 1) := by decide +kernel
theorem d_K_init_25 : decode M_K_init.2.1 25 = .ok (.invokestatic 9, 3) := by decide +kernel
theorem d_K_init_28 : decode M_K_init.2.1 28 = .ok (.invokespecial 24, 3) := by decide +kernel
theorem d_K_init_31 : decode M_K_init.2.1 31 = .ok (.putfield 25, 3) := by decide +kernel
theorem d_K_init_34 : decode M_K_init.2.1 34 = .ok (.aload_n 0, 1) := by decide +kernel
theorem d_K_init_35 : decode M_K_init.2.1 35 = .ok (.new 29, 3) := by decide +kernel
theorem d_K_init_38 : decode M_K_init.2.1 38 = .ok (.dup, 1) := by decide +kernel
theorem d_K_init_39 : decode M_K_init.2.1 39 = .ok (.invokespecial 31, 3) := by decide +kernel
theorem d_K_init_42 : decode M_K_init.2.1 42 = .ok (.putfield 32, 3) := by decide +kernel
theorem d_K_init_45 : decode M_K_init.2.1 45 = .ok (.aload_n 0, 1) := by decide +kernel
theorem d_K_init_46 : decode M_K_init.2.1 46 = .ok (.new 36, 3) := by decide +kernel
theorem d_K_init_49 : decode M_K_init.2.1 49 = .ok (.dup, 1) := by decide +kernel
theorem d_K_init_50 : decode M_K_init.2.1 50 = .ok (.invokespecial 38, 3) := by decide +kernel
theorem d_K_init_53 : decode M_K_init.2.1 53 = .ok (.putfield 39, 3) := by decide +kernel
theorem d_K_init_56 : decode M_K_init.2.1 56 = .ok (.aload_n 0, 1) := by decide +kernel
theorem d_K_init_57 : decode M_K_init.2.1 57 = .ok (.iconst 0, 1) := by decide +kernel
theorem d_K_init_58 : decode M_K_init.2.1 58 = .ok (.putfield 43, 3) := by decide +kernel
theorem d_K_init_61 : decode M_K_init.2.1 61 = .ok (.aload_n 0, 1) := by decide +kernel
theorem d_K_init_62 : decode M_K_init.2.1 62 = .ok (.bipush 6, 2) := by decide +kernel
theorem d_K_init_64 : decode M_K_init.2.1 64 = .ok (.anewarray 47, 3) := by decide +kernel
theorem d_K_init_67 : decode M_K_init.2.1 67 = .ok (.putfield 49, 3) := by decide +kernel
theorem d_K_init_70 : decode M_K_init.2.1 70 = .ok (.iconst 0, 1) := by decide +kernel
theorem d_K_init_71 : decode M_K_init.2.1 71 = .ok (.istore_n 3, 1) := by decide +kernel
theorem d_K_init_72 : decode M_K_init.2.1 72 = .ok (.iload_n 3, 1) := by decide +kernel
theorem d_K_init_73 : decode M_K_init.2.1 73 = .ok (.bipush 6, 2) := by decide +kernel
theorem d_K_init_75 : decode M_K_init.2.1 75 = .ok (.if_icmp .ge 22, 3) := by decide +kernel
theorem d_K_init_78 : decode M_K_init.2.1 78 = .ok (.aload_n 0, 1) := by decide +kernel
theorem d_K_init_79 : decode M_K_init.2.1 79 = .ok (.getfield 49, 3) := by decide +kernel
theorem d_K_init_82 : decode M_K_init.2.1 82 = .ok (.iload_n 3, 1) := by decide +kernel
theorem d_K_init_83 : decode M_K_init.2.1 83 = .ok (.new 47, 3) := by decide +kernel
theorem d_K_init_86 : decode M_K_init.2.1 86 = .ok (.dup, 1) := by decide +kernel
theorem d_K_init_87 : decode M_K_init.2.1 87 = .ok (.invokespecial 53, 3) := by decide +kernel
theorem d_K_init_90 : decode M_K_init.2.1 90 = .ok (.aastore, 1) := by decide +kernel
theorem d_K_init_91 : decode M_K_init.2.1 91 = .ok (.iinc 3 1, 3) := by decide +kernel
theorem d_K_init_94 : decode M_K_init.2.1 94 = .ok (.goto (-22), 3) := by decide +kernel
theorem d_K_init_97 : decode M_K_init.2.1 97 = .ok (.return_, 1) := by decide +kernel
theorem d_K_clampSize_0 : decode M_K_clampSize.2.1 0 = .ok (.iconst 4, 1) := by decide +kernel
theorem d_K_clampSize_1 : decode M_K_clampSize.2.1 1 = .ok (.bipush 32, 2) := by decide +kernel
theorem d_K_clampSize_3 : decode M_K_clampSize.2.1 3 = .ok (.iload_n 0, 1) := by decide +kernel
theorem d_K_clampSize_4 : decode M_K_clampSize.2.1 4 = .ok (.invokestatic 287, 3) := by decide +kernel
theorem d_K_clampSize_7 : decode M_K_clampSize.2.1 7 = .ok (.invokestatic 290, 3) := by decide +kernel
theorem d_K_clampSize_10 : decode M_K_clampSize.2.1 10 = .ok (.ireturn, 1) := by decide +kernel
theorem d_Math_min_0 : decode M_Math_min.2.1 0 = .ok (.iload_n 0, 1) := by decide +kernel
theorem d_Math_min_1 : decode M_Math_min.2.1 1 = .ok (.iload_n 1, 1) := by decide +kernel
theorem d_Math_min_2 : decode M_Math_min.2.1 2 = .ok (.if_icmp .gt 7, 3) := by decide +kernel
theorem d_Math_min_5 : decode M_Math_min.2.1 5 = .ok (.iload_n 0, 1) := by decide +kernel
theorem d_Math_min_6 : decode M_Math_min.2.1 6 = .ok (.goto 4, 3) := by decide +kernel
theorem d_Math_min_9 : decode M_Math_min.2.1 9 = .ok (.iload_n 1, 1) := by decide +kernel
theorem d_Math_min_10 : decode M_Math_min.2.1 10 = .ok (.ireturn, 1) := by decide +kernel
theorem d_Math_max_0 : decode M_Math_max.2.1 0 = .ok (.iload_n 0, 1) := by decide +kernel
theorem d_Math_max_1 : decode M_Math_max.2.1 1 = .ok (.iload_n 1, 1) := by decide +kernel
theorem d_Math_max_2 : decode M_Math_max.2.1 2 = .ok (.if_icmp .lt 7, 3) := by decide +kernel
theorem d_Math_max_5 : decode M_Math_max.2.1 5 = .ok (.iload_n 0, 1) := by decide +kernel
theorem d_Math_max_6 : decode M_Math_max.2.1 6 = .ok (.goto 4, 3) := by decide +kernel
theorem d_Math_max_9 : decode M_Math_max.2.1 9 = .ok (.iload_n 1, 1) := by decide +kernel
theorem d_Math_max_10 : decode M_Math_max.2.1 10 = .ok (.ireturn, 1) := by decide +kernel
theorem d_Memory_init_0 : decode M_Memory_init.2.1 0 = .ok (.aload_n 0, 1) := by decide +kernel
theorem d_Memory_init_1 : decode M_Memory_init.2.1 1 = .ok (.invokespecial 3, 3) := by decide +kernel
theorem d_Memory_init_4 : decode M_Memory_init.2.1 4 = .ok (.aload_n 0, 1) := by decide +kernel
theorem d_Memory_init_5 : decode M_Memory_init.2.1 5 = .ok (.iload_n 1, 1) := by decide +kernel
theorem d_Memory_init_6 : decode M_Memory_init.2.1 6 = .ok (.putfield 9, 3) := by decide +kernel
theorem d_Memory_init_9 : decode M_Memory_init.2.1 9 = .ok (.aload_n 0, 1) := by decide +kernel
theorem d_Memory_init_10 : decode M_Memory_init.2.1 10 = .ok (.iload_n 1, 1) := by decide +kernel
theorem d_Memory_init_11 : decode M_Memory_init.2.1 11 = .ok (.iconst 4, 1) := by decide +kernel
theorem d_Memory_init_12 : decode M_Memory_init.2.1 12 = .ok (.imul, 1) := by decide +kernel
theorem d_Memory_init_13 : decode M_Memory_init.2.1 13 = .ok (.newarray .int, 2) := by decide +kernel
theorem d_Memory_init_15 : decode M_Memory_init.2.1 15 = .ok (.putfield 15, 3) := by decide +kernel
theorem d_Memory_init_18 : decode M_Memory_init.2.1 18 = .ok (.aload_n 0, 1) := by decide +kernel
theorem d_Memory_init_19 : decode M_Memory_init.2.1 19 = .ok (.iload_n 1, 1) := by decide +kernel
theorem d_Memory_init_20 : decode M_Memory_init.2.1 20 = .ok (.newarray .int, 2) := by decide +kernel
theorem d_Memory_init_22 : decode M_Memory_init.2.1 22 = .ok (.putfield 19, 3) := by decide +kernel
theorem d_Memory_init_25 : decode M_Memory_init.2.1 25 = .ok (.aload_n 0, 1) := by decide +kernel
theorem d_Memory_init_26 : decode M_Memory_init.2.1 26 = .ok (.iload_n 1, 1) := by decide +kernel
theorem d_Memory_init_27 : decode M_Memory_init.2.1 27 = .ok (.bipush 6, 2) := by decide +kernel
theorem d_Memory_init_29 : decode M_Memory_init.2.1 29 = .ok (.imul, 1) := by decide +kernel
theorem d_Memory_init_30 : decode M_Memory_init.2.1 30 = .ok (.newarray .int, 2) := by decide +kernel
theorem d_Memory_init_32 : decode M_Memory_init.2.1 32 = .ok (.putfield 22, 3) := by decide +kernel
theorem d_Memory_init_35 : decode M_Memory_init.2.1 35 = .ok (.aload_n 0, 1) := by decide +kernel
theorem d_Memory_init_36 : decode M_Memory_init.2.1 36 = .ok (.iload_n 1, 1) := by decide +kernel
theorem d_Memory_init_37 : decode M_Memory_init.2.1 37 = .ok (.newarray .int, 2) := by decide +kernel
theorem d_Memory_init_39 : decode M_Memory_init.2.1 39 = .ok (.putfield 25, 3) := by decide +kernel
theorem d_Memory_init_42 : decode M_Memory_init.2.1 42 = .ok (.aload_n 0, 1) := by decide +kernel
theorem d_Memory_init_43 : decode M_Memory_init.2.1 43 = .ok (.iload_n 1, 1) := by decide +kernel
theorem d_Memory_init_44 : decode M_Memory_init.2.1 44 = .ok (.newarray .boolean, 2) := by decide +kernel
theorem d_Memory_init_46 : decode M_Memory_init.2.1 46 = .ok (.putfield 28, 3) := by decide +kernel
theorem d_Memory_init_49 : decode M_Memory_init.2.1 49 = .ok (.aload_n 0, 1) := by decide +kernel
theorem d_Memory_init_50 : decode M_Memory_init.2.1 50 = .ok (.iload_n 1, 1) := by decide +kernel
theorem d_Memory_init_51 : decode M_Memory_init.2.1 51 = .ok (.newarray .int, 2) := by decide +kernel
theorem d_Memory_init_53 : decode M_Memory_init.2.1 53 = .ok (.putfield 32, 3) := by decide +kernel
theorem d_Memory_init_56 : decode M_Memory_init.2.1 56 = .ok (.aload_n 0, 1) := by decide +kernel
theorem d_Memory_init_57 : decode M_Memory_init.2.1 57 = .ok (.iconst 0, 1) := by decide +kernel
theorem d_Memory_init_58 : decode M_Memory_init.2.1 58 = .ok (.putfield 35, 3) := by decide +kernel
theorem d_Memory_init_61 : decode M_Memory_init.2.1 61 = .ok (.aload_n 0, 1) := by decide +kernel
theorem d_Memory_init_62 : decode M_Memory_init.2.1 62 = .ok (.iconst 0, 1) := by decide +kernel
theorem d_Memory_init_63 : decode M_Memory_init.2.1 63 = .ok (.putfield 38, 3) := by decide +kernel
theorem d_Memory_init_66 : decode M_Memory_init.2.1 66 = .ok (.iconst 0, 1) := by decide +kernel
theorem d_Memory_init_67 : decode M_Memory_init.2.1 67 = .ok (.istore_n 2, 1) := by decide +kernel
theorem d_Memory_init_68 : decode M_Memory_init.2.1 68 = .ok (.iload_n 2, 1) := by decide +kernel
theorem d_Memory_init_69 : decode M_Memory_init.2.1 69 = .ok (.iload_n 1, 1) := by decide +kernel
theorem d_Memory_init_70 : decode M_Memory_init.2.1 70 = .ok (.if_icmp .ge 16, 3) := by decide +kernel
theorem d_Memory_init_73 : decode M_Memory_init.2.1 73 = .ok (.aload_n 0, 1) := by decide +kernel
theorem d_Memory_init_74 : decode M_Memory_init.2.1 74 = .ok (.getfield 19, 3) := by decide +kernel
theorem d_Memory_init_77 : decode M_Memory_init.2.1 77 = .ok (.iload_n 2, 1) := by decide +kernel
theorem d_Memory_init_78 : decode M_Memory_init.2.1 78 = .ok (.iconst (-1), 1) := by decide +kernel
theorem d_Memory_init_79 : decode M_Memory_init.2.1 79 = .ok (.iastore, 1) := by decide +kernel
theorem d_Memory_init_80 : decode M_Memory_init.2.1 80 = .ok (.iinc 2 1, 3) := by decide +kernel
theorem d_Memory_init_83 : decode M_Memory_init.2.1 83 = .ok (.goto (-15), 3) := by decide +kernel
theorem d_Memory_init_86 : decode M_Memory_init.2.1 86 = .ok (.return_, 1) := by decide +kernel
theorem d_Disk_init_0 : decode M_Disk_init.2.1 0 = .ok (.aload_n 0, 1) := by decide +kernel
theorem d_Disk_init_1 : decode M_Disk_init.2.1 1 = .ok (.invokespecial 3, 3) := by decide +kernel
theorem d_Disk_init_4 : decode M_Disk_init.2.1 4 = .ok (.aload_n 0, 1) := by decide +kernel
theorem d_Disk_init_5 : decode M_Disk_init.2.1 5 = .ok (.iload_n 1, 1) := by decide +kernel
theorem d_Disk_init_6 : decode M_Disk_init.2.1 6 = .ok (.putfield 9, 3) := by decide +kernel
theorem d_Disk_init_9 : decode M_Disk_init.2.1 9 = .ok (.aload_n 0, 1) := by decide +kernel
theorem d_Disk_init_10 : decode M_Disk_init.2.1 10 = .ok (.iload_n 1, 1) := by decide +kernel
theorem d_Disk_init_11 : decode M_Disk_init.2.1 11 = .ok (.bipush 8, 2) := by decide +kernel
theorem d_Disk_init_13 : decode M_Disk_init.2.1 13 = .ok (.imul, 1) := by decide +kernel
theorem d_Disk_init_14 : decode M_Disk_init.2.1 14 = .ok (.newarray .int, 2) := by decide +kernel
theorem d_Disk_init_16 : decode M_Disk_init.2.1 16 = .ok (.putfield 15, 3) := by decide +kernel
theorem d_Disk_init_19 : decode M_Disk_init.2.1 19 = .ok (.aload_n 0, 1) := by decide +kernel
theorem d_Disk_init_20 : decode M_Disk_init.2.1 20 = .ok (.iload_n 1, 1) := by decide +kernel
theorem d_Disk_init_21 : decode M_Disk_init.2.1 21 = .ok (.newarray .int, 2) := by decide +kernel
theorem d_Disk_init_23 : decode M_Disk_init.2.1 23 = .ok (.putfield 19, 3) := by decide +kernel
theorem d_Disk_init_26 : decode M_Disk_init.2.1 26 = .ok (.iconst 0, 1) := by decide +kernel
theorem d_Disk_init_27 : decode M_Disk_init.2.1 27 = .ok (.istore_n 2, 1) := by decide +kernel
theorem d_Disk_init_28 : decode M_Disk_init.2.1 28 = .ok (.iload_n 2, 1) := by decide +kernel
theorem d_Disk_init_29 : decode M_Disk_init.2.1 29 = .ok (.iload_n 1, 1) := by decide +kernel
theorem d_Disk_init_30 : decode M_Disk_init.2.1 30 = .ok (.if_icmp .ge 16, 3) := by decide +kernel
theorem d_Disk_init_33 : decode M_Disk_init.2.1 33 = .ok (.aload_n 0, 1) := by decide +kernel
theorem d_Disk_init_34 : decode M_Disk_init.2.1 34 = .ok (.getfield 19, 3) := by decide +kernel
theorem d_Disk_init_37 : decode M_Disk_init.2.1 37 = .ok (.iload_n 2, 1) := by decide +kernel
theorem d_Disk_init_38 : decode M_Disk_init.2.1 38 = .ok (.iconst (-1), 1) := by decide +kernel
theorem d_Disk_init_39 : decode M_Disk_init.2.1 39 = .ok (.iastore, 1) := by decide +kernel
theorem d_Disk_init_40 : decode M_Disk_init.2.1 40 = .ok (.iinc 2 1, 3) := by decide +kernel
theorem d_Disk_init_43 : decode M_Disk_init.2.1 43 = .ok (.goto (-15), 3) := by decide +kernel
theorem d_Disk_init_46 : decode M_Disk_init.2.1 46 = .ok (.return_, 1) := by decide +kernel
theorem d_FilterOrder_init_0 : decode M_FilterOrder_init.2.1 0 = .ok (.aload_n 0, 1) := by decide +kernel
theorem d_FilterOrder_init_1 : decode M_FilterOrder_init.2.1 1 = .ok (.invokespecial 3, 3) := by decide +kernel
theorem d_FilterOrder_init_4 : decode M_FilterOrder_init.2.1 4 = .ok (.aload_n 0, 1) := by decide +kernel
theorem d_FilterOrder_init_5 : decode M_FilterOrder_init.2.1 5 = .ok (.bipush 6, 2) := by decide +kernel
theorem d_FilterOrder_init_7 : decode M_FilterOrder_init.2.1 7 = .ok (.newarray .int, 2) := by decide +kernel
theorem d_FilterOrder_init_9 : decode M_FilterOrder_init.2.1 9 = .ok (.putfield 9, 3) := by decide +kernel
theorem d_FilterOrder_init_12 : decode M_FilterOrder_init.2.1 12 = .ok (.aload_n 0, 1) := by decide +kernel
theorem d_FilterOrder_init_13 : decode M_FilterOrder_init.2.1 13 = .ok (.iconst 0, 1) := by decide +kernel
theorem d_FilterOrder_init_14 : decode M_FilterOrder_init.2.1 14 = .ok (.putfield 15, 3) := by decide +kernel
theorem d_FilterOrder_init_17 : decode M_FilterOrder_init.2.1 17 = .ok (.return_, 1) := by decide +kernel
theorem d_Frame_init_0 : decode M_Frame_init.2.1 0 = .ok (.aload_n 0, 1) := by decide +kernel
theorem d_Frame_init_1 : decode M_Frame_init.2.1 1 = .ok (.invokespecial 1, 3) := by decide +kernel
theorem d_Frame_init_4 : decode M_Frame_init.2.1 4 = .ok (.aload_n 0, 1) := by decide +kernel
theorem d_Frame_init_5 : decode M_Frame_init.2.1 5 = .ok (.bipush 16, 2) := by decide +kernel
theorem d_Frame_init_7 : decode M_Frame_init.2.1 7 = .ok (.newarray .int, 2) := by decide +kernel
theorem d_Frame_init_9 : decode M_Frame_init.2.1 9 = .ok (.putfield 9, 3) := by decide +kernel
theorem d_Frame_init_12 : decode M_Frame_init.2.1 12 = .ok (.aload_n 0, 1) := by decide +kernel
theorem d_Frame_init_13 : decode M_Frame_init.2.1 13 = .ok (.iconst 0, 1) := by decide +kernel
theorem d_Frame_init_14 : decode M_Frame_init.2.1 14 = .ok (.putfield 13, 3) := by decide +kernel
theorem d_Frame_init_17 : decode M_Frame_init.2.1 17 = .ok (.return_, 1) := by decide +kernel
theorem d_Application_init_0 : decode M_Application_init.2.1 0 = .ok (.aload_n 0, 1) := by decide +kernel
theorem d_Application_init_1 : decode M_Application_init.2.1 1 = .ok (.invokespecial 1, 3) := by decide +kernel
theorem d_Application_init_4 : decode M_Application_init.2.1 4 = .ok (.aload_n 0, 1) := by decide +kernel
theorem d_Application_init_5 : decode M_Application_init.2.1 5 = .ok (.new 7, 3) := by decide +kernel
theorem d_Application_init_8 : decode M_Application_init.2.1 8 = .ok (.dup, 1) := by decide +kernel
theorem d_Application_init_9 : decode M_Application_init.2.1 9 = .ok (.invokespecial 9, 3) := by decide +kernel
theorem d_Application_init_12 : decode M_Application_init.2.1 12 = .ok (.putfield 10, 3) := by decide +kernel
theorem d_Application_init_15 : decode M_Application_init.2.1 15 = .ok (.aload_n 0, 1) := by decide +kernel
theorem d_Application_init_16 : decode M_Application_init.2.1 16 = .ok (.new 16, 3) := by decide +kernel
theorem d_Application_init_19 : decode M_Application_init.2.1 19 = .ok (.dup, 1) := by decide +kernel
theorem d_Application_init_20 : decode M_Application_init.2.1 20 = .ok (.invokespecial 18, 3) := by decide +kernel
theorem d_Application_init_23 : decode M_Application_init.2.1 23 = .ok (.putfield 19, 3) := by decide +kernel
theorem d_Application_init_26 : decode M_Application_init.2.1 26 = .ok (.aload_n 0, 1) := by decide +kernel
theorem d_Application_init_27 : decode M_Application_init.2.1 27 = .ok (.new 23, 3) := by decide +kernel
theorem d_Application_init_30 : decode M_Application_init.2.1 30 = .ok (.dup, 1) := by decide +kernel
theorem d_Application_init_31 : decode M_Application_init.2.1 31 = .ok (.invokespecial 25, 3) := by decide +kernel
theorem d_Application_init_34 : decode M_Application_init.2.1 34 = .ok (.putfield 26, 3) := by decide +kernel
theorem d_Application_init_37 : decode M_Application_init.2.1 37 = .ok (.aload_n 0, 1) := by decide +kernel
theorem d_Application_init_38 : decode M_Application_init.2.1 38 = .ok (.new 30, 3) := by decide +kernel
theorem d_Application_init_41 : decode M_Application_init.2.1 41 = .ok (.dup, 1) := by decide +kernel
theorem d_Application_init_42 : decode M_Application_init.2.1 42 = .ok (.invokespecial 32, 3) := by decide +kernel
theorem d_Application_init_45 : decode M_Application_init.2.1 45 = .ok (.putfield 33, 3) := by decide +kernel
theorem d_Application_init_48 : decode M_Application_init.2.1 48 = .ok (.aload_n 0, 1) := by decide +kernel
theorem d_Application_init_49 : decode M_Application_init.2.1 49 = .ok (.new 30, 3) := by decide +kernel
theorem d_Application_init_52 : decode M_Application_init.2.1 52 = .ok (.dup, 1) := by decide +kernel
theorem d_Application_init_53 : decode M_Application_init.2.1 53 = .ok (.invokespecial 32, 3) := by decide +kernel
theorem d_Application_init_56 : decode M_Application_init.2.1 56 = .ok (.putfield 37, 3) := by decide +kernel
theorem d_Application_init_59 : decode M_Application_init.2.1 59 = .ok (.aload_n 0, 1) := by decide +kernel
theorem d_Application_init_60 : decode M_Application_init.2.1 60 = .ok (.iconst 0, 1) := by decide +kernel
theorem d_Application_init_61 : decode M_Application_init.2.1 61 = .ok (.putfield 40, 3) := by decide +kernel
theorem d_Application_init_64 : decode M_Application_init.2.1 64 = .ok (.aload_n 0, 1) := by decide +kernel
theorem d_Application_init_65 : decode M_Application_init.2.1 65 = .ok (.iconst 0, 1) := by decide +kernel
theorem d_Application_init_66 : decode M_Application_init.2.1 66 = .ok (.putfield 44, 3) := by decide +kernel
theorem d_Application_init_69 : decode M_Application_init.2.1 69 = .ok (.aload_n 0, 1) := by decide +kernel
theorem d_Application_init_70 : decode M_Application_init.2.1 70 = .ok (.iconst 0, 1) := by decide +kernel
theorem d_Application_init_71 : decode M_Application_init.2.1 71 = .ok (.putfield 47, 3) := by decide +kernel
theorem d_Application_init_74 : decode M_Application_init.2.1 74 = .ok (.aload_n 0, 1) := by decide +kernel
theorem d_Application_init_75 : decode M_Application_init.2.1 75 = .ok (.iconst 0, 1) := by decide +kernel
theorem d_Application_init_76 : decode M_Application_init.2.1 76 = .ok (.putfield 51, 3) := by decide +kernel
theorem d_Application_init_79 : decode M_Application_init.2.1 79 = .ok (.return_, 1) := by decide +kernel
theorem d_PageList_init_0 : decode M_PageList_init.2.1 0 = .ok (.aload_n 0, 1) := by decide +kernel
theorem d_PageList_init_1 : decode M_PageList_init.2.1 1 = .ok (.invokespecial 1, 3) := by decide +kernel
theorem d_PageList_init_4 : decode M_PageList_init.2.1 4 = .ok (.aload_n 0, 1) := by decide +kernel
theorem d_PageList_init_5 : decode M_PageList_init.2.1 5 = .ok (.bipush 8, 2) := by decide +kernel
theorem d_PageList_init_7 : decode M_PageList_init.2.1 7 = .ok (.newarray .int, 2) := by decide +kernel
theorem d_PageList_init_9 : decode M_PageList_init.2.1 9 = .ok (.putfield 9, 3) := by decide +kernel
theorem d_PageList_init_12 : decode M_PageList_init.2.1 12 = .ok (.aload_n 0, 1) := by decide +kernel
theorem d_PageList_init_13 : decode M_PageList_init.2.1 13 = .ok (.iconst 0, 1) := by decide +kernel
theorem d_PageList_init_14 : decode M_PageList_init.2.1 14 = .ok (.putfield 13, 3) := by decide +kernel
theorem d_PageList_init_17 : decode M_PageList_init.2.1 17 = .ok (.aload_n 0, 1) := by decide +kernel
theorem d_PageList_init_18 : decode M_PageList_init.2.1 18 = .ok (.iconst 0, 1) := by decide +kernel
theorem d_PageList_init_19 : decode M_PageList_init.2.1 19 = .ok (.putfield 17, 3) := by decide +kernel
theorem d_PageList_init_22 : decode M_PageList_init.2.1 22 = .ok (.return_, 1) := by decide +kernel
theorem d_FrameQueue_init_0 : decode M_FrameQueue_init.2.1 0 = .ok (.aload_n 0, 1) := by decide +kernel
theorem d_FrameQueue_init_1 : decode M_FrameQueue_init.2.1 1 = .ok (.invokespecial 1, 3) := by decide +kernel
theorem d_FrameQueue_init_4 : decode M_FrameQueue_init.2.1 4 = .ok (.aload_n 0, 1) := by decide +kernel
theorem d_FrameQueue_init_5 : decode M_FrameQueue_init.2.1 5 = .ok (.iconst 4, 1) := by decide +kernel
theorem d_FrameQueue_init_6 : decode M_FrameQueue_init.2.1 6 = .ok (.anewarray 9, 3) := by decide +kernel
theorem d_FrameQueue_init_9 : decode M_FrameQueue_init.2.1 9 = .ok (.putfield 11, 3) := by decide +kernel
theorem d_FrameQueue_init_12 : decode M_FrameQueue_init.2.1 12 = .ok (.aload_n 0, 1) := by decide +kernel
theorem d_FrameQueue_init_13 : decode M_FrameQueue_init.2.1 13 = .ok (.iconst 0, 1) := by decide +kernel
theorem d_FrameQueue_init_14 : decode M_FrameQueue_init.2.1 14 = .ok (.putfield 15, 3) := by decide +kernel
theorem d_FrameQueue_init_17 : decode M_FrameQueue_init.2.1 17 = .ok (.aload_n 0, 1) := by decide +kernel
theorem d_FrameQueue_init_18 : decode M_FrameQueue_init.2.1 18 = .ok (.iconst 0, 1) := by decide +kernel
theorem d_FrameQueue_init_19 : decode M_FrameQueue_init.2.1 19 = .ok (.putfield 19, 3) := by decide +kernel
theorem d_FrameQueue_init_22 : decode M_FrameQueue_init.2.1 22 = .ok (.iconst 0, 1) := by decide +kernel
theorem d_FrameQueue_init_23 : decode M_FrameQueue_init.2.1 23 = .ok (.istore_n 1, 1) := by decide +kernel
theorem d_FrameQueue_init_24 : decode M_FrameQueue_init.2.1 24 = .ok (.iload_n 1, 1) := by decide +kernel
theorem d_FrameQueue_init_25 : decode M_FrameQueue_init.2.1 25 = .ok (.iconst 4, 1) := by decide +kernel
theorem d_FrameQueue_init_26 : decode M_FrameQueue_init.2.1 26 = .ok (.if_icmp .ge 22, 3) := by decide +kernel
theorem d_FrameQueue_init_29 : decode M_FrameQueue_init.2.1 29 = .ok (.aload_n 0, 1) := by decide +kernel
theorem d_FrameQueue_init_30 : decode M_FrameQueue_init.2.1 30 = .ok (.getfield 11, 3) := by decide +kernel
theorem d_FrameQueue_init_33 : decode M_FrameQueue_init.2.1 33 = .ok (.iload_n 1, 1) := by decide +kernel
theorem d_FrameQueue_init_34 : decode M_FrameQueue_init.2.1 34 = .ok (.new 9, 3) := by decide +kernel
theorem d_FrameQueue_init_37 : decode M_FrameQueue_init.2.1 37 = .ok (.dup, 1) := by decide +kernel
theorem d_FrameQueue_init_38 : decode M_FrameQueue_init.2.1 38 = .ok (.invokespecial 22, 3) := by decide +kernel
theorem d_FrameQueue_init_41 : decode M_FrameQueue_init.2.1 41 = .ok (.aastore, 1) := by decide +kernel
theorem d_FrameQueue_init_42 : decode M_FrameQueue_init.2.1 42 = .ok (.iinc 1 1, 3) := by decide +kernel
theorem d_FrameQueue_init_45 : decode M_FrameQueue_init.2.1 45 = .ok (.goto (-21), 3) := by decide +kernel
theorem d_FrameQueue_init_48 : decode M_FrameQueue_init.2.1 48 = .ok (.return_, 1) := by decide +kernel
theorem d_EntryTable_init_0 : decode M_EntryTable_init.2.1 0 = .ok (.aload_n 0, 1) := by decide +kernel
theorem d_EntryTable_init_1 : decode M_EntryTable_init.2.1 1 = .ok (.invokespecial 3, 3) := by decide +kernel
theorem d_EntryTable_init_4 : decode M_EntryTable_init.2.1 4 = .ok (.aload_n 0, 1) := by decide +kernel
theorem d_EntryTable_init_5 : decode M_EntryTable_init.2.1 5 = .ok (.bipush 7, 2) := by decide +kernel
theorem d_EntryTable_init_7 : decode M_EntryTable_init.2.1 7 = .ok (.newarray .int, 2) := by decide +kernel
theorem d_EntryTable_init_9 : decode M_EntryTable_init.2.1 9 = .ok (.putfield 11, 3) := by decide +kernel
theorem d_EntryTable_init_12 : decode M_EntryTable_init.2.1 12 = .ok (.aload_n 0, 1) := by decide +kernel
theorem d_EntryTable_init_13 : decode M_EntryTable_init.2.1 13 = .ok (.iconst 0, 1) := by decide +kernel
theorem d_EntryTable_init_14 : decode M_EntryTable_init.2.1 14 = .ok (.putfield 15, 3) := by decide +kernel
theorem d_EntryTable_init_17 : decode M_EntryTable_init.2.1 17 = .ok (.return_, 1) := by decide +kernel
theorem d_Program_init_0 : decode M_Program_init.2.1 0 = .ok (.aload_n 0, 1) := by decide +kernel
theorem d_Program_init_1 : decode M_Program_init.2.1 1 = .ok (.invokespecial 1, 3) := by decide +kernel
theorem d_Program_init_4 : decode M_Program_init.2.1 4 = .ok (.aload_n 0, 1) := by decide +kernel
theorem d_Program_init_5 : decode M_Program_init.2.1 5 = .ok (.bipush 16, 2) := by decide +kernel
theorem d_Program_init_7 : decode M_Program_init.2.1 7 = .ok (.newarray .int, 2) := by decide +kernel
theorem d_Program_init_9 : decode M_Program_init.2.1 9 = .ok (.putfield 9, 3) := by decide +kernel
theorem d_Program_init_12 : decode M_Program_init.2.1 12 = .ok (.aload_n 0, 1) := by decide +kernel
theorem d_Program_init_13 : decode M_Program_init.2.1 13 = .ok (.bipush 16, 2) := by decide +kernel
theorem d_Program_init_15 : decode M_Program_init.2.1 15 = .ok (.newarray .int, 2) := by decide +kernel
theorem d_Program_init_17 : decode M_Program_init.2.1 17 = .ok (.putfield 13, 3) := by decide +kernel
theorem d_Program_init_20 : decode M_Program_init.2.1 20 = .ok (.aload_n 0, 1) := by decide +kernel
theorem d_Program_init_21 : decode M_Program_init.2.1 21 = .ok (.bipush 16, 2) := by decide +kernel
theorem d_Program_init_23 : decode M_Program_init.2.1 23 = .ok (.newarray .int, 2) := by decide +kernel
theorem d_Program_init_25 : decode M_Program_init.2.1 25 = .ok (.putfield 16, 3) := by decide +kernel
theorem d_Program_init_28 : decode M_Program_init.2.1 28 = .ok (.aload_n 0, 1) := by decide +kernel
theorem d_Program_init_29 : decode M_Program_init.2.1 29 = .ok (.bipush 16, 2) := by decide +kernel
theorem d_Program_init_31 : decode M_Program_init.2.1 31 = .ok (.newarray .int, 2) := by decide +kernel
theorem d_Program_init_33 : decode M_Program_init.2.1 33 = .ok (.putfield 19, 3) := by decide +kernel
theorem d_Program_init_36 : decode M_Program_init.2.1 36 = .ok (.aload_n 0, 1) := by decide +kernel
theorem d_Program_init_37 : decode M_Program_init.2.1 37 = .ok (.iconst 0, 1) := by decide +kernel
theorem d_Program_init_38 : decode M_Program_init.2.1 38 = .ok (.putfield 22, 3) := by decide +kernel
theorem d_Program_init_41 : decode M_Program_init.2.1 41 = .ok (.return_, 1) := by decide +kernel
theorem d_K_open_0 : decode M_K_open.2.1 0 = .ok (.iload_n 1, 1) := by decide +kernel
theorem d_K_open_1 : decode M_K_open.2.1 1 = .ok (.invokestatic 54, 3) := by decide +kernel
theorem d_K_open_4 : decode M_K_open.2.1 4 = .ok (.ifCond .eq 28, 3) := by decide +kernel
theorem d_K_open_7 : decode M_K_open.2.1 7 = .ok (.iload_n 2, 1) := by decide +kernel
theorem d_K_open_8 : decode M_K_open.2.1 8 = .ok (.ifCond .ne 12, 3) := by decide +kernel
theorem d_K_open_11 : decode M_K_open.2.1 11 = .ok (.iload_n 3, 1) := by decide +kernel
theorem d_K_open_12 : decode M_K_open.2.1 12 = .ok (.iload 4, 2) := by decide +kernel
theorem d_K_open_14 : decode M_K_open.2.1 14 = .ok (.invokestatic 58, 3) := by decide +kernel
theorem d_K_open_17 : decode M_K_open.2.1 17 = .ok (.ifCond .eq 15, 3) := by decide +kernel
theorem d_K_open_20 : decode M_K_open.2.1 20 = .ok (.aload_n 0, 1) := by decide +kernel
theorem d_K_open_21 : decode M_K_open.2.1 21 = .ok (.getfield 49, 3) := by decide +kernel
theorem d_K_open_24 : decode M_K_open.2.1 24 = .ok (.iload_n 1, 1) := by decide +kernel
theorem d_K_open_25 : decode M_K_open.2.1 25 = .ok (.aaload, 1) := by decide +kernel
theorem d_K_open_26 : decode M_K_open.2.1 26 = .ok (.getfield 62, 3) := by decide +kernel
theorem d_K_open_29 : decode M_K_open.2.1 29 = .ok (.ifCond .eq 5, 3) := by decide +kernel
theorem d_K_open_32 : decode M_K_open.2.1 32 = .ok (.iconst (-1), 1) := by decide +kernel
theorem d_K_open_33 : decode M_K_open.2.1 33 = .ok (.ireturn, 1) := by decide +kernel
theorem d_K_open_34 : decode M_K_open.2.1 34 = .ok (.aload_n 0, 1) := by decide +kernel
theorem d_K_open_35 : decode M_K_open.2.1 35 = .ok (.getfield 25, 3) := by decide +kernel
theorem d_K_open_38 : decode M_K_open.2.1 38 = .ok (.invokevirtual 66, 3) := by decide +kernel
theorem d_K_open_41 : decode M_K_open.2.1 41 = .ok (.istore 5, 2) := by decide +kernel
theorem d_K_open_43 : decode M_K_open.2.1 43 = .ok (.iload 5, 2) := by decide +kernel
theorem d_K_open_45 : decode M_K_open.2.1 45 = .ok (.iconst (-1), 1) := by decide +kernel
theorem d_K_open_46 : decode M_K_open.2.1 46 = .ok (.if_icmp .ne 6, 3) := by decide +kernel
theorem d_K_open_49 : decode M_K_open.2.1 49 = .ok (.bipush (-2), 2) := by decide +kernel
theorem d_K_open_51 : decode M_K_open.2.1 51 = .ok (.ireturn, 1) := by decide +kernel
theorem d_K_open_52 : decode M_K_open.2.1 52 = .ok (.aload_n 0, 1) := by decide +kernel
theorem d_K_open_53 : decode M_K_open.2.1 53 = .ok (.getfield 49, 3) := by decide +kernel
theorem d_K_open_56 : decode M_K_open.2.1 56 = .ok (.iload_n 1, 1) := by decide +kernel
theorem d_K_open_57 : decode M_K_open.2.1 57 = .ok (.aaload, 1) := by decide +kernel
theorem d_K_open_58 : decode M_K_open.2.1 58 = .ok (.iload_n 2, 1) := by decide +kernel
theorem d_K_open_59 : decode M_K_open.2.1 59 = .ok (.iload_n 3, 1) := by decide +kernel
theorem d_K_open_60 : decode M_K_open.2.1 60 = .ok (.iload 4, 2) := by decide +kernel
theorem d_K_open_62 : decode M_K_open.2.1 62 = .ok (.invokevirtual 70, 3) := by decide +kernel
theorem d_K_open_65 : decode M_K_open.2.1 65 = .ok (.aload_n 0, 1) := by decide +kernel
theorem d_K_open_66 : decode M_K_open.2.1 66 = .ok (.getfield 25, 3) := by decide +kernel
theorem d_K_open_69 : decode M_K_open.2.1 69 = .ok (.iload 5, 2) := by decide +kernel
theorem d_K_open_71 : decode M_K_open.2.1 71 = .ok (.iload_n 1, 1) := by decide +kernel
theorem d_K_open_72 : decode M_K_open.2.1 72 = .ok (.aload_n 0, 1) := by decide +kernel
theorem d_K_open_73 : decode M_K_open.2.1 73 = .ok (.getfield 49, 3) := by decide +kernel
theorem d_K_open_76 : decode M_K_open.2.1 76 = .ok (.iload_n 1, 1) := by decide +kernel
theorem d_K_open_77 : decode M_K_open.2.1 77 = .ok (.aaload, 1) := by decide +kernel
theorem d_K_open_78 : decode M_K_open.2.1 78 = .ok (.getfield 74, 3) := by decide +kernel
theorem d_K_open_81 : decode M_K_open.2.1 81 = .ok (.aload_n 0, 1) := by decide +kernel
theorem d_K_open_82 : decode M_K_open.2.1 82 = .ok (.getfield 49, 3) := by decide +kernel
theorem d_K_open_85 : decode M_K_open.2.1 85 = .ok (.iload_n 1, 1) := by decide +kernel
theorem d_K_open_86 : decode M_K_open.2.1 86 = .ok (.aaload, 1) := by decide +kernel
theorem d_K_open_87 : decode M_K_open.2.1 87 = .ok (.getfield 77, 3) := by decide +kernel
theorem d_K_open_90 : decode M_K_open.2.1 90 = .ok (.invokevirtual 80, 3) := by decide +kernel
theorem d_K_open_93 : decode M_K_open.2.1 93 = .ok (.iconst 0, 1) := by decide +kernel
theorem d_K_open_94 : decode M_K_open.2.1 94 = .ok (.ireturn, 1) := by decide +kernel
theorem d_K_isApp_0 : decode M_K_isApp.2.1 0 = .ok (.iload_n 0, 1) := by decide +kernel
theorem d_K_isApp_1 : decode M_K_isApp.2.1 1 = .ok (.iconst 0, 1) := by decide +kernel
theorem d_K_isApp_2 : decode M_K_isApp.2.1 2 = .ok (.iconst 5, 1) := by decide +kernel
theorem d_K_isApp_3 : decode M_K_isApp.2.1 3 = .ok (.invokestatic 108, 3) := by decide +kernel
theorem d_K_isApp_6 : decode M_K_isApp.2.1 6 = .ok (.ireturn, 1) := by decide +kernel
theorem d_K_isIn_0 : decode M_K_isIn.2.1 0 = .ok (.iload_n 0, 1) := by decide +kernel
theorem d_K_isIn_1 : decode M_K_isIn.2.1 1 = .ok (.iload_n 1, 1) := by decide +kernel
theorem d_K_isIn_2 : decode M_K_isIn.2.1 2 = .ok (.if_icmp .lt 12, 3) := by decide +kernel
theorem d_K_isIn_5 : decode M_K_isIn.2.1 5 = .ok (.iload_n 0, 1) := by decide +kernel
theorem d_K_isIn_6 : decode M_K_isIn.2.1 6 = .ok (.iload_n 2, 1) := by decide +kernel
theorem d_K_isIn_7 : decode M_K_isIn.2.1 7 = .ok (.if_icmp .gt 7, 3) := by decide +kernel
theorem d_K_isIn_10 : decode M_K_isIn.2.1 10 = .ok (.iconst 1, 1) := by decide +kernel
theorem d_K_isIn_11 : decode M_K_isIn.2.1 11 = .ok (.goto 4, 3) := by decide +kernel
theorem d_K_isIn_14 : decode M_K_isIn.2.1 14 = .ok (.iconst 0, 1) := by decide +kernel
theorem d_K_isIn_15 : decode M_K_isIn.2.1 15 = .ok (.ireturn, 1) := by decide +kernel
theorem d_K_isLayout_0 : decode M_K_isLayout.2.1 0 = .ok (.iload_n 0, 1) := by decide +kernel
theorem d_K_isLayout_1 : decode M_K_isLayout.2.1 1 = .ok (.iconst 0, 1) := by decide +kernel
theorem d_K_isLayout_2 : decode M_K_isLayout.2.1 2 = .ok (.bipush 7, 2) := by decide +kernel
theorem d_K_isLayout_4 : decode M_K_isLayout.2.1 4 = .ok (.invokestatic 108, 3) := by decide +kernel
theorem d_K_isLayout_7 : decode M_K_isLayout.2.1 7 = .ok (.ifCond .eq 19, 3) := by decide +kernel
theorem d_K_isLayout_10 : decode M_K_isLayout.2.1 10 = .ok (.iload_n 1, 1) := by decide +kernel
theorem d_K_isLayout_11 : decode M_K_isLayout.2.1 11 = .ok (.iconst 0, 1) := by decide +kernel
theorem d_K_isLayout_12 : decode M_K_isLayout.2.1 12 = .ok (.bipush 8, 2) := by decide +kernel
theorem d_K_isLayout_14 : decode M_K_isLayout.2.1 14 = .ok (.iload_n 0, 1) := by decide +kernel
theorem d_K_isLayout_15 : decode M_K_isLayout.2.1 15 = .ok (.isub, 1) := by decide +kernel
theorem d_K_isLayout_16 : decode M_K_isLayout.2.1 16 = .ok (.invokestatic 108, 3) := by decide +kernel
theorem d_K_isLayout_19 : decode M_K_isLayout.2.1 19 = .ok (.ifCond .eq 7, 3) := by decide +kernel
theorem d_K_isLayout_22 : decode M_K_isLayout.2.1 22 = .ok (.iconst 1, 1) := by decide +kernel
theorem d_K_isLayout_23 : decode M_K_isLayout.2.1 23 = .ok (.goto 4, 3) := by decide +kernel
theorem d_K_isLayout_26 : decode M_K_isLayout.2.1 26 = .ok (.iconst 0, 1) := by decide +kernel
theorem d_K_isLayout_27 : decode M_K_isLayout.2.1 27 = .ok (.ireturn, 1) := by decide +kernel
theorem d_Disk_leastFree_0 : decode M_Disk_leastFree.2.1 0 = .ok (.iconst 0, 1) := by decide +kernel
theorem d_Disk_leastFree_1 : decode M_Disk_leastFree.2.1 1 = .ok (.istore_n 1, 1) := by decide +kernel
theorem d_Disk_leastFree_2 : decode M_Disk_leastFree.2.1 2 = .ok (.iload_n 1, 1) := by decide +kernel
theorem d_Disk_leastFree_3 : decode M_Disk_leastFree.2.1 3 = .ok (.aload_n 0, 1) := by decide +kernel
theorem d_Disk_leastFree_4 : decode M_Disk_leastFree.2.1 4 = .ok (.getfield 9, 3) := by decide +kernel
theorem d_Disk_leastFree_7 : decode M_Disk_leastFree.2.1 7 = .ok (.if_icmp .ge 19, 3) := by decide +kernel
theorem d_Disk_leastFree_10 : decode M_Disk_leastFree.2.1 10 = .ok (.aload_n 0, 1) := by decide +kernel
theorem d_Disk_leastFree_11 : decode M_Disk_leastFree.2.1 11 = .ok (.iload_n 1, 1) := by decide +kernel
theorem d_Disk_leastFree_12 : decode M_Disk_leastFree.2.1 12 = .ok (.invokevirtual 22, 3) := by decide +kernel
theorem d_Disk_leastFree_15 : decode M_Disk_leastFree.2.1 15 = .ok (.ifCond .eq 5, 3) := by decide +kernel
theorem d_Disk_leastFree_18 : decode M_Disk_leastFree.2.1 18 = .ok (.iload_n 1, 1) := by decide +kernel
theorem d_Disk_leastFree_19 : decode M_Disk_leastFree.2.1 19 = .ok (.ireturn, 1) := by decide +kernel
theorem d_Disk_leastFree_20 : decode M_Disk_leastFree.2.1 20 = .ok (.iinc 1 1, 3) := by decide +kernel
theorem d_Disk_leastFree_23 : decode M_Disk_leastFree.2.1 23 = .ok (.goto (-21), 3) := by decide +kernel
theorem d_Disk_leastFree_26 : decode M_Disk_leastFree.2.1 26 = .ok (.iconst (-1), 1) := by decide +kernel
theorem d_Disk_leastFree_27 : decode M_Disk_leastFree.2.1 27 = .ok (.ireturn, 1) := by decide +kernel
theorem d_Disk_isFree_0 : decode M_Disk_isFree.2.1 0 = .ok (.aload_n 0, 1) := by decide +kernel
theorem d_Disk_isFree_1 : decode M_Disk_isFree.2.1 1 = .ok (.getfield 19, 3) := by decide +kernel
theorem d_Disk_isFree_4 : decode M_Disk_isFree.2.1 4 = .ok (.iload_n 1, 1) := by decide +kernel
theorem d_Disk_isFree_5 : decode M_Disk_isFree.2.1 5 = .ok (.iaload, 1) := by decide +kernel
theorem d_Disk_isFree_6 : decode M_Disk_isFree.2.1 6 = .ok (.iconst (-1), 1) := by decide +kernel
theorem d_Disk_isFree_7 : decode M_Disk_isFree.2.1 7 = .ok (.if_icmp .ne 7, 3) := by decide +kernel
theorem d_Disk_isFree_10 : decode M_Disk_isFree.2.1 10 = .ok (.iconst 1, 1) := by decide +kernel
theorem d_Disk_isFree_11 : decode M_Disk_isFree.2.1 11 = .ok (.goto 4, 3) := by decide +kernel
theorem d_Disk_isFree_14 : decode M_Disk_isFree.2.1 14 = .ok (.iconst 0, 1) := by decide +kernel
theorem d_Disk_isFree_15 : decode M_Disk_isFree.2.1 15 = .ok (.ireturn, 1) := by decide +kernel
theorem d_Application_begin_0 : decode M_Application_begin.2.1 0 = .ok (.aload_n 0, 1) := by decide +kernel
theorem d_Application_begin_1 : decode M_Application_begin.2.1 1 = .ok (.iconst 1, 1) := by decide +kernel
theorem d_Application_begin_2 : decode M_Application_begin.2.1 2 = .ok (.putfield 40, 3) := by decide +kernel
theorem d_Application_begin_5 : decode M_Application_begin.2.1 5 = .ok (.aload_n 0, 1) := by decide +kernel
theorem d_Application_begin_6 : decode M_Application_begin.2.1 6 = .ok (.iload_n 1, 1) := by decide +kernel
theorem d_Application_begin_7 : decode M_Application_begin.2.1 7 = .ok (.putfield 44, 3) := by decide +kernel
theorem d_Application_begin_10 : decode M_Application_begin.2.1 10 = .ok (.aload_n 0, 1) := by decide +kernel
theorem d_Application_begin_11 : decode M_Application_begin.2.1 11 = .ok (.iload_n 1, 1) := by decide +kernel
theorem d_Application_begin_12 : decode M_Application_begin.2.1 12 = .ok (.ifCond .eq 7, 3) := by decide +kernel
theorem d_Application_begin_15 : decode M_Application_begin.2.1 15 = .ok (.iconst 0, 1) := by decide +kernel
theorem d_Application_begin_16 : decode M_Application_begin.2.1 16 = .ok (.goto 4, 3) := by decide +kernel
theorem d_Application_begin_19 : decode M_Application_begin.2.1 19 = .ok (.iload_n 2, 1) := by decide +kernel
theorem d_Application_begin_20 : decode M_Application_begin.2.1 20 = .ok (.putfield 47, 3) := by decide +kernel
theorem d_Application_begin_23 : decode M_Application_begin.2.1 23 = .ok (.aload_n 0, 1) := by decide +kernel
theorem d_Application_begin_24 : decode M_Application_begin.2.1 24 = .ok (.iload_n 1, 1) := by decide +kernel
theorem d_Application_begin_25 : decode M_Application_begin.2.1 25 = .ok (.ifCond .eq 7, 3) := by decide +kernel
theorem d_Application_begin_28 : decode M_Application_begin.2.1 28 = .ok (.iconst 0, 1) := by decide +kernel
theorem d_Application_begin_29 : decode M_Application_begin.2.1 29 = .ok (.goto 4, 3) := by decide +kernel
theorem d_Application_begin_32 : decode M_Application_begin.2.1 32 = .ok (.iload_n 3, 1) := by decide +kernel
theorem d_Application_begin_33 : decode M_Application_begin.2.1 33 = .ok (.putfield 51, 3) := by decide +kernel
theorem d_Application_begin_36 : decode M_Application_begin.2.1 36 = .ok (.aload_n 0, 1) := by decide +kernel
theorem d_Application_begin_37 : decode M_Application_begin.2.1 37 = .ok (.getfield 10, 3) := by decide +kernel
theorem d_Application_begin_40 : decode M_Application_begin.2.1 40 = .ok (.invokevirtual 54, 3) := by decide +kernel
theorem d_Application_begin_43 : decode M_Application_begin.2.1 43 = .ok (.return_, 1) := by decide +kernel
theorem d_PageList_clear_0 : decode M_PageList_clear.2.1 0 = .ok (.aload_n 0, 1) := by decide +kernel
theorem d_PageList_clear_1 : decode M_PageList_clear.2.1 1 = .ok (.iconst 0, 1) := by decide +kernel
theorem d_PageList_clear_2 : decode M_PageList_clear.2.1 2 = .ok (.putfield 13, 3) := by decide +kernel
theorem d_PageList_clear_5 : decode M_PageList_clear.2.1 5 = .ok (.aload_n 0, 1) := by decide +kernel
theorem d_PageList_clear_6 : decode M_PageList_clear.2.1 6 = .ok (.iconst 0, 1) := by decide +kernel
theorem d_PageList_clear_7 : decode M_PageList_clear.2.1 7 = .ok (.putfield 17, 3) := by decide +kernel
theorem d_PageList_clear_10 : decode M_PageList_clear.2.1 10 = .ok (.return_, 1) := by decide +kernel
theorem d_Disk_bind_0 : decode M_Disk_bind.2.1 0 = .ok (.aload_n 0, 1) := by decide +kernel
theorem d_Disk_bind_1 : decode M_Disk_bind.2.1 1 = .ok (.getfield 19, 3) := by decide +kernel
theorem d_Disk_bind_4 : decode M_Disk_bind.2.1 4 = .ok (.iload_n 1, 1) := by decide +kernel
theorem d_Disk_bind_5 : decode M_Disk_bind.2.1 5 = .ok (.iload_n 2, 1) := by decide +kernel
theorem d_Disk_bind_6 : decode M_Disk_bind.2.1 6 = .ok (.iastore, 1) := by decide +kernel
theorem d_Disk_bind_7 : decode M_Disk_bind.2.1 7 = .ok (.iconst 0, 1) := by decide +kernel
theorem d_Disk_bind_8 : decode M_Disk_bind.2.1 8 = .ok (.istore 5, 2) := by decide +kernel
theorem d_Disk_bind_10 : decode M_Disk_bind.2.1 10 = .ok (.iload 5, 2) := by decide +kernel
theorem d_Disk_bind_12 : decode M_Disk_bind.2.1 12 = .ok (.bipush 8, 2) := by decide +kernel
theorem d_Disk_bind_14 : decode M_Disk_bind.2.1 14 = .ok (.if_icmp .ge 48, 3) := by decide +kernel
theorem d_Disk_bind_17 : decode M_Disk_bind.2.1 17 = .ok (.iload 5, 2) := by decide +kernel
theorem d_Disk_bind_19 : decode M_Disk_bind.2.1 19 = .ok (.iload_n 3, 1) := by decide +kernel
theorem d_Disk_bind_20 : decode M_Disk_bind.2.1 20 = .ok (.if_icmp .lt 16, 3) := by decide +kernel
theorem d_Disk_bind_23 : decode M_Disk_bind.2.1 23 = .ok (.iload 5, 2) := by decide +kernel
theorem d_Disk_bind_25 : decode M_Disk_bind.2.1 25 = .ok (.iload_n 3, 1) := by decide +kernel
theorem d_Disk_bind_26 : decode M_Disk_bind.2.1 26 = .ok (.iload 4, 2) := by decide +kernel
theorem d_Disk_bind_28 : decode M_Disk_bind.2.1 28 = .ok (.iadd, 1) := by decide +kernel
theorem d_Disk_bind_29 : decode M_Disk_bind.2.1 29 = .ok (.if_icmp .ge 7, 3) := by decide +kernel
theorem d_Disk_bind_32 : decode M_Disk_bind.2.1 32 = .ok (.iconst 1, 1) := by decide +kernel
theorem d_Disk_bind_33 : decode M_Disk_bind.2.1 33 = .ok (.goto 4, 3) := by decide +kernel
theorem d_Disk_bind_36 : decode M_Disk_bind.2.1 36 = .ok (.iconst 0, 1) := by decide +kernel
theorem d_Disk_bind_37 : decode M_Disk_bind.2.1 37 = .ok (.istore 6, 2) := by decide +kernel
theorem d_Disk_bind_39 : decode M_Disk_bind.2.1 39 = .ok (.aload_n 0, 1) := by decide +kernel
theorem d_Disk_bind_40 : decode M_Disk_bind.2.1 40 = .ok (.iload_n 1, 1) := by decide +kernel
theorem d_Disk_bind_41 : decode M_Disk_bind.2.1 41 = .ok (.iload 5, 2) := by decide +kernel
theorem d_Disk_bind_43 : decode M_Disk_bind.2.1 43 = .ok (.iload 6, 2) := by decide +kernel
theorem d_Disk_bind_45 : decode M_Disk_bind.2.1 45 = .ok (.ifCond .eq 7, 3) := by decide +kernel
theorem d_Disk_bind_48 : decode M_Disk_bind.2.1 48 = .ok (.iconst (-1), 1) := by decide +kernel
theorem d_Disk_bind_49 : decode M_Disk_bind.2.1 49 = .ok (.goto 4, 3) := by decide +kernel
theorem d_Disk_bind_52 : decode M_Disk_bind.2.1 52 = .ok (.iconst 0, 1) := by decide +kernel
theorem d_Disk_bind_53 : decode M_Disk_bind.2.1 53 = .ok (.invokevirtual 26, 3) := by decide +kernel
theorem d_Disk_bind_56 : decode M_Disk_bind.2.1 56 = .ok (.iinc 5 1, 3) := by decide +kernel
theorem d_Disk_bind_59 : decode M_Disk_bind.2.1 59 = .ok (.goto (-49), 3) := by decide +kernel
theorem d_Disk_bind_62 : decode M_Disk_bind.2.1 62 = .ok (.return_, 1) := by decide +kernel
theorem d_Disk_setWord_0 : decode M_Disk_setWord.2.1 0 = .ok (.aload_n 0, 1) := by decide +kernel
theorem d_Disk_setWord_1 : decode M_Disk_setWord.2.1 1 = .ok (.getfield 15, 3) := by decide +kernel
theorem d_Disk_setWord_4 : decode M_Disk_setWord.2.1 4 = .ok (.iload_n 1, 1) := by decide +kernel
theorem d_Disk_setWord_5 : decode M_Disk_setWord.2.1 5 = .ok (.bipush 8, 2) := by decide +kernel
theorem d_Disk_setWord_7 : decode M_Disk_setWord.2.1 7 = .ok (.imul, 1) := by decide +kernel
theorem d_Disk_setWord_8 : decode M_Disk_setWord.2.1 8 = .ok (.iload_n 2, 1) := by decide +kernel
theorem d_Disk_setWord_9 : decode M_Disk_setWord.2.1 9 = .ok (.iadd, 1) := by decide +kernel
theorem d_Disk_setWord_10 : decode M_Disk_setWord.2.1 10 = .ok (.iload_n 3, 1) := by decide +kernel
theorem d_Disk_setWord_11 : decode M_Disk_setWord.2.1 11 = .ok (.iastore, 1) := by decide +kernel
theorem d_Disk_setWord_12 : decode M_Disk_setWord.2.1 12 = .ok (.return_, 1) := by decide +kernel
theorem d_K_close_0 : decode M_K_close.2.1 0 = .ok (.aload_n 0, 1) := by decide +kernel
theorem d_K_close_1 : decode M_K_close.2.1 1 = .ok (.iload_n 1, 1) := by decide +kernel
theorem d_K_close_2 : decode M_K_close.2.1 2 = .ok (.invokevirtual 84, 3) := by decide +kernel
theorem d_K_close_5 : decode M_K_close.2.1 5 = .ok (.ifCond .ne 5, 3) := by decide +kernel
theorem d_K_close_8 : decode M_K_close.2.1 8 = .ok (.iconst (-1), 1) := by decide +kernel
theorem d_K_close_9 : decode M_K_close.2.1 9 = .ok (.ireturn, 1) := by decide +kernel
theorem d_K_close_10 : decode M_K_close.2.1 10 = .ok (.aload_n 0, 1) := by decide +kernel
theorem d_K_close_11 : decode M_K_close.2.1 11 = .ok (.getfield 18, 3) := by decide +kernel
theorem d_K_close_14 : decode M_K_close.2.1 14 = .ok (.iload_n 1, 1) := by decide +kernel
theorem d_K_close_15 : decode M_K_close.2.1 15 = .ok (.invokevirtual 86, 3) := by decide +kernel
theorem d_K_close_18 : decode M_K_close.2.1 18 = .ok (.aload_n 0, 1) := by decide +kernel
theorem d_K_close_19 : decode M_K_close.2.1 19 = .ok (.getfield 25, 3) := by decide +kernel
theorem d_K_close_22 : decode M_K_close.2.1 22 = .ok (.iload_n 1, 1) := by decide +kernel
theorem d_K_close_23 : decode M_K_close.2.1 23 = .ok (.invokevirtual 89, 3) := by decide +kernel
theorem d_K_close_26 : decode M_K_close.2.1 26 = .ok (.aload_n 0, 1) := by decide +kernel
theorem d_K_close_27 : decode M_K_close.2.1 27 = .ok (.getfield 32, 3) := by decide +kernel
theorem d_K_close_30 : decode M_K_close.2.1 30 = .ok (.iload_n 1, 1) := by decide +kernel
theorem d_K_close_31 : decode M_K_close.2.1 31 = .ok (.invokevirtual 92, 3) := by decide +kernel
theorem d_K_close_34 : decode M_K_close.2.1 34 = .ok (.aload_n 0, 1) := by decide +kernel
theorem d_K_close_35 : decode M_K_close.2.1 35 = .ok (.getfield 49, 3) := by decide +kernel
theorem d_K_close_38 : decode M_K_close.2.1 38 = .ok (.iload_n 1, 1) := by decide +kernel
theorem d_K_close_39 : decode M_K_close.2.1 39 = .ok (.aaload, 1) := by decide +kernel
theorem d_K_close_40 : decode M_K_close.2.1 40 = .ok (.invokevirtual 95, 3) := by decide +kernel
theorem d_K_close_43 : decode M_K_close.2.1 43 = .ok (.iconst 0, 1) := by decide +kernel
theorem d_K_close_44 : decode M_K_close.2.1 44 = .ok (.ireturn, 1) := by decide +kernel
theorem d_K_isOpen_0 : decode M_K_isOpen.2.1 0 = .ok (.iload_n 1, 1) := by decide +kernel
theorem d_K_isOpen_1 : decode M_K_isOpen.2.1 1 = .ok (.invokestatic 54, 3) := by decide +kernel
theorem d_K_isOpen_4 : decode M_K_isOpen.2.1 4 = .ok (.ifCond .eq 19, 3) := by decide +kernel
theorem d_K_isOpen_7 : decode M_K_isOpen.2.1 7 = .ok (.aload_n 0, 1) := by decide +kernel
theorem d_K_isOpen_8 : decode M_K_isOpen.2.1 8 = .ok (.getfield 49, 3) := by decide +kernel
theorem d_K_isOpen_11 : decode M_K_isOpen.2.1 11 = .ok (.iload_n 1, 1) := by decide +kernel
theorem d_K_isOpen_12 : decode M_K_isOpen.2.1 12 = .ok (.aaload, 1) := by decide +kernel
theorem d_K_isOpen_13 : decode M_K_isOpen.2.1 13 = .ok (.getfield 62, 3) := by decide +kernel
theorem d_K_isOpen_16 : decode M_K_isOpen.2.1 16 = .ok (.ifCond .eq 7, 3) := by decide +kernel
theorem d_K_isOpen_19 : decode M_K_isOpen.2.1 19 = .ok (.iconst 1, 1) := by decide +kernel
theorem d_K_isOpen_20 : decode M_K_isOpen.2.1 20 = .ok (.goto 4, 3) := by decide +kernel
theorem d_K_isOpen_23 : decode M_K_isOpen.2.1 23 = .ok (.iconst 0, 1) := by decide +kernel
theorem d_K_isOpen_24 : decode M_K_isOpen.2.1 24 = .ok (.ireturn, 1) := by decide +kernel
theorem d_Memory_forget_0 : decode M_Memory_forget.2.1 0 = .ok (.iconst 0, 1) := by decide +kernel
theorem d_Memory_forget_1 : decode M_Memory_forget.2.1 1 = .ok (.istore_n 2, 1) := by decide +kernel
theorem d_Memory_forget_2 : decode M_Memory_forget.2.1 2 = .ok (.iload_n 2, 1) := by decide +kernel
theorem d_Memory_forget_3 : decode M_Memory_forget.2.1 3 = .ok (.aload_n 0, 1) := by decide +kernel
theorem d_Memory_forget_4 : decode M_Memory_forget.2.1 4 = .ok (.getfield 9, 3) := by decide +kernel
theorem d_Memory_forget_7 : decode M_Memory_forget.2.1 7 = .ok (.if_icmp .ge 31, 3) := by decide +kernel
theorem d_Memory_forget_10 : decode M_Memory_forget.2.1 10 = .ok (.aload_n 0, 1) := by decide +kernel
theorem d_Memory_forget_11 : decode M_Memory_forget.2.1 11 = .ok (.iload_n 2, 1) := by decide +kernel
theorem d_Memory_forget_12 : decode M_Memory_forget.2.1 12 = .ok (.iload_n 1, 1) := by decide +kernel
theorem d_Memory_forget_13 : decode M_Memory_forget.2.1 13 = .ok (.iconst 0, 1) := by decide +kernel
theorem d_Memory_forget_14 : decode M_Memory_forget.2.1 14 = .ok (.invokevirtual 45, 3) := by decide +kernel
theorem d_Memory_forget_17 : decode M_Memory_forget.2.1 17 = .ok (.aload_n 0, 1) := by decide +kernel
theorem d_Memory_forget_18 : decode M_Memory_forget.2.1 18 = .ok (.getfield 19, 3) := by decide +kernel
theorem d_Memory_forget_21 : decode M_Memory_forget.2.1 21 = .ok (.iload_n 2, 1) := by decide +kernel
theorem d_Memory_forget_22 : decode M_Memory_forget.2.1 22 = .ok (.iaload, 1) := by decide +kernel
theorem d_Memory_forget_23 : decode M_Memory_forget.2.1 23 = .ok (.iload_n 1, 1) := by decide +kernel
theorem d_Memory_forget_24 : decode M_Memory_forget.2.1 24 = .ok (.if_icmp .ne 8, 3) := by decide +kernel
theorem d_Memory_forget_27 : decode M_Memory_forget.2.1 27 = .ok (.aload_n 0, 1) := by decide +kernel
theorem d_Memory_forget_28 : decode M_Memory_forget.2.1 28 = .ok (.iload_n 2, 1) := by decide +kernel
theorem d_Memory_forget_29 : decode M_Memory_forget.2.1 29 = .ok (.invokevirtual 48, 3) := by decide +kernel
theorem d_Memory_forget_32 : decode M_Memory_forget.2.1 32 = .ok (.iinc 2 1, 3) := by decide +kernel
theorem d_Memory_forget_35 : decode M_Memory_forget.2.1 35 = .ok (.goto (-33), 3) := by decide +kernel
theorem d_Memory_forget_38 : decode M_Memory_forget.2.1 38 = .ok (.return_, 1) := by decide +kernel
theorem d_Memory_setRight_0 : decode M_Memory_setRight.2.1 0 = .ok (.aload_n 0, 1) := by decide +kernel
theorem d_Memory_setRight_1 : decode M_Memory_setRight.2.1 1 = .ok (.getfield 22, 3) := by decide +kernel
theorem d_Memory_setRight_4 : decode M_Memory_setRight.2.1 4 = .ok (.iload_n 1, 1) := by decide +kernel
theorem d_Memory_setRight_5 : decode M_Memory_setRight.2.1 5 = .ok (.bipush 6, 2) := by decide +kernel
theorem d_Memory_setRight_7 : decode M_Memory_setRight.2.1 7 = .ok (.imul, 1) := by decide +kernel
theorem d_Memory_setRight_8 : decode M_Memory_setRight.2.1 8 = .ok (.iload_n 2, 1) := by decide +kernel
theorem d_Memory_setRight_9 : decode M_Memory_setRight.2.1 9 = .ok (.iadd, 1) := by decide +kernel
theorem d_Memory_setRight_10 : decode M_Memory_setRight.2.1 10 = .ok (.iload_n 3, 1) := by decide +kernel
theorem d_Memory_setRight_11 : decode M_Memory_setRight.2.1 11 = .ok (.iastore, 1) := by decide +kernel
theorem d_Memory_setRight_12 : decode M_Memory_setRight.2.1 12 = .ok (.return_, 1) := by decide +kernel
theorem d_Memory_free_0 : decode M_Memory_free.2.1 0 = .ok (.aload_n 0, 1) := by decide +kernel
theorem d_Memory_free_1 : decode M_Memory_free.2.1 1 = .ok (.getfield 19, 3) := by decide +kernel
theorem d_Memory_free_4 : decode M_Memory_free.2.1 4 = .ok (.iload_n 1, 1) := by decide +kernel
theorem d_Memory_free_5 : decode M_Memory_free.2.1 5 = .ok (.iconst (-1), 1) := by decide +kernel
theorem d_Memory_free_6 : decode M_Memory_free.2.1 6 = .ok (.iastore, 1) := by decide +kernel
theorem d_Memory_free_7 : decode M_Memory_free.2.1 7 = .ok (.aload_n 0, 1) := by decide +kernel
theorem d_Memory_free_8 : decode M_Memory_free.2.1 8 = .ok (.getfield 28, 3) := by decide +kernel
theorem d_Memory_free_11 : decode M_Memory_free.2.1 11 = .ok (.iload_n 1, 1) := by decide +kernel
theorem d_Memory_free_12 : decode M_Memory_free.2.1 12 = .ok (.iconst 0, 1) := by decide +kernel
theorem d_Memory_free_13 : decode M_Memory_free.2.1 13 = .ok (.bastore, 1) := by decide +kernel
theorem d_Memory_free_14 : decode M_Memory_free.2.1 14 = .ok (.iconst 0, 1) := by decide +kernel
theorem d_Memory_free_15 : decode M_Memory_free.2.1 15 = .ok (.istore_n 2, 1) := by decide +kernel
theorem d_Memory_free_16 : decode M_Memory_free.2.1 16 = .ok (.iload_n 2, 1) := by decide +kernel
theorem d_Memory_free_17 : decode M_Memory_free.2.1 17 = .ok (.bipush 6, 2) := by decide +kernel
theorem d_Memory_free_19 : decode M_Memory_free.2.1 19 = .ok (.if_icmp .ge 16, 3) := by decide +kernel
theorem d_Memory_free_22 : decode M_Memory_free.2.1 22 = .ok (.aload_n 0, 1) := by decide +kernel
theorem d_Memory_free_23 : decode M_Memory_free.2.1 23 = .ok (.iload_n 1, 1) := by decide +kernel
theorem d_Memory_free_24 : decode M_Memory_free.2.1 24 = .ok (.iload_n 2, 1) := by decide +kernel
theorem d_Memory_free_25 : decode M_Memory_free.2.1 25 = .ok (.iconst 0, 1) := by decide +kernel
theorem d_Memory_free_26 : decode M_Memory_free.2.1 26 = .ok (.invokevirtual 45, 3) := by decide +kernel
theorem d_Memory_free_29 : decode M_Memory_free.2.1 29 = .ok (.iinc 2 1, 3) := by decide +kernel
theorem d_Memory_free_32 : decode M_Memory_free.2.1 32 = .ok (.goto (-16), 3) := by decide +kernel
theorem d_Memory_free_35 : decode M_Memory_free.2.1 35 = .ok (.return_, 1) := by decide +kernel
theorem d_Disk_freeAllOf_0 : decode M_Disk_freeAllOf.2.1 0 = .ok (.iconst 0, 1) := by decide +kernel
theorem d_Disk_freeAllOf_1 : decode M_Disk_freeAllOf.2.1 1 = .ok (.istore_n 2, 1) := by decide +kernel
theorem d_Disk_freeAllOf_2 : decode M_Disk_freeAllOf.2.1 2 = .ok (.iload_n 2, 1) := by decide +kernel
theorem d_Disk_freeAllOf_3 : decode M_Disk_freeAllOf.2.1 3 = .ok (.aload_n 0, 1) := by decide +kernel
theorem d_Disk_freeAllOf_4 : decode M_Disk_freeAllOf.2.1 4 = .ok (.getfield 9, 3) := by decide +kernel
theorem d_Disk_freeAllOf_7 : decode M_Disk_freeAllOf.2.1 7 = .ok (.if_icmp .ge 24, 3) := by decide +kernel
theorem d_Disk_freeAllOf_10 : decode M_Disk_freeAllOf.2.1 10 = .ok (.aload_n 0, 1) := by decide +kernel
theorem d_Disk_freeAllOf_11 : decode M_Disk_freeAllOf.2.1 11 = .ok (.getfield 19, 3) := by decide +kernel
theorem d_Disk_freeAllOf_14 : decode M_Disk_freeAllOf.2.1 14 = .ok (.iload_n 2, 1) := by decide +kernel
theorem d_Disk_freeAllOf_15 : decode M_Disk_freeAllOf.2.1 15 = .ok (.iaload, 1) := by decide +kernel
theorem d_Disk_freeAllOf_16 : decode M_Disk_freeAllOf.2.1 16 = .ok (.iload_n 1, 1) := by decide +kernel
theorem d_Disk_freeAllOf_17 : decode M_Disk_freeAllOf.2.1 17 = .ok (.if_icmp .ne 8, 3) := by decide +kernel
theorem d_Disk_freeAllOf_20 : decode M_Disk_freeAllOf.2.1 20 = .ok (.aload_n 0, 1) := by decide +kernel
theorem d_Disk_freeAllOf_21 : decode M_Disk_freeAllOf.2.1 21 = .ok (.iload_n 2, 1) := by decide +kernel
theorem d_Disk_freeAllOf_22 : decode M_Disk_freeAllOf.2.1 22 = .ok (.invokevirtual 30, 3) := by decide +kernel
theorem d_Disk_freeAllOf_25 : decode M_Disk_freeAllOf.2.1 25 = .ok (.iinc 2 1, 3) := by decide +kernel
theorem d_Disk_freeAllOf_28 : decode M_Disk_freeAllOf.2.1 28 = .ok (.goto (-26), 3) := by decide +kernel
theorem d_Disk_freeAllOf_31 : decode M_Disk_freeAllOf.2.1 31 = .ok (.return_, 1) := by decide +kernel
theorem d_Disk_free_0 : decode M_Disk_free.2.1 0 = .ok (.aload_n 0, 1) := by decide +kernel
theorem d_Disk_free_1 : decode M_Disk_free.2.1 1 = .ok (.getfield 19, 3) := by decide +kernel
theorem d_Disk_free_4 : decode M_Disk_free.2.1 4 = .ok (.iload_n 1, 1) := by decide +kernel
theorem d_Disk_free_5 : decode M_Disk_free.2.1 5 = .ok (.iconst (-1), 1) := by decide +kernel
theorem d_Disk_free_6 : decode M_Disk_free.2.1 6 = .ok (.iastore, 1) := by decide +kernel
theorem d_Disk_free_7 : decode M_Disk_free.2.1 7 = .ok (.return_, 1) := by decide +kernel
theorem d_FilterOrder_drop_0 : decode M_FilterOrder_drop.2.1 0 = .ok (.aload_n 0, 1) := by decide +kernel
theorem d_FilterOrder_drop_1 : decode M_FilterOrder_drop.2.1 1 = .ok (.iload_n 1, 1) := by decide +kernel
theorem d_FilterOrder_drop_2 : decode M_FilterOrder_drop.2.1 2 = .ok (.invokevirtual 19, 3) := by decide +kernel
theorem d_FilterOrder_drop_5 : decode M_FilterOrder_drop.2.1 5 = .ok (.istore_n 2, 1) := by decide +kernel
theorem d_FilterOrder_drop_6 : decode M_FilterOrder_drop.2.1 6 = .ok (.iload_n 2, 1) := by decide +kernel
theorem d_FilterOrder_drop_7 : decode M_FilterOrder_drop.2.1 7 = .ok (.iconst (-1), 1) := by decide +kernel
theorem d_FilterOrder_drop_8 : decode M_FilterOrder_drop.2.1 8 = .ok (.if_icmp .ne 4, 3) := by decide +kernel
theorem d_FilterOrder_drop_11 : decode M_FilterOrder_drop.2.1 11 = .ok (.return_, 1) := by decide +kernel
theorem d_FilterOrder_drop_12 : decode M_FilterOrder_drop.2.1 12 = .ok (.aload_n 0, 1) := by decide +kernel
theorem d_FilterOrder_drop_13 : decode M_FilterOrder_drop.2.1 13 = .ok (.dup, 1) := by decide +kernel
theorem d_FilterOrder_drop_14 : decode M_FilterOrder_drop.2.1 14 = .ok (.getfield 15, 3) := by decide +kernel
theorem d_FilterOrder_drop_17 : decode M_FilterOrder_drop.2.1 17 = .ok (.iconst 1, 1) := by decide +kernel
theorem d_FilterOrder_drop_18 : decode M_FilterOrder_drop.2.1 18 = .ok (.isub, 1) := by decide +kernel
theorem d_FilterOrder_drop_19 : decode M_FilterOrder_drop.2.1 19 = .ok (.putfield 15, 3) := by decide +kernel
theorem d_FilterOrder_drop_22 : decode M_FilterOrder_drop.2.1 22 = .ok (.iload_n 2, 1) := by decide +kernel
theorem d_FilterOrder_drop_23 : decode M_FilterOrder_drop.2.1 23 = .ok (.istore_n 3, 1) := by decide +kernel
theorem d_FilterOrder_drop_24 : decode M_FilterOrder_drop.2.1 24 = .ok (.iload_n 3, 1) := by decide +kernel
theorem d_FilterOrder_drop_25 : decode M_FilterOrder_drop.2.1 25 = .ok (.aload_n 0, 1) := by decide +kernel
theorem d_FilterOrder_drop_26 : decode M_FilterOrder_drop.2.1 26 = .ok (.getfield 15, 3) := by decide +kernel
theorem d_FilterOrder_drop_29 : decode M_FilterOrder_drop.2.1 29 = .ok (.if_icmp .ge 23, 3) := by decide +kernel
theorem d_FilterOrder_drop_32 : decode M_FilterOrder_drop.2.1 32 = .ok (.aload_n 0, 1) := by decide +kernel
theorem d_FilterOrder_drop_33 : decode M_FilterOrder_drop.2.1 33 = .ok (.getfield 9, 3) := by decide +kernel
theorem d_FilterOrder_drop_36 : decode M_FilterOrder_drop.2.1 36 = .ok (.iload_n 3, 1) := by decide +kernel
theorem d_FilterOrder_drop_37 : decode M_FilterOrder_drop.2.1 37 = .ok (.aload_n 0, 1) := by decide +kernel
theorem d_FilterOrder_drop_38 : decode M_FilterOrder_drop.2.1 38 = .ok (.getfield 9, 3) := by decide +kernel
theorem d_FilterOrder_drop_41 : decode M_FilterOrder_drop.2.1 41 = .ok (.iload_n 3, 1) := by decide +kernel
theorem d_FilterOrder_drop_42 : decode M_FilterOrder_drop.2.1 42 = .ok (.iconst 1, 1) := by decide +kernel
theorem d_FilterOrder_drop_43 : decode M_FilterOrder_drop.2.1 43 = .ok (.iadd, 1) := by decide +kernel
theorem d_FilterOrder_drop_44 : decode M_FilterOrder_drop.2.1 44 = .ok (.iaload, 1) := by decide +kernel
theorem d_FilterOrder_drop_45 : decode M_FilterOrder_drop.2.1 45 = .ok (.iastore, 1) := by decide +kernel
theorem d_FilterOrder_drop_46 : decode M_FilterOrder_drop.2.1 46 = .ok (.iinc 3 1, 3) := by decide +kernel
theorem d_FilterOrder_drop_49 : decode M_FilterOrder_drop.2.1 49 = .ok (.goto (-25), 3) := by decide +kernel
theorem d_FilterOrder_drop_52 : decode M_FilterOrder_drop.2.1 52 = .ok (.return_, 1) := by decide +kernel
theorem d_FilterOrder_placeOf_0 : decode M_FilterOrder_placeOf.2.1 0 = .ok (.iconst 0, 1) := by decide +kernel
theorem d_FilterOrder_placeOf_1 : decode M_FilterOrder_placeOf.2.1 1 = .ok (.istore_n 2, 1) := by decide +kernel
theorem d_FilterOrder_placeOf_2 : decode M_FilterOrder_placeOf.2.1 2 = .ok (.iload_n 2, 1) := by decide +kernel
theorem d_FilterOrder_placeOf_3 : decode M_FilterOrder_placeOf.2.1 3 = .ok (.aload_n 0, 1) := by decide +kernel
theorem d_FilterOrder_placeOf_4 : decode M_FilterOrder_placeOf.2.1 4 = .ok (.getfield 15, 3) := by decide +kernel
theorem d_FilterOrder_placeOf_7 : decode M_FilterOrder_placeOf.2.1 7 = .ok (.if_icmp .ge 21, 3) := by decide +kernel
theorem d_FilterOrder_placeOf_10 : decode M_FilterOrder_placeOf.2.1 10 = .ok (.aload_n 0, 1) := by decide +kernel
theorem d_FilterOrder_placeOf_11 : decode M_FilterOrder_placeOf.2.1 11 = .ok (.getfield 9, 3) := by decide +kernel
theorem d_FilterOrder_placeOf_14 : decode M_FilterOrder_placeOf.2.1 14 = .ok (.iload_n 2, 1) := by decide +kernel
theorem d_FilterOrder_placeOf_15 : decode M_FilterOrder_placeOf.2.1 15 = .ok (.iaload, 1) := by decide +kernel
theorem d_FilterOrder_placeOf_16 : decode M_FilterOrder_placeOf.2.1 16 = .ok (.iload_n 1, 1) := by decide +kernel
theorem d_FilterOrder_placeOf_17 : decode M_FilterOrder_placeOf.2.1 17 = .ok (.if_icmp .ne 5, 3) := by decide +kernel
theorem d_FilterOrder_placeOf_20 : decode M_FilterOrder_placeOf.2.1 20 = .ok (.iload_n 2, 1) := by decide +kernel
theorem d_FilterOrder_placeOf_21 : decode M_FilterOrder_placeOf.2.1 21 = .ok (.ireturn, 1) := by decide +kernel
theorem d_FilterOrder_placeOf_22 : decode M_FilterOrder_placeOf.2.1 22 = .ok (.iinc 2 1, 3) := by decide +kernel
theorem d_FilterOrder_placeOf_25 : decode M_FilterOrder_placeOf.2.1 25 = .ok (.goto (-23), 3) := by decide +kernel
theorem d_FilterOrder_placeOf_28 : decode M_FilterOrder_placeOf.2.1 28 = .ok (.iconst (-1), 1) := by decide +kernel
theorem d_FilterOrder_placeOf_29 : decode M_FilterOrder_placeOf.2.1 29 = .ok (.ireturn, 1) := by decide +kernel
theorem d_Application_end_0 : decode M_Application_end.2.1 0 = .ok (.aload_n 0, 1) := by decide +kernel
theorem d_Application_end_1 : decode M_Application_end.2.1 1 = .ok (.iconst 0, 1) := by decide +kernel
theorem d_Application_end_2 : decode M_Application_end.2.1 2 = .ok (.putfield 40, 3) := by decide +kernel
theorem d_Application_end_5 : decode M_Application_end.2.1 5 = .ok (.aload_n 0, 1) := by decide +kernel
theorem d_Application_end_6 : decode M_Application_end.2.1 6 = .ok (.getfield 33, 3) := by decide +kernel
theorem d_Application_end_9 : decode M_Application_end.2.1 9 = .ok (.invokevirtual 57, 3) := by decide +kernel
theorem d_Application_end_12 : decode M_Application_end.2.1 12 = .ok (.aload_n 0, 1) := by decide +kernel
theorem d_Application_end_13 : decode M_Application_end.2.1 13 = .ok (.getfield 37, 3) := by decide +kernel
theorem d_Application_end_16 : decode M_Application_end.2.1 16 = .ok (.invokevirtual 57, 3) := by decide +kernel
theorem d_Application_end_19 : decode M_Application_end.2.1 19 = .ok (.aload_n 0, 1) := by decide +kernel
theorem d_Application_end_20 : decode M_Application_end.2.1 20 = .ok (.getfield 19, 3) := by decide +kernel
theorem d_Application_end_23 : decode M_Application_end.2.1 23 = .ok (.invokevirtual 58, 3) := by decide +kernel
theorem d_Application_end_26 : decode M_Application_end.2.1 26 = .ok (.aload_n 0, 1) := by decide +kernel
theorem d_Application_end_27 : decode M_Application_end.2.1 27 = .ok (.getfield 26, 3) := by decide +kernel
theorem d_Application_end_30 : decode M_Application_end.2.1 30 = .ok (.invokevirtual 59, 3) := by decide +kernel
theorem d_Application_end_33 : decode M_Application_end.2.1 33 = .ok (.return_, 1) := by decide +kernel
theorem d_Program_clear_0 : decode M_Program_clear.2.1 0 = .ok (.aload_n 0, 1) := by decide +kernel
theorem d_Program_clear_1 : decode M_Program_clear.2.1 1 = .ok (.iconst 0, 1) := by decide +kernel
theorem d_Program_clear_2 : decode M_Program_clear.2.1 2 = .ok (.putfield 22, 3) := by decide +kernel
theorem d_Program_clear_5 : decode M_Program_clear.2.1 5 = .ok (.return_, 1) := by decide +kernel
theorem d_FrameQueue_clear_0 : decode M_FrameQueue_clear.2.1 0 = .ok (.aload_n 0, 1) := by decide +kernel
theorem d_FrameQueue_clear_1 : decode M_FrameQueue_clear.2.1 1 = .ok (.iconst 0, 1) := by decide +kernel
theorem d_FrameQueue_clear_2 : decode M_FrameQueue_clear.2.1 2 = .ok (.putfield 19, 3) := by decide +kernel
theorem d_FrameQueue_clear_5 : decode M_FrameQueue_clear.2.1 5 = .ok (.return_, 1) := by decide +kernel
theorem d_EntryTable_clear_0 : decode M_EntryTable_clear.2.1 0 = .ok (.aload_n 0, 1) := by decide +kernel
theorem d_EntryTable_clear_1 : decode M_EntryTable_clear.2.1 1 = .ok (.iconst 0, 1) := by decide +kernel
theorem d_EntryTable_clear_2 : decode M_EntryTable_clear.2.1 2 = .ok (.putfield 15, 3) := by decide +kernel
theorem d_EntryTable_clear_5 : decode M_EntryTable_clear.2.1 5 = .ok (.return_, 1) := by decide +kernel
theorem d_K_take_0 : decode M_K_take.2.1 0 = .ok (.aload_n 0, 1) := by decide +kernel
theorem d_K_take_1 : decode M_K_take.2.1 1 = .ok (.iload_n 1, 1) := by decide +kernel
theorem d_K_take_2 : decode M_K_take.2.1 2 = .ok (.invokevirtual 84, 3) := by decide +kernel
theorem d_K_take_5 : decode M_K_take.2.1 5 = .ok (.ifCond .ne 5, 3) := by decide +kernel
theorem d_K_take_8 : decode M_K_take.2.1 8 = .ok (.iconst (-1), 1) := by decide +kernel
theorem d_K_take_9 : decode M_K_take.2.1 9 = .ok (.ireturn, 1) := by decide +kernel
theorem d_K_take_10 : decode M_K_take.2.1 10 = .ok (.aload_n 0, 1) := by decide +kernel
theorem d_K_take_11 : decode M_K_take.2.1 11 = .ok (.getfield 18, 3) := by decide +kernel
theorem d_K_take_14 : decode M_K_take.2.1 14 = .ok (.invokevirtual 98, 3) := by decide +kernel
theorem d_K_take_17 : decode M_K_take.2.1 17 = .ok (.istore_n 2, 1) := by decide +kernel
theorem d_K_take_18 : decode M_K_take.2.1 18 = .ok (.iload_n 2, 1) := by decide +kernel
theorem d_K_take_19 : decode M_K_take.2.1 19 = .ok (.iconst (-1), 1) := by decide +kernel
theorem d_K_take_20 : decode M_K_take.2.1 20 = .ok (.if_icmp .ne 6, 3) := by decide +kernel
theorem d_K_take_23 : decode M_K_take.2.1 23 = .ok (.bipush (-2), 2) := by decide +kernel
theorem d_K_take_25 : decode M_K_take.2.1 25 = .ok (.ireturn, 1) := by decide +kernel
theorem d_K_take_26 : decode M_K_take.2.1 26 = .ok (.aload_n 0, 1) := by decide +kernel
theorem d_K_take_27 : decode M_K_take.2.1 27 = .ok (.getfield 18, 3) := by decide +kernel
theorem d_K_take_30 : decode M_K_take.2.1 30 = .ok (.iload_n 2, 1) := by decide +kernel
theorem d_K_take_31 : decode M_K_take.2.1 31 = .ok (.iload_n 1, 1) := by decide +kernel
theorem d_K_take_32 : decode M_K_take.2.1 32 = .ok (.invokevirtual 99, 3) := by decide +kernel
theorem d_K_take_35 : decode M_K_take.2.1 35 = .ok (.iload_n 2, 1) := by decide +kernel
theorem d_K_take_36 : decode M_K_take.2.1 36 = .ok (.ireturn, 1) := by decide +kernel
theorem d_Memory_leastFree_0 : decode M_Memory_leastFree.2.1 0 = .ok (.iconst 0, 1) := by decide +kernel
theorem d_Memory_leastFree_1 : decode M_Memory_leastFree.2.1 1 = .ok (.istore_n 1, 1) := by decide +kernel
theorem d_Memory_leastFree_2 : decode M_Memory_leastFree.2.1 2 = .ok (.iload_n 1, 1) := by decide +kernel
theorem d_Memory_leastFree_3 : decode M_Memory_leastFree.2.1 3 = .ok (.aload_n 0, 1) := by decide +kernel
theorem d_Memory_leastFree_4 : decode M_Memory_leastFree.2.1 4 = .ok (.getfield 9, 3) := by decide +kernel
theorem d_Memory_leastFree_7 : decode M_Memory_leastFree.2.1 7 = .ok (.if_icmp .ge 21, 3) := by decide +kernel
theorem d_Memory_leastFree_10 : decode M_Memory_leastFree.2.1 10 = .ok (.aload_n 0, 1) := by decide +kernel
theorem d_Memory_leastFree_11 : decode M_Memory_leastFree.2.1 11 = .ok (.getfield 19, 3) := by decide +kernel
theorem d_Memory_leastFree_14 : decode M_Memory_leastFree.2.1 14 = .ok (.iload_n 1, 1) := by decide +kernel
theorem d_Memory_leastFree_15 : decode M_Memory_leastFree.2.1 15 = .ok (.iaload, 1) := by decide +kernel
theorem d_Memory_leastFree_16 : decode M_Memory_leastFree.2.1 16 = .ok (.iconst (-1), 1) := by decide +kernel
theorem d_Memory_leastFree_17 : decode M_Memory_leastFree.2.1 17 = .ok (.if_icmp .ne 5, 3) := by decide +kernel
theorem d_Memory_leastFree_20 : decode M_Memory_leastFree.2.1 20 = .ok (.iload_n 1, 1) := by decide +kernel
theorem d_Memory_leastFree_21 : decode M_Memory_leastFree.2.1 21 = .ok (.ireturn, 1) := by decide +kernel
theorem d_Memory_leastFree_22 : decode M_Memory_leastFree.2.1 22 = .ok (.iinc 1 1, 3) := by decide +kernel
theorem d_Memory_leastFree_25 : decode M_Memory_leastFree.2.1 25 = .ok (.goto (-23), 3) := by decide +kernel
theorem d_Memory_leastFree_28 : decode M_Memory_leastFree.2.1 28 = .ok (.iconst (-1), 1) := by decide +kernel
theorem d_Memory_leastFree_29 : decode M_Memory_leastFree.2.1 29 = .ok (.ireturn, 1) := by decide +kernel
theorem d_Memory_bind_0 : decode M_Memory_bind.2.1 0 = .ok (.aload_n 0, 1) := by decide +kernel
theorem d_Memory_bind_1 : decode M_Memory_bind.2.1 1 = .ok (.getfield 19, 3) := by decide +kernel
theorem d_Memory_bind_4 : decode M_Memory_bind.2.1 4 = .ok (.iload_n 1, 1) := by decide +kernel
theorem d_Memory_bind_5 : decode M_Memory_bind.2.1 5 = .ok (.iload_n 2, 1) := by decide +kernel
theorem d_Memory_bind_6 : decode M_Memory_bind.2.1 6 = .ok (.iastore, 1) := by decide +kernel
theorem d_Memory_bind_7 : decode M_Memory_bind.2.1 7 = .ok (.aload_n 0, 1) := by decide +kernel
theorem d_Memory_bind_8 : decode M_Memory_bind.2.1 8 = .ok (.getfield 25, 3) := by decide +kernel
theorem d_Memory_bind_11 : decode M_Memory_bind.2.1 11 = .ok (.iload_n 1, 1) := by decide +kernel
theorem d_Memory_bind_12 : decode M_Memory_bind.2.1 12 = .ok (.aload_n 0, 1) := by decide +kernel
theorem d_Memory_bind_13 : decode M_Memory_bind.2.1 13 = .ok (.getfield 35, 3) := by decide +kernel
theorem d_Memory_bind_16 : decode M_Memory_bind.2.1 16 = .ok (.iastore, 1) := by decide +kernel
theorem d_Memory_bind_17 : decode M_Memory_bind.2.1 17 = .ok (.aload_n 0, 1) := by decide +kernel
theorem d_Memory_bind_18 : decode M_Memory_bind.2.1 18 = .ok (.dup, 1) := by decide +kernel
theorem d_Memory_bind_19 : decode M_Memory_bind.2.1 19 = .ok (.getfield 35, 3) := by decide +kernel
theorem d_Memory_bind_22 : decode M_Memory_bind.2.1 22 = .ok (.iconst 1, 1) := by decide +kernel
theorem d_Memory_bind_23 : decode M_Memory_bind.2.1 23 = .ok (.iadd, 1) := by decide +kernel
theorem d_Memory_bind_24 : decode M_Memory_bind.2.1 24 = .ok (.putfield 35, 3) := by decide +kernel
theorem d_Memory_bind_27 : decode M_Memory_bind.2.1 27 = .ok (.iconst 0, 1) := by decide +kernel
theorem d_Memory_bind_28 : decode M_Memory_bind.2.1 28 = .ok (.istore_n 3, 1) := by decide +kernel
theorem d_Memory_bind_29 : decode M_Memory_bind.2.1 29 = .ok (.iload_n 3, 1) := by decide +kernel
theorem d_Memory_bind_30 : decode M_Memory_bind.2.1 30 = .ok (.iconst 4, 1) := by decide +kernel
theorem d_Memory_bind_31 : decode M_Memory_bind.2.1 31 = .ok (.if_icmp .ge 16, 3) := by decide +kernel
theorem d_Memory_bind_34 : decode M_Memory_bind.2.1 34 = .ok (.aload_n 0, 1) := by decide +kernel
theorem d_Memory_bind_35 : decode M_Memory_bind.2.1 35 = .ok (.iload_n 1, 1) := by decide +kernel
theorem d_Memory_bind_36 : decode M_Memory_bind.2.1 36 = .ok (.iload_n 3, 1) := by decide +kernel
theorem d_Memory_bind_37 : decode M_Memory_bind.2.1 37 = .ok (.iconst 0, 1) := by decide +kernel
theorem d_Memory_bind_38 : decode M_Memory_bind.2.1 38 = .ok (.invokevirtual 41, 3) := by decide +kernel
theorem d_Memory_bind_41 : decode M_Memory_bind.2.1 41 = .ok (.iinc 3 1, 3) := by decide +kernel
theorem d_Memory_bind_44 : decode M_Memory_bind.2.1 44 = .ok (.goto (-15), 3) := by decide +kernel
theorem d_Memory_bind_47 : decode M_Memory_bind.2.1 47 = .ok (.return_, 1) := by decide +kernel
theorem d_Memory_setWord_0 : decode M_Memory_setWord.2.1 0 = .ok (.aload_n 0, 1) := by decide +kernel
theorem d_Memory_setWord_1 : decode M_Memory_setWord.2.1 1 = .ok (.getfield 15, 3) := by decide +kernel
theorem d_Memory_setWord_4 : decode M_Memory_setWord.2.1 4 = .ok (.iload_n 1, 1) := by decide +kernel
theorem d_Memory_setWord_5 : decode M_Memory_setWord.2.1 5 = .ok (.iconst 4, 1) := by decide +kernel
theorem d_Memory_setWord_6 : decode M_Memory_setWord.2.1 6 = .ok (.imul, 1) := by decide +kernel
theorem d_Memory_setWord_7 : decode M_Memory_setWord.2.1 7 = .ok (.iload_n 2, 1) := by decide +kernel
theorem d_Memory_setWord_8 : decode M_Memory_setWord.2.1 8 = .ok (.iadd, 1) := by decide +kernel
theorem d_Memory_setWord_9 : decode M_Memory_setWord.2.1 9 = .ok (.iload_n 3, 1) := by decide +kernel
theorem d_Memory_setWord_10 : decode M_Memory_setWord.2.1 10 = .ok (.iastore, 1) := by decide +kernel
theorem d_Memory_setWord_11 : decode M_Memory_setWord.2.1 11 = .ok (.return_, 1) := by decide +kernel
theorem d_K_release_0 : decode M_K_release.2.1 0 = .ok (.aload_n 0, 1) := by decide +kernel
theorem d_K_release_1 : decode M_K_release.2.1 1 = .ok (.iload_n 1, 1) := by decide +kernel
theorem d_K_release_2 : decode M_K_release.2.1 2 = .ok (.iload_n 2, 1) := by decide +kernel
theorem d_K_release_3 : decode M_K_release.2.1 3 = .ok (.invokevirtual 102, 3) := by decide +kernel
theorem d_K_release_6 : decode M_K_release.2.1 6 = .ok (.ifCond .ne 5, 3) := by decide +kernel
theorem d_K_release_9 : decode M_K_release.2.1 9 = .ok (.iconst (-1), 1) := by decide +kernel
theorem d_K_release_10 : decode M_K_release.2.1 10 = .ok (.ireturn, 1) := by decide +kernel
theorem d_K_release_11 : decode M_K_release.2.1 11 = .ok (.aload_n 0, 1) := by decide +kernel
theorem d_K_release_12 : decode M_K_release.2.1 12 = .ok (.getfield 18, 3) := by decide +kernel
theorem d_K_release_15 : decode M_K_release.2.1 15 = .ok (.iload_n 2, 1) := by decide +kernel
theorem d_K_release_16 : decode M_K_release.2.1 16 = .ok (.invokevirtual 105, 3) := by decide +kernel
theorem d_K_release_19 : decode M_K_release.2.1 19 = .ok (.iconst 0, 1) := by decide +kernel
theorem d_K_release_20 : decode M_K_release.2.1 20 = .ok (.ireturn, 1) := by decide +kernel
theorem d_K_owns_0 : decode M_K_owns.2.1 0 = .ok (.aload_n 0, 1) := by decide +kernel
theorem d_K_owns_1 : decode M_K_owns.2.1 1 = .ok (.iload_n 1, 1) := by decide +kernel
theorem d_K_owns_2 : decode M_K_owns.2.1 2 = .ok (.invokevirtual 84, 3) := by decide +kernel
theorem d_K_owns_5 : decode M_K_owns.2.1 5 = .ok (.ifCond .eq 30, 3) := by decide +kernel
theorem d_K_owns_8 : decode M_K_owns.2.1 8 = .ok (.aload_n 0, 1) := by decide +kernel
theorem d_K_owns_9 : decode M_K_owns.2.1 9 = .ok (.getfield 18, 3) := by decide +kernel
theorem d_K_owns_12 : decode M_K_owns.2.1 12 = .ok (.iload_n 2, 1) := by decide +kernel
theorem d_K_owns_13 : decode M_K_owns.2.1 13 = .ok (.invokevirtual 263, 3) := by decide +kernel
theorem d_K_owns_16 : decode M_K_owns.2.1 16 = .ok (.ifCond .eq 19, 3) := by decide +kernel
theorem d_K_owns_19 : decode M_K_owns.2.1 19 = .ok (.aload_n 0, 1) := by decide +kernel
theorem d_K_owns_20 : decode M_K_owns.2.1 20 = .ok (.getfield 18, 3) := by decide +kernel
theorem d_K_owns_23 : decode M_K_owns.2.1 23 = .ok (.iload_n 2, 1) := by decide +kernel
theorem d_K_owns_24 : decode M_K_owns.2.1 24 = .ok (.invokevirtual 144, 3) := by decide +kernel
theorem d_K_owns_27 : decode M_K_owns.2.1 27 = .ok (.iload_n 1, 1) := by decide +kernel
theorem d_K_owns_28 : decode M_K_owns.2.1 28 = .ok (.if_icmp .ne 7, 3) := by decide +kernel
theorem d_K_owns_31 : decode M_K_owns.2.1 31 = .ok (.iconst 1, 1) := by decide +kernel
theorem d_K_owns_32 : decode M_K_owns.2.1 32 = .ok (.goto 4, 3) := by decide +kernel
theorem d_K_owns_35 : decode M_K_owns.2.1 35 = .ok (.iconst 0, 1) := by decide +kernel
theorem d_K_owns_36 : decode M_K_owns.2.1 36 = .ok (.ireturn, 1) := by decide +kernel
theorem d_Memory_hasPage_0 : decode M_Memory_hasPage.2.1 0 = .ok (.iload_n 1, 1) := by decide +kernel
theorem d_Memory_hasPage_1 : decode M_Memory_hasPage.2.1 1 = .ok (.ifCond .lt 15, 3) := by decide +kernel
theorem d_Memory_hasPage_4 : decode M_Memory_hasPage.2.1 4 = .ok (.iload_n 1, 1) := by decide +kernel
theorem d_Memory_hasPage_5 : decode M_Memory_hasPage.2.1 5 = .ok (.aload_n 0, 1) := by decide +kernel
theorem d_Memory_hasPage_6 : decode M_Memory_hasPage.2.1 6 = .ok (.getfield 9, 3) := by decide +kernel
theorem d_Memory_hasPage_9 : decode M_Memory_hasPage.2.1 9 = .ok (.if_icmp .ge 7, 3) := by decide +kernel
theorem d_Memory_hasPage_12 : decode M_Memory_hasPage.2.1 12 = .ok (.iconst 1, 1) := by decide +kernel
theorem d_Memory_hasPage_13 : decode M_Memory_hasPage.2.1 13 = .ok (.goto 4, 3) := by decide +kernel
theorem d_Memory_hasPage_16 : decode M_Memory_hasPage.2.1 16 = .ok (.iconst 0, 1) := by decide +kernel
theorem d_Memory_hasPage_17 : decode M_Memory_hasPage.2.1 17 = .ok (.ireturn, 1) := by decide +kernel
theorem d_Memory_ownerOf_0 : decode M_Memory_ownerOf.2.1 0 = .ok (.aload_n 0, 1) := by decide +kernel
theorem d_Memory_ownerOf_1 : decode M_Memory_ownerOf.2.1 1 = .ok (.getfield 19, 3) := by decide +kernel
theorem d_Memory_ownerOf_4 : decode M_Memory_ownerOf.2.1 4 = .ok (.iload_n 1, 1) := by decide +kernel
theorem d_Memory_ownerOf_5 : decode M_Memory_ownerOf.2.1 5 = .ok (.iaload, 1) := by decide +kernel
theorem d_Memory_ownerOf_6 : decode M_Memory_ownerOf.2.1 6 = .ok (.ireturn, 1) := by decide +kernel
theorem d_K_share_0 : decode M_K_share.2.1 0 = .ok (.iload 4, 2) := by decide +kernel
theorem d_K_share_2 : decode M_K_share.2.1 2 = .ok (.iconst 0, 1) := by decide +kernel
theorem d_K_share_3 : decode M_K_share.2.1 3 = .ok (.iconst 2, 1) := by decide +kernel
theorem d_K_share_4 : decode M_K_share.2.1 4 = .ok (.invokestatic 108, 3) := by decide +kernel
theorem d_K_share_7 : decode M_K_share.2.1 7 = .ok (.ifCond .eq 25, 3) := by decide +kernel
theorem d_K_share_10 : decode M_K_share.2.1 10 = .ok (.aload_n 0, 1) := by decide +kernel
theorem d_K_share_11 : decode M_K_share.2.1 11 = .ok (.iload_n 1, 1) := by decide +kernel
theorem d_K_share_12 : decode M_K_share.2.1 12 = .ok (.iload_n 2, 1) := by decide +kernel
theorem d_K_share_13 : decode M_K_share.2.1 13 = .ok (.invokevirtual 102, 3) := by decide +kernel
theorem d_K_share_16 : decode M_K_share.2.1 16 = .ok (.ifCond .eq 16, 3) := by decide +kernel
theorem d_K_share_19 : decode M_K_share.2.1 19 = .ok (.iload_n 3, 1) := by decide +kernel
theorem d_K_share_20 : decode M_K_share.2.1 20 = .ok (.iload_n 1, 1) := by decide +kernel
theorem d_K_share_21 : decode M_K_share.2.1 21 = .ok (.if_icmp .eq 11, 3) := by decide +kernel
theorem d_K_share_24 : decode M_K_share.2.1 24 = .ok (.aload_n 0, 1) := by decide +kernel
theorem d_K_share_25 : decode M_K_share.2.1 25 = .ok (.iload_n 3, 1) := by decide +kernel
theorem d_K_share_26 : decode M_K_share.2.1 26 = .ok (.invokevirtual 84, 3) := by decide +kernel
theorem d_K_share_29 : decode M_K_share.2.1 29 = .ok (.ifCond .ne 5, 3) := by decide +kernel
theorem d_K_share_32 : decode M_K_share.2.1 32 = .ok (.iconst (-1), 1) := by decide +kernel
theorem d_K_share_33 : decode M_K_share.2.1 33 = .ok (.ireturn, 1) := by decide +kernel
theorem d_K_share_34 : decode M_K_share.2.1 34 = .ok (.aload_n 0, 1) := by decide +kernel
theorem d_K_share_35 : decode M_K_share.2.1 35 = .ok (.getfield 18, 3) := by decide +kernel
theorem d_K_share_38 : decode M_K_share.2.1 38 = .ok (.iload_n 2, 1) := by decide +kernel
theorem d_K_share_39 : decode M_K_share.2.1 39 = .ok (.iload_n 3, 1) := by decide +kernel
theorem d_K_share_40 : decode M_K_share.2.1 40 = .ok (.iload 4, 2) := by decide +kernel
theorem d_K_share_42 : decode M_K_share.2.1 42 = .ok (.invokevirtual 112, 3) := by decide +kernel
theorem d_K_share_45 : decode M_K_share.2.1 45 = .ok (.iconst 0, 1) := by decide +kernel
theorem d_K_share_46 : decode M_K_share.2.1 46 = .ok (.ireturn, 1) := by decide +kernel
theorem d_K_store_0 : decode M_K_store.2.1 0 = .ok (.aload_n 0, 1) := by decide +kernel
theorem d_K_store_1 : decode M_K_store.2.1 1 = .ok (.iload_n 1, 1) := by decide +kernel
theorem d_K_store_2 : decode M_K_store.2.1 2 = .ok (.iload_n 2, 1) := by decide +kernel
theorem d_K_store_3 : decode M_K_store.2.1 3 = .ok (.iload_n 3, 1) := by decide +kernel
theorem d_K_store_4 : decode M_K_store.2.1 4 = .ok (.iconst 2, 1) := by decide +kernel
theorem d_K_store_5 : decode M_K_store.2.1 5 = .ok (.invokevirtual 116, 3) := by decide +kernel
theorem d_K_store_8 : decode M_K_store.2.1 8 = .ok (.ifCond .ne 5, 3) := by decide +kernel
theorem d_K_store_11 : decode M_K_store.2.1 11 = .ok (.iconst (-1), 1) := by decide +kernel
theorem d_K_store_12 : decode M_K_store.2.1 12 = .ok (.ireturn, 1) := by decide +kernel
theorem d_K_store_13 : decode M_K_store.2.1 13 = .ok (.aload_n 0, 1) := by decide +kernel
theorem d_K_store_14 : decode M_K_store.2.1 14 = .ok (.getfield 18, 3) := by decide +kernel
theorem d_K_store_17 : decode M_K_store.2.1 17 = .ok (.iload_n 2, 1) := by decide +kernel
theorem d_K_store_18 : decode M_K_store.2.1 18 = .ok (.iload_n 3, 1) := by decide +kernel
theorem d_K_store_19 : decode M_K_store.2.1 19 = .ok (.iload 4, 2) := by decide +kernel
theorem d_K_store_21 : decode M_K_store.2.1 21 = .ok (.invokevirtual 120, 3) := by decide +kernel
theorem d_K_store_24 : decode M_K_store.2.1 24 = .ok (.iconst 0, 1) := by decide +kernel
theorem d_K_store_25 : decode M_K_store.2.1 25 = .ok (.ireturn, 1) := by decide +kernel
theorem d_K_mayUse_0 : decode M_K_mayUse.2.1 0 = .ok (.aload_n 0, 1) := by decide +kernel
theorem d_K_mayUse_1 : decode M_K_mayUse.2.1 1 = .ok (.iload_n 1, 1) := by decide +kernel
theorem d_K_mayUse_2 : decode M_K_mayUse.2.1 2 = .ok (.invokevirtual 84, 3) := by decide +kernel
theorem d_K_mayUse_5 : decode M_K_mayUse.2.1 5 = .ok (.ifCond .eq 23, 3) := by decide +kernel
theorem d_K_mayUse_8 : decode M_K_mayUse.2.1 8 = .ok (.aload_n 0, 1) := by decide +kernel
theorem d_K_mayUse_9 : decode M_K_mayUse.2.1 9 = .ok (.getfield 18, 3) := by decide +kernel
theorem d_K_mayUse_12 : decode M_K_mayUse.2.1 12 = .ok (.iload_n 2, 1) := by decide +kernel
theorem d_K_mayUse_13 : decode M_K_mayUse.2.1 13 = .ok (.invokevirtual 263, 3) := by decide +kernel
theorem d_K_mayUse_16 : decode M_K_mayUse.2.1 16 = .ok (.ifCond .eq 12, 3) := by decide +kernel
theorem d_K_mayUse_19 : decode M_K_mayUse.2.1 19 = .ok (.iload_n 3, 1) := by decide +kernel
theorem d_K_mayUse_20 : decode M_K_mayUse.2.1 20 = .ok (.iconst 0, 1) := by decide +kernel
theorem d_K_mayUse_21 : decode M_K_mayUse.2.1 21 = .ok (.iconst 3, 1) := by decide +kernel
theorem d_K_mayUse_22 : decode M_K_mayUse.2.1 22 = .ok (.invokestatic 108, 3) := by decide +kernel
theorem d_K_mayUse_25 : decode M_K_mayUse.2.1 25 = .ok (.ifCond .ne 5, 3) := by decide +kernel
theorem d_K_mayUse_28 : decode M_K_mayUse.2.1 28 = .ok (.iconst 0, 1) := by decide +kernel
theorem d_K_mayUse_29 : decode M_K_mayUse.2.1 29 = .ok (.ireturn, 1) := by decide +kernel
theorem d_K_mayUse_30 : decode M_K_mayUse.2.1 30 = .ok (.aload_n 0, 1) := by decide +kernel
theorem d_K_mayUse_31 : decode M_K_mayUse.2.1 31 = .ok (.getfield 18, 3) := by decide +kernel
theorem d_K_mayUse_34 : decode M_K_mayUse.2.1 34 = .ok (.iload_n 2, 1) := by decide +kernel
theorem d_K_mayUse_35 : decode M_K_mayUse.2.1 35 = .ok (.invokevirtual 144, 3) := by decide +kernel
theorem d_K_mayUse_38 : decode M_K_mayUse.2.1 38 = .ok (.iload_n 1, 1) := by decide +kernel
theorem d_K_mayUse_39 : decode M_K_mayUse.2.1 39 = .ok (.if_icmp .eq 17, 3) := by decide +kernel
theorem d_K_mayUse_42 : decode M_K_mayUse.2.1 42 = .ok (.aload_n 0, 1) := by decide +kernel
theorem d_K_mayUse_43 : decode M_K_mayUse.2.1 43 = .ok (.getfield 18, 3) := by decide +kernel
theorem d_K_mayUse_46 : decode M_K_mayUse.2.1 46 = .ok (.iload_n 2, 1) := by decide +kernel
theorem d_K_mayUse_47 : decode M_K_mayUse.2.1 47 = .ok (.iload_n 1, 1) := by decide +kernel
theorem d_K_mayUse_48 : decode M_K_mayUse.2.1 48 = .ok (.invokevirtual 293, 3) := by decide +kernel
theorem d_K_mayUse_51 : decode M_K_mayUse.2.1 51 = .ok (.iload 4, 2) := by decide +kernel
theorem d_K_mayUse_53 : decode M_K_mayUse.2.1 53 = .ok (.if_icmp .lt 7, 3) := by decide +kernel
theorem d_K_mayUse_56 : decode M_K_mayUse.2.1 56 = .ok (.iconst 1, 1) := by decide +kernel
theorem d_K_mayUse_57 : decode M_K_mayUse.2.1 57 = .ok (.goto 4, 3) := by decide +kernel
theorem d_K_mayUse_60 : decode M_K_mayUse.2.1 60 = .ok (.iconst 0, 1) := by decide +kernel
theorem d_K_mayUse_61 : decode M_K_mayUse.2.1 61 = .ok (.ireturn, 1) := by decide +kernel
theorem d_Memory_rightOf_0 : decode M_Memory_rightOf.2.1 0 = .ok (.aload_n 0, 1) := by decide +kernel
theorem d_Memory_rightOf_1 : decode M_Memory_rightOf.2.1 1 = .ok (.getfield 22, 3) := by decide +kernel
theorem d_Memory_rightOf_4 : decode M_Memory_rightOf.2.1 4 = .ok (.iload_n 1, 1) := by decide +kernel
theorem d_Memory_rightOf_5 : decode M_Memory_rightOf.2.1 5 = .ok (.bipush 6, 2) := by decide +kernel
theorem d_Memory_rightOf_7 : decode M_Memory_rightOf.2.1 7 = .ok (.imul, 1) := by decide +kernel
theorem d_Memory_rightOf_8 : decode M_Memory_rightOf.2.1 8 = .ok (.iload_n 2, 1) := by decide +kernel
theorem d_Memory_rightOf_9 : decode M_Memory_rightOf.2.1 9 = .ok (.iadd, 1) := by decide +kernel
theorem d_Memory_rightOf_10 : decode M_Memory_rightOf.2.1 10 = .ok (.iaload, 1) := by decide +kernel
theorem d_Memory_rightOf_11 : decode M_Memory_rightOf.2.1 11 = .ok (.ireturn, 1) := by decide +kernel
theorem d_K_fetch_0 : decode M_K_fetch.2.1 0 = .ok (.aload_n 0, 1) := by decide +kernel
theorem d_K_fetch_1 : decode M_K_fetch.2.1 1 = .ok (.iload_n 1, 1) := by decide +kernel
theorem d_K_fetch_2 : decode M_K_fetch.2.1 2 = .ok (.iload_n 2, 1) := by decide +kernel
theorem d_K_fetch_3 : decode M_K_fetch.2.1 3 = .ok (.iload_n 3, 1) := by decide +kernel
theorem d_K_fetch_4 : decode M_K_fetch.2.1 4 = .ok (.iconst 1, 1) := by decide +kernel
theorem d_K_fetch_5 : decode M_K_fetch.2.1 5 = .ok (.invokevirtual 116, 3) := by decide +kernel
theorem d_K_fetch_8 : decode M_K_fetch.2.1 8 = .ok (.ifCond .ne 7, 3) := by decide +kernel
theorem d_K_fetch_11 : decode M_K_fetch.2.1 11 = .ok (.ldc2_w 123, 3) := by decide +kernel
theorem d_K_fetch_14 : decode M_K_fetch.2.1 14 = .ok (.lreturn, 1) := by decide +kernel
theorem d_K_fetch_15 : decode M_K_fetch.2.1 15 = .ok (.aload_n 0, 1) := by decide +kernel
theorem d_K_fetch_16 : decode M_K_fetch.2.1 16 = .ok (.getfield 18, 3) := by decide +kernel
theorem d_K_fetch_19 : decode M_K_fetch.2.1 19 = .ok (.iload_n 2, 1) := by decide +kernel
theorem d_K_fetch_20 : decode M_K_fetch.2.1 20 = .ok (.iload_n 3, 1) := by decide +kernel
theorem d_K_fetch_21 : decode M_K_fetch.2.1 21 = .ok (.invokevirtual 125, 3) := by decide +kernel
theorem d_K_fetch_24 : decode M_K_fetch.2.1 24 = .ok (.i2l, 1) := by decide +kernel
theorem d_K_fetch_25 : decode M_K_fetch.2.1 25 = .ok (.lreturn, 1) := by decide +kernel
theorem d_Memory_wordOf_0 : decode M_Memory_wordOf.2.1 0 = .ok (.aload_n 0, 1) := by decide +kernel
theorem d_Memory_wordOf_1 : decode M_Memory_wordOf.2.1 1 = .ok (.getfield 15, 3) := by decide +kernel
theorem d_Memory_wordOf_4 : decode M_Memory_wordOf.2.1 4 = .ok (.iload_n 1, 1) := by decide +kernel
theorem d_Memory_wordOf_5 : decode M_Memory_wordOf.2.1 5 = .ok (.iconst 4, 1) := by decide +kernel
theorem d_Memory_wordOf_6 : decode M_Memory_wordOf.2.1 6 = .ok (.imul, 1) := by decide +kernel
theorem d_Memory_wordOf_7 : decode M_Memory_wordOf.2.1 7 = .ok (.iload_n 2, 1) := by decide +kernel
theorem d_Memory_wordOf_8 : decode M_Memory_wordOf.2.1 8 = .ok (.iadd, 1) := by decide +kernel
theorem d_Memory_wordOf_9 : decode M_Memory_wordOf.2.1 9 = .ok (.iaload, 1) := by decide +kernel
theorem d_Memory_wordOf_10 : decode M_Memory_wordOf.2.1 10 = .ok (.ireturn, 1) := by decide +kernel
theorem d_K_revoke_0 : decode M_K_revoke.2.1 0 = .ok (.aload_n 0, 1) := by decide +kernel
theorem d_K_revoke_1 : decode M_K_revoke.2.1 1 = .ok (.iload_n 1, 1) := by decide +kernel
theorem d_K_revoke_2 : decode M_K_revoke.2.1 2 = .ok (.invokevirtual 84, 3) := by decide +kernel
theorem d_K_revoke_5 : decode M_K_revoke.2.1 5 = .ok (.ifCond .eq 23, 3) := by decide +kernel
theorem d_K_revoke_8 : decode M_K_revoke.2.1 8 = .ok (.iload_n 2, 1) := by decide +kernel
theorem d_K_revoke_9 : decode M_K_revoke.2.1 9 = .ok (.iconst 1, 1) := by decide +kernel
theorem d_K_revoke_10 : decode M_K_revoke.2.1 10 = .ok (.bipush 8, 2) := by decide +kernel
theorem d_K_revoke_12 : decode M_K_revoke.2.1 12 = .ok (.invokestatic 108, 3) := by decide +kernel
theorem d_K_revoke_15 : decode M_K_revoke.2.1 15 = .ok (.ifCond .eq 13, 3) := by decide +kernel
theorem d_K_revoke_18 : decode M_K_revoke.2.1 18 = .ok (.iload_n 3, 1) := by decide +kernel
theorem d_K_revoke_19 : decode M_K_revoke.2.1 19 = .ok (.iconst 1, 1) := by decide +kernel
theorem d_K_revoke_20 : decode M_K_revoke.2.1 20 = .ok (.bipush 20, 2) := by decide +kernel
theorem d_K_revoke_22 : decode M_K_revoke.2.1 22 = .ok (.invokestatic 108, 3) := by decide +kernel
theorem d_K_revoke_25 : decode M_K_revoke.2.1 25 = .ok (.ifCond .ne 5, 3) := by decide +kernel
theorem d_K_revoke_28 : decode M_K_revoke.2.1 28 = .ok (.iconst (-1), 1) := by decide +kernel
theorem d_K_revoke_29 : decode M_K_revoke.2.1 29 = .ok (.ireturn, 1) := by decide +kernel
theorem d_K_revoke_30 : decode M_K_revoke.2.1 30 = .ok (.iconst 0, 1) := by decide +kernel
theorem d_K_revoke_31 : decode M_K_revoke.2.1 31 = .ok (.istore 4, 2) := by decide +kernel
theorem d_K_revoke_33 : decode M_K_revoke.2.1 33 = .ok (.iload 4, 2) := by decide +kernel
theorem d_K_revoke_35 : decode M_K_revoke.2.1 35 = .ok (.iload_n 2, 1) := by decide +kernel
theorem d_K_revoke_36 : decode M_K_revoke.2.1 36 = .ok (.if_icmp .ge 38, 3) := by decide +kernel
theorem d_K_revoke_39 : decode M_K_revoke.2.1 39 = .ok (.aload_n 0, 1) := by decide +kernel
theorem d_K_revoke_40 : decode M_K_revoke.2.1 40 = .ok (.getfield 18, 3) := by decide +kernel
theorem d_K_revoke_43 : decode M_K_revoke.2.1 43 = .ok (.iload_n 1, 1) := by decide +kernel
theorem d_K_revoke_44 : decode M_K_revoke.2.1 44 = .ok (.invokevirtual 129, 3) := by decide +kernel
theorem d_K_revoke_47 : decode M_K_revoke.2.1 47 = .ok (.istore 5, 2) := by decide +kernel
theorem d_K_revoke_49 : decode M_K_revoke.2.1 49 = .ok (.iload 5, 2) := by decide +kernel
theorem d_K_revoke_51 : decode M_K_revoke.2.1 51 = .ok (.iconst (-1), 1) := by decide +kernel
theorem d_K_revoke_52 : decode M_K_revoke.2.1 52 = .ok (.if_icmp .ne 6, 3) := by decide +kernel
theorem d_K_revoke_55 : decode M_K_revoke.2.1 55 = .ok (.iload 4, 2) := by decide +kernel
theorem d_K_revoke_57 : decode M_K_revoke.2.1 57 = .ok (.ireturn, 1) := by decide +kernel
theorem d_K_revoke_58 : decode M_K_revoke.2.1 58 = .ok (.aload_n 0, 1) := by decide +kernel
theorem d_K_revoke_59 : decode M_K_revoke.2.1 59 = .ok (.getfield 18, 3) := by decide +kernel
theorem d_K_revoke_62 : decode M_K_revoke.2.1 62 = .ok (.iload 5, 2) := by decide +kernel
theorem d_K_revoke_64 : decode M_K_revoke.2.1 64 = .ok (.iload_n 3, 1) := by decide +kernel
theorem d_K_revoke_65 : decode M_K_revoke.2.1 65 = .ok (.invokevirtual 132, 3) := by decide +kernel
theorem d_K_revoke_68 : decode M_K_revoke.2.1 68 = .ok (.iinc 4 1, 3) := by decide +kernel
theorem d_K_revoke_71 : decode M_K_revoke.2.1 71 = .ok (.goto (-38), 3) := by decide +kernel
theorem d_K_revoke_74 : decode M_K_revoke.2.1 74 = .ok (.iload_n 2, 1) := by decide +kernel
theorem d_K_revoke_75 : decode M_K_revoke.2.1 75 = .ok (.ireturn, 1) := by decide +kernel
theorem d_Memory_pageToName_0 : decode M_Memory_pageToName.2.1 0 = .ok (.iconst 0, 1) := by decide +kernel
theorem d_Memory_pageToName_1 : decode M_Memory_pageToName.2.1 1 = .ok (.istore_n 2, 1) := by decide +kernel
theorem d_Memory_pageToName_2 : decode M_Memory_pageToName.2.1 2 = .ok (.iconst (-1), 1) := by decide +kernel
theorem d_Memory_pageToName_3 : decode M_Memory_pageToName.2.1 3 = .ok (.istore_n 3, 1) := by decide +kernel
theorem d_Memory_pageToName_4 : decode M_Memory_pageToName.2.1 4 = .ok (.iconst 0, 1) := by decide +kernel
theorem d_Memory_pageToName_5 : decode M_Memory_pageToName.2.1 5 = .ok (.istore 4, 2) := by decide +kernel
theorem d_Memory_pageToName_7 : decode M_Memory_pageToName.2.1 7 = .ok (.iload 4, 2) := by decide +kernel
theorem d_Memory_pageToName_9 : decode M_Memory_pageToName.2.1 9 = .ok (.aload_n 0, 1) := by decide +kernel
theorem d_Memory_pageToName_10 : decode M_Memory_pageToName.2.1 10 = .ok (.getfield 9, 3) := by decide +kernel
theorem d_Memory_pageToName_13 : decode M_Memory_pageToName.2.1 13 = .ok (.if_icmp .ge 57, 3) := by decide +kernel
theorem d_Memory_pageToName_16 : decode M_Memory_pageToName.2.1 16 = .ok (.aload_n 0, 1) := by decide +kernel
theorem d_Memory_pageToName_17 : decode M_Memory_pageToName.2.1 17 = .ok (.getfield 19, 3) := by decide +kernel
theorem d_Memory_pageToName_20 : decode M_Memory_pageToName.2.1 20 = .ok (.iload 4, 2) := by decide +kernel
theorem d_Memory_pageToName_22 : decode M_Memory_pageToName.2.1 22 = .ok (.iaload, 1) := by decide +kernel
theorem d_Memory_pageToName_23 : decode M_Memory_pageToName.2.1 23 = .ok (.iload_n 1, 1) := by decide +kernel
theorem d_Memory_pageToName_24 : decode M_Memory_pageToName.2.1 24 = .ok (.if_icmp .ne 40, 3) := by decide +kernel
theorem d_Memory_pageToName_27 : decode M_Memory_pageToName.2.1 27 = .ok (.aload_n 0, 1) := by decide +kernel
theorem d_Memory_pageToName_28 : decode M_Memory_pageToName.2.1 28 = .ok (.getfield 28, 3) := by decide +kernel
theorem d_Memory_pageToName_31 : decode M_Memory_pageToName.2.1 31 = .ok (.iload 4, 2) := by decide +kernel
theorem d_Memory_pageToName_33 : decode M_Memory_pageToName.2.1 33 = .ok (.baload, 1) := by decide +kernel
theorem d_Memory_pageToName_34 : decode M_Memory_pageToName.2.1 34 = .ok (.ifCond .ne 30, 3) := by decide +kernel
theorem d_Memory_pageToName_37 : decode M_Memory_pageToName.2.1 37 = .ok (.iinc 2 1, 3) := by decide +kernel
theorem d_Memory_pageToName_40 : decode M_Memory_pageToName.2.1 40 = .ok (.iload_n 3, 1) := by decide +kernel
theorem d_Memory_pageToName_41 : decode M_Memory_pageToName.2.1 41 = .ok (.iconst (-1), 1) := by decide +kernel
theorem d_Memory_pageToName_42 : decode M_Memory_pageToName.2.1 42 = .ok (.if_icmp .eq 19, 3) := by decide +kernel
theorem d_Memory_pageToName_45 : decode M_Memory_pageToName.2.1 45 = .ok (.aload_n 0, 1) := by decide +kernel
theorem d_Memory_pageToName_46 : decode M_Memory_pageToName.2.1 46 = .ok (.getfield 25, 3) := by decide +kernel
theorem d_Memory_pageToName_49 : decode M_Memory_pageToName.2.1 49 = .ok (.iload 4, 2) := by decide +kernel
theorem d_Memory_pageToName_51 : decode M_Memory_pageToName.2.1 51 = .ok (.iaload, 1) := by decide +kernel
theorem d_Memory_pageToName_52 : decode M_Memory_pageToName.2.1 52 = .ok (.aload_n 0, 1) := by decide +kernel
theorem d_Memory_pageToName_53 : decode M_Memory_pageToName.2.1 53 = .ok (.getfield 25, 3) := by decide +kernel
theorem d_Memory_pageToName_56 : decode M_Memory_pageToName.2.1 56 = .ok (.iload_n 3, 1) := by decide +kernel
theorem d_Memory_pageToName_57 : decode M_Memory_pageToName.2.1 57 = .ok (.iaload, 1) := by decide +kernel
theorem d_Memory_pageToName_58 : decode M_Memory_pageToName.2.1 58 = .ok (.if_icmp .le 6, 3) := by decide +kernel
theorem d_Memory_pageToName_61 : decode M_Memory_pageToName.2.1 61 = .ok (.iload 4, 2) := by decide +kernel
theorem d_Memory_pageToName_63 : decode M_Memory_pageToName.2.1 63 = .ok (.istore_n 3, 1) := by decide +kernel
theorem d_Memory_pageToName_64 : decode M_Memory_pageToName.2.1 64 = .ok (.iinc 4 1, 3) := by decide +kernel
theorem d_Memory_pageToName_67 : decode M_Memory_pageToName.2.1 67 = .ok (.goto (-60), 3) := by decide +kernel
theorem d_Memory_pageToName_70 : decode M_Memory_pageToName.2.1 70 = .ok (.iload_n 2, 1) := by decide +kernel
theorem d_Memory_pageToName_71 : decode M_Memory_pageToName.2.1 71 = .ok (.iconst 2, 1) := by decide +kernel
theorem d_Memory_pageToName_72 : decode M_Memory_pageToName.2.1 72 = .ok (.if_icmp .le 7, 3) := by decide +kernel
theorem d_Memory_pageToName_75 : decode M_Memory_pageToName.2.1 75 = .ok (.iload_n 3, 1) := by decide +kernel
theorem d_Memory_pageToName_76 : decode M_Memory_pageToName.2.1 76 = .ok (.goto 4, 3) := by decide +kernel
theorem d_Memory_pageToName_79 : decode M_Memory_pageToName.2.1 79 = .ok (.iconst (-1), 1) := by decide +kernel
theorem d_Memory_pageToName_80 : decode M_Memory_pageToName.2.1 80 = .ok (.ireturn, 1) := by decide +kernel
theorem d_Memory_nameAfter_0 : decode M_Memory_nameAfter.2.1 0 = .ok (.aload_n 0, 1) := by decide +kernel
theorem d_Memory_nameAfter_1 : decode M_Memory_nameAfter.2.1 1 = .ok (.getfield 28, 3) := by decide +kernel
theorem d_Memory_nameAfter_4 : decode M_Memory_nameAfter.2.1 4 = .ok (.iload_n 1, 1) := by decide +kernel
theorem d_Memory_nameAfter_5 : decode M_Memory_nameAfter.2.1 5 = .ok (.iconst 1, 1) := by decide +kernel
theorem d_Memory_nameAfter_6 : decode M_Memory_nameAfter.2.1 6 = .ok (.bastore, 1) := by decide +kernel
theorem d_Memory_nameAfter_7 : decode M_Memory_nameAfter.2.1 7 = .ok (.aload_n 0, 1) := by decide +kernel
theorem d_Memory_nameAfter_8 : decode M_Memory_nameAfter.2.1 8 = .ok (.getfield 32, 3) := by decide +kernel
theorem d_Memory_nameAfter_11 : decode M_Memory_nameAfter.2.1 11 = .ok (.iload_n 1, 1) := by decide +kernel
theorem d_Memory_nameAfter_12 : decode M_Memory_nameAfter.2.1 12 = .ok (.aload_n 0, 1) := by decide +kernel
theorem d_Memory_nameAfter_13 : decode M_Memory_nameAfter.2.1 13 = .ok (.getfield 38, 3) := by decide +kernel
theorem d_Memory_nameAfter_16 : decode M_Memory_nameAfter.2.1 16 = .ok (.iload_n 2, 1) := by decide +kernel
theorem d_Memory_nameAfter_17 : decode M_Memory_nameAfter.2.1 17 = .ok (.iadd, 1) := by decide +kernel
theorem d_Memory_nameAfter_18 : decode M_Memory_nameAfter.2.1 18 = .ok (.iastore, 1) := by decide +kernel
theorem d_Memory_nameAfter_19 : decode M_Memory_nameAfter.2.1 19 = .ok (.return_, 1) := by decide +kernel
theorem d_K_tick_0 : decode M_K_tick.2.1 0 = .ok (.iload_n 1, 1) := by decide +kernel
theorem d_K_tick_1 : decode M_K_tick.2.1 1 = .ok (.iconst 1, 1) := by decide +kernel
theorem d_K_tick_2 : decode M_K_tick.2.1 2 = .ok (.bipush 100, 2) := by decide +kernel
theorem d_K_tick_4 : decode M_K_tick.2.1 4 = .ok (.invokestatic 108, 3) := by decide +kernel
theorem d_K_tick_7 : decode M_K_tick.2.1 7 = .ok (.ifCond .ne 5, 3) := by decide +kernel
theorem d_K_tick_10 : decode M_K_tick.2.1 10 = .ok (.iconst (-1), 1) := by decide +kernel
theorem d_K_tick_11 : decode M_K_tick.2.1 11 = .ok (.ireturn, 1) := by decide +kernel
theorem d_K_tick_12 : decode M_K_tick.2.1 12 = .ok (.aload_n 0, 1) := by decide +kernel
theorem d_K_tick_13 : decode M_K_tick.2.1 13 = .ok (.getfield 18, 3) := by decide +kernel
theorem d_K_tick_16 : decode M_K_tick.2.1 16 = .ok (.iload_n 1, 1) := by decide +kernel
theorem d_K_tick_17 : decode M_K_tick.2.1 17 = .ok (.invokevirtual 135, 3) := by decide +kernel
theorem d_K_tick_20 : decode M_K_tick.2.1 20 = .ok (.iconst 0, 1) := by decide +kernel
theorem d_K_tick_21 : decode M_K_tick.2.1 21 = .ok (.istore_n 2, 1) := by decide +kernel
theorem d_K_tick_22 : decode M_K_tick.2.1 22 = .ok (.iload_n 2, 1) := by decide +kernel
theorem d_K_tick_23 : decode M_K_tick.2.1 23 = .ok (.aload_n 0, 1) := by decide +kernel
theorem d_K_tick_24 : decode M_K_tick.2.1 24 = .ok (.getfield 18, 3) := by decide +kernel
theorem d_K_tick_27 : decode M_K_tick.2.1 27 = .ok (.getfield 138, 3) := by decide +kernel
theorem d_K_tick_30 : decode M_K_tick.2.1 30 = .ok (.if_icmp .ge 52, 3) := by decide +kernel
theorem d_K_tick_33 : decode M_K_tick.2.1 33 = .ok (.aload_n 0, 1) := by decide +kernel
theorem d_K_tick_34 : decode M_K_tick.2.1 34 = .ok (.getfield 18, 3) := by decide +kernel
theorem d_K_tick_37 : decode M_K_tick.2.1 37 = .ok (.invokevirtual 141, 3) := by decide +kernel
theorem d_K_tick_40 : decode M_K_tick.2.1 40 = .ok (.istore_n 3, 1) := by decide +kernel
theorem d_K_tick_41 : decode M_K_tick.2.1 41 = .ok (.iload_n 3, 1) := by decide +kernel
theorem d_K_tick_42 : decode M_K_tick.2.1 42 = .ok (.iconst (-1), 1) := by decide +kernel
theorem d_K_tick_43 : decode M_K_tick.2.1 43 = .ok (.if_icmp .ne 5, 3) := by decide +kernel
theorem d_K_tick_46 : decode M_K_tick.2.1 46 = .ok (.iload_n 2, 1) := by decide +kernel
theorem d_K_tick_47 : decode M_K_tick.2.1 47 = .ok (.ireturn, 1) := by decide +kernel
theorem d_K_tick_48 : decode M_K_tick.2.1 48 = .ok (.aload_n 0, 1) := by decide +kernel
theorem d_K_tick_49 : decode M_K_tick.2.1 49 = .ok (.getfield 49, 3) := by decide +kernel
theorem d_K_tick_52 : decode M_K_tick.2.1 52 = .ok (.aload_n 0, 1) := by decide +kernel
theorem d_K_tick_53 : decode M_K_tick.2.1 53 = .ok (.getfield 18, 3) := by decide +kernel
theorem d_K_tick_56 : decode M_K_tick.2.1 56 = .ok (.iload_n 3, 1) := by decide +kernel
theorem d_K_tick_57 : decode M_K_tick.2.1 57 = .ok (.invokevirtual 144, 3) := by decide +kernel
theorem d_K_tick_60 : decode M_K_tick.2.1 60 = .ok (.aaload, 1) := by decide +kernel
theorem d_K_tick_61 : decode M_K_tick.2.1 61 = .ok (.getfield 147, 3) := by decide +kernel
theorem d_K_tick_64 : decode M_K_tick.2.1 64 = .ok (.iload_n 3, 1) := by decide +kernel
theorem d_K_tick_65 : decode M_K_tick.2.1 65 = .ok (.invokevirtual 151, 3) := by decide +kernel
theorem d_K_tick_68 : decode M_K_tick.2.1 68 = .ok (.aload_n 0, 1) := by decide +kernel
theorem d_K_tick_69 : decode M_K_tick.2.1 69 = .ok (.getfield 18, 3) := by decide +kernel
theorem d_K_tick_72 : decode M_K_tick.2.1 72 = .ok (.iload_n 3, 1) := by decide +kernel
theorem d_K_tick_73 : decode M_K_tick.2.1 73 = .ok (.invokevirtual 105, 3) := by decide +kernel
theorem d_K_tick_76 : decode M_K_tick.2.1 76 = .ok (.iinc 2 1, 3) := by decide +kernel
theorem d_K_tick_79 : decode M_K_tick.2.1 79 = .ok (.goto (-57), 3) := by decide +kernel
theorem d_K_tick_82 : decode M_K_tick.2.1 82 = .ok (.aload_n 0, 1) := by decide +kernel
theorem d_K_tick_83 : decode M_K_tick.2.1 83 = .ok (.getfield 18, 3) := by decide +kernel
theorem d_K_tick_86 : decode M_K_tick.2.1 86 = .ok (.getfield 138, 3) := by decide +kernel
theorem d_K_tick_89 : decode M_K_tick.2.1 89 = .ok (.ireturn, 1) := by decide +kernel
theorem d_Memory_passTime_0 : decode M_Memory_passTime.2.1 0 = .ok (.aload_n 0, 1) := by decide +kernel
theorem d_Memory_passTime_1 : decode M_Memory_passTime.2.1 1 = .ok (.dup, 1) := by decide +kernel
theorem d_Memory_passTime_2 : decode M_Memory_passTime.2.1 2 = .ok (.getfield 38, 3) := by decide +kernel
theorem d_Memory_passTime_5 : decode M_Memory_passTime.2.1 5 = .ok (.iload_n 1, 1) := by decide +kernel
theorem d_Memory_passTime_6 : decode M_Memory_passTime.2.1 6 = .ok (.iadd, 1) := by decide +kernel
theorem d_Memory_passTime_7 : decode M_Memory_passTime.2.1 7 = .ok (.putfield 38, 3) := by decide +kernel
theorem d_Memory_passTime_10 : decode M_Memory_passTime.2.1 10 = .ok (.return_, 1) := by decide +kernel
theorem d_Memory_firstDue_0 : decode M_Memory_firstDue.2.1 0 = .ok (.iconst (-1), 1) := by decide +kernel
theorem d_Memory_firstDue_1 : decode M_Memory_firstDue.2.1 1 = .ok (.istore_n 1, 1) := by decide +kernel
theorem d_Memory_firstDue_2 : decode M_Memory_firstDue.2.1 2 = .ok (.iconst 0, 1) := by decide +kernel
theorem d_Memory_firstDue_3 : decode M_Memory_firstDue.2.1 3 = .ok (.istore_n 2, 1) := by decide +kernel
theorem d_Memory_firstDue_4 : decode M_Memory_firstDue.2.1 4 = .ok (.iload_n 2, 1) := by decide +kernel
theorem d_Memory_firstDue_5 : decode M_Memory_firstDue.2.1 5 = .ok (.aload_n 0, 1) := by decide +kernel
theorem d_Memory_firstDue_6 : decode M_Memory_firstDue.2.1 6 = .ok (.getfield 9, 3) := by decide +kernel
theorem d_Memory_firstDue_9 : decode M_Memory_firstDue.2.1 9 = .ok (.if_icmp .ge 53, 3) := by decide +kernel
theorem d_Memory_firstDue_12 : decode M_Memory_firstDue.2.1 12 = .ok (.aload_n 0, 1) := by decide +kernel
theorem d_Memory_firstDue_13 : decode M_Memory_firstDue.2.1 13 = .ok (.getfield 28, 3) := by decide +kernel
theorem d_Memory_firstDue_16 : decode M_Memory_firstDue.2.1 16 = .ok (.iload_n 2, 1) := by decide +kernel
theorem d_Memory_firstDue_17 : decode M_Memory_firstDue.2.1 17 = .ok (.baload, 1) := by decide +kernel
theorem d_Memory_firstDue_18 : decode M_Memory_firstDue.2.1 18 = .ok (.ifCond .eq 38, 3) := by decide +kernel
theorem d_Memory_firstDue_21 : decode M_Memory_firstDue.2.1 21 = .ok (.aload_n 0, 1) := by decide +kernel
theorem d_Memory_firstDue_22 : decode M_Memory_firstDue.2.1 22 = .ok (.getfield 32, 3) := by decide +kernel
theorem d_Memory_firstDue_25 : decode M_Memory_firstDue.2.1 25 = .ok (.iload_n 2, 1) := by decide +kernel
theorem d_Memory_firstDue_26 : decode M_Memory_firstDue.2.1 26 = .ok (.iaload, 1) := by decide +kernel
theorem d_Memory_firstDue_27 : decode M_Memory_firstDue.2.1 27 = .ok (.aload_n 0, 1) := by decide +kernel
theorem d_Memory_firstDue_28 : decode M_Memory_firstDue.2.1 28 = .ok (.getfield 38, 3) := by decide +kernel
theorem d_Memory_firstDue_31 : decode M_Memory_firstDue.2.1 31 = .ok (.if_icmp .gt 25, 3) := by decide +kernel
theorem d_Memory_firstDue_34 : decode M_Memory_firstDue.2.1 34 = .ok (.iload_n 1, 1) := by decide +kernel
theorem d_Memory_firstDue_35 : decode M_Memory_firstDue.2.1 35 = .ok (.iconst (-1), 1) := by decide +kernel
theorem d_Memory_firstDue_36 : decode M_Memory_firstDue.2.1 36 = .ok (.if_icmp .eq 18, 3) := by decide +kernel
theorem d_Memory_firstDue_39 : decode M_Memory_firstDue.2.1 39 = .ok (.aload_n 0, 1) := by decide +kernel
theorem d_Memory_firstDue_40 : decode M_Memory_firstDue.2.1 40 = .ok (.getfield 32, 3) := by decide +kernel
theorem d_Memory_firstDue_43 : decode M_Memory_firstDue.2.1 43 = .ok (.iload_n 2, 1) := by decide +kernel
theorem d_Memory_firstDue_44 : decode M_Memory_firstDue.2.1 44 = .ok (.iaload, 1) := by decide +kernel
theorem d_Memory_firstDue_45 : decode M_Memory_firstDue.2.1 45 = .ok (.aload_n 0, 1) := by decide +kernel
theorem d_Memory_firstDue_46 : decode M_Memory_firstDue.2.1 46 = .ok (.getfield 32, 3) := by decide +kernel
theorem d_Memory_firstDue_49 : decode M_Memory_firstDue.2.1 49 = .ok (.iload_n 1, 1) := by decide +kernel
theorem d_Memory_firstDue_50 : decode M_Memory_firstDue.2.1 50 = .ok (.iaload, 1) := by decide +kernel
theorem d_Memory_firstDue_51 : decode M_Memory_firstDue.2.1 51 = .ok (.if_icmp .ge 5, 3) := by decide +kernel
theorem d_Memory_firstDue_54 : decode M_Memory_firstDue.2.1 54 = .ok (.iload_n 2, 1) := by decide +kernel
theorem d_Memory_firstDue_55 : decode M_Memory_firstDue.2.1 55 = .ok (.istore_n 1, 1) := by decide +kernel
theorem d_Memory_firstDue_56 : decode M_Memory_firstDue.2.1 56 = .ok (.iinc 2 1, 3) := by decide +kernel
theorem d_Memory_firstDue_59 : decode M_Memory_firstDue.2.1 59 = .ok (.goto (-55), 3) := by decide +kernel
theorem d_Memory_firstDue_62 : decode M_Memory_firstDue.2.1 62 = .ok (.iload_n 1, 1) := by decide +kernel
theorem d_Memory_firstDue_63 : decode M_Memory_firstDue.2.1 63 = .ok (.ireturn, 1) := by decide +kernel
theorem d_PageList_append_0 : decode M_PageList_append.2.1 0 = .ok (.aload_n 0, 1) := by decide +kernel
theorem d_PageList_append_1 : decode M_PageList_append.2.1 1 = .ok (.getfield 9, 3) := by decide +kernel
theorem d_PageList_append_4 : decode M_PageList_append.2.1 4 = .ok (.aload_n 0, 1) := by decide +kernel
theorem d_PageList_append_5 : decode M_PageList_append.2.1 5 = .ok (.getfield 17, 3) := by decide +kernel
theorem d_PageList_append_8 : decode M_PageList_append.2.1 8 = .ok (.iload_n 1, 1) := by decide +kernel
theorem d_PageList_append_9 : decode M_PageList_append.2.1 9 = .ok (.iastore, 1) := by decide +kernel
theorem d_PageList_append_10 : decode M_PageList_append.2.1 10 = .ok (.aload_n 0, 1) := by decide +kernel
theorem d_PageList_append_11 : decode M_PageList_append.2.1 11 = .ok (.aload_n 0, 1) := by decide +kernel
theorem d_PageList_append_12 : decode M_PageList_append.2.1 12 = .ok (.getfield 17, 3) := by decide +kernel
theorem d_PageList_append_15 : decode M_PageList_append.2.1 15 = .ok (.iconst 1, 1) := by decide +kernel
theorem d_PageList_append_16 : decode M_PageList_append.2.1 16 = .ok (.iadd, 1) := by decide +kernel
theorem d_PageList_append_17 : decode M_PageList_append.2.1 17 = .ok (.bipush 8, 2) := by decide +kernel
theorem d_PageList_append_19 : decode M_PageList_append.2.1 19 = .ok (.irem, 1) := by decide +kernel
theorem d_PageList_append_20 : decode M_PageList_append.2.1 20 = .ok (.putfield 17, 3) := by decide +kernel
theorem d_PageList_append_23 : decode M_PageList_append.2.1 23 = .ok (.aload_n 0, 1) := by decide +kernel
theorem d_PageList_append_24 : decode M_PageList_append.2.1 24 = .ok (.bipush 8, 2) := by decide +kernel
theorem d_PageList_append_26 : decode M_PageList_append.2.1 26 = .ok (.aload_n 0, 1) := by decide +kernel
theorem d_PageList_append_27 : decode M_PageList_append.2.1 27 = .ok (.getfield 13, 3) := by decide +kernel
theorem d_PageList_append_30 : decode M_PageList_append.2.1 30 = .ok (.iconst 1, 1) := by decide +kernel
theorem d_PageList_append_31 : decode M_PageList_append.2.1 31 = .ok (.iadd, 1) := by decide +kernel
theorem d_PageList_append_32 : decode M_PageList_append.2.1 32 = .ok (.invokestatic 20, 3) := by decide +kernel
theorem d_PageList_append_35 : decode M_PageList_append.2.1 35 = .ok (.putfield 13, 3) := by decide +kernel
theorem d_PageList_append_38 : decode M_PageList_append.2.1 38 = .ok (.return_, 1) := by decide +kernel
theorem d_K_op_0 : decode M_K_op.2.1 0 = .ok (.aload_n 0, 1) := by decide +kernel
theorem d_K_op_1 : decode M_K_op.2.1 1 = .ok (.iload_n 1, 1) := by decide +kernel
theorem d_K_op_2 : decode M_K_op.2.1 2 = .ok (.invokevirtual 84, 3) := by decide +kernel
theorem d_K_op_5 : decode M_K_op.2.1 5 = .ok (.ifCond .eq 15, 3) := by decide +kernel
theorem d_K_op_8 : decode M_K_op.2.1 8 = .ok (.iload_n 2, 1) := by decide +kernel
theorem d_K_op_9 : decode M_K_op.2.1 9 = .ok (.iload_n 3, 1) := by decide +kernel
theorem d_K_op_10 : decode M_K_op.2.1 10 = .ok (.iload 4, 2) := by decide +kernel
theorem d_K_op_12 : decode M_K_op.2.1 12 = .ok (.iload 5, 2) := by decide +kernel
theorem d_K_op_14 : decode M_K_op.2.1 14 = .ok (.invokestatic 156, 3) := by decide +kernel
theorem d_K_op_17 : decode M_K_op.2.1 17 = .ok (.ifCond .ne 5, 3) := by decide +kernel
theorem d_K_op_20 : decode M_K_op.2.1 20 = .ok (.iconst (-1), 1) := by decide +kernel
theorem d_K_op_21 : decode M_K_op.2.1 21 = .ok (.ireturn, 1) := by decide +kernel
theorem d_K_op_22 : decode M_K_op.2.1 22 = .ok (.aload_n 0, 1) := by decide +kernel
theorem d_K_op_23 : decode M_K_op.2.1 23 = .ok (.getfield 49, 3) := by decide +kernel
theorem d_K_op_26 : decode M_K_op.2.1 26 = .ok (.iload_n 1, 1) := by decide +kernel
theorem d_K_op_27 : decode M_K_op.2.1 27 = .ok (.aaload, 1) := by decide +kernel
theorem d_K_op_28 : decode M_K_op.2.1 28 = .ok (.getfield 161, 3) := by decide +kernel
theorem d_K_op_31 : decode M_K_op.2.1 31 = .ok (.astore 6, 2) := by decide +kernel
theorem d_K_op_33 : decode M_K_op.2.1 33 = .ok (.aload 6, 2) := by decide +kernel
theorem d_K_op_35 : decode M_K_op.2.1 35 = .ok (.invokevirtual 165, 3) := by decide +kernel
theorem d_K_op_38 : decode M_K_op.2.1 38 = .ok (.ifCond .eq 6, 3) := by decide +kernel
theorem d_K_op_41 : decode M_K_op.2.1 41 = .ok (.bipush (-2), 2) := by decide +kernel
theorem d_K_op_43 : decode M_K_op.2.1 43 = .ok (.ireturn, 1) := by decide +kernel
theorem d_K_op_44 : decode M_K_op.2.1 44 = .ok (.aload 6, 2) := by decide +kernel
theorem d_K_op_46 : decode M_K_op.2.1 46 = .ok (.iload_n 2, 1) := by decide +kernel
theorem d_K_op_47 : decode M_K_op.2.1 47 = .ok (.iload_n 3, 1) := by decide +kernel
theorem d_K_op_48 : decode M_K_op.2.1 48 = .ok (.iload 4, 2) := by decide +kernel
theorem d_K_op_50 : decode M_K_op.2.1 50 = .ok (.iload 5, 2) := by decide +kernel
theorem d_K_op_52 : decode M_K_op.2.1 52 = .ok (.invokevirtual 169, 3) := by decide +kernel
theorem d_K_op_55 : decode M_K_op.2.1 55 = .ok (.aload 6, 2) := by decide +kernel
theorem d_K_op_57 : decode M_K_op.2.1 57 = .ok (.getfield 171, 3) := by decide +kernel
theorem d_K_op_60 : decode M_K_op.2.1 60 = .ok (.iconst 1, 1) := by decide +kernel
theorem d_K_op_61 : decode M_K_op.2.1 61 = .ok (.isub, 1) := by decide +kernel
theorem d_K_op_62 : decode M_K_op.2.1 62 = .ok (.ireturn, 1) := by decide +kernel
theorem d_Program_isInstruction_0 : decode M_Program_isInstruction.2.1 0 = .ok (.iload_n 0, 1) := by decide +kernel
theorem d_Program_isInstruction_1 : decode M_Program_isInstruction.2.1 1 = .ok (.iconst 0, 1) := by decide +kernel
theorem d_Program_isInstruction_2 : decode M_Program_isInstruction.2.1 2 = .ok (.bipush 11, 2) := by decide +kernel
theorem d_Program_isInstruction_4 : decode M_Program_isInstruction.2.1 4 = .ok (.invokestatic 26, 3) := by decide +kernel
theorem d_Program_isInstruction_7 : decode M_Program_isInstruction.2.1 7 = .ok (.ifCond .ne 5, 3) := by decide +kernel
theorem d_Program_isInstruction_10 : decode M_Program_isInstruction.2.1 10 = .ok (.iconst 0, 1) := by decide +kernel
theorem d_Program_isInstruction_11 : decode M_Program_isInstruction.2.1 11 = .ok (.ireturn, 1) := by decide +kernel
theorem d_Program_isInstruction_12 : decode M_Program_isInstruction.2.1 12 = .ok (.iload_n 0, 1) := by decide +kernel
theorem d_Program_isInstruction_13 : decode M_Program_isInstruction.2.1 13 = .ok (.ifCond .eq 8, 3) := by decide +kernel
theorem d_Program_isInstruction_16 : decode M_Program_isInstruction.2.1 16 = .ok (.iload_n 0, 1) := by decide +kernel
theorem d_Program_isInstruction_17 : decode M_Program_isInstruction.2.1 17 = .ok (.iconst 1, 1) := by decide +kernel
theorem d_Program_isInstruction_18 : decode M_Program_isInstruction.2.1 18 = .ok (.if_icmp .ne 11, 3) := by decide +kernel
theorem d_Program_isInstruction_21 : decode M_Program_isInstruction.2.1 21 = .ok (.iload_n 1, 1) := by decide +kernel
theorem d_Program_isInstruction_22 : decode M_Program_isInstruction.2.1 22 = .ok (.iconst 0, 1) := by decide +kernel
theorem d_Program_isInstruction_23 : decode M_Program_isInstruction.2.1 23 = .ok (.bipush 63, 2) := by decide +kernel
theorem d_Program_isInstruction_25 : decode M_Program_isInstruction.2.1 25 = .ok (.invokestatic 26, 3) := by decide +kernel
theorem d_Program_isInstruction_28 : decode M_Program_isInstruction.2.1 28 = .ok (.ireturn, 1) := by decide +kernel
theorem d_Program_isInstruction_29 : decode M_Program_isInstruction.2.1 29 = .ok (.iload_n 0, 1) := by decide +kernel
theorem d_Program_isInstruction_30 : decode M_Program_isInstruction.2.1 30 = .ok (.bipush 6, 2) := by decide +kernel
theorem d_Program_isInstruction_32 : decode M_Program_isInstruction.2.1 32 = .ok (.if_icmp .ne 11, 3) := by decide +kernel
theorem d_Program_isInstruction_35 : decode M_Program_isInstruction.2.1 35 = .ok (.iload_n 1, 1) := by decide +kernel
theorem d_Program_isInstruction_36 : decode M_Program_isInstruction.2.1 36 = .ok (.iconst 0, 1) := by decide +kernel
theorem d_Program_isInstruction_37 : decode M_Program_isInstruction.2.1 37 = .ok (.bipush 31, 2) := by decide +kernel
theorem d_Program_isInstruction_39 : decode M_Program_isInstruction.2.1 39 = .ok (.invokestatic 26, 3) := by decide +kernel
theorem d_Program_isInstruction_42 : decode M_Program_isInstruction.2.1 42 = .ok (.ireturn, 1) := by decide +kernel
theorem d_Program_isInstruction_43 : decode M_Program_isInstruction.2.1 43 = .ok (.iload_n 0, 1) := by decide +kernel
theorem d_Program_isInstruction_44 : decode M_Program_isInstruction.2.1 44 = .ok (.invokestatic 32, 3) := by decide +kernel
theorem d_Program_isInstruction_47 : decode M_Program_isInstruction.2.1 47 = .ok (.ifCond .eq 23, 3) := by decide +kernel
theorem d_Program_isInstruction_50 : decode M_Program_isInstruction.2.1 50 = .ok (.iload_n 2, 1) := by decide +kernel
theorem d_Program_isInstruction_51 : decode M_Program_isInstruction.2.1 51 = .ok (.iconst 0, 1) := by decide +kernel
theorem d_Program_isInstruction_52 : decode M_Program_isInstruction.2.1 52 = .ok (.bipush 15, 2) := by decide +kernel
theorem d_Program_isInstruction_54 : decode M_Program_isInstruction.2.1 54 = .ok (.invokestatic 26, 3) := by decide +kernel
theorem d_Program_isInstruction_57 : decode M_Program_isInstruction.2.1 57 = .ok (.ifCond .eq 17, 3) := by decide +kernel
theorem d_Program_isInstruction_60 : decode M_Program_isInstruction.2.1 60 = .ok (.iload_n 3, 1) := by decide +kernel
theorem d_Program_isInstruction_61 : decode M_Program_isInstruction.2.1 61 = .ok (.iconst 0, 1) := by decide +kernel
theorem d_Program_isInstruction_62 : decode M_Program_isInstruction.2.1 62 = .ok (.bipush 15, 2) := by decide +kernel
theorem d_Program_isInstruction_64 : decode M_Program_isInstruction.2.1 64 = .ok (.invokestatic 26, 3) := by decide +kernel
theorem d_Program_isInstruction_67 : decode M_Program_isInstruction.2.1 67 = .ok (.ifCond .eq 7, 3) := by decide +kernel
theorem d_Program_isInstruction_70 : decode M_Program_isInstruction.2.1 70 = .ok (.iconst 1, 1) := by decide +kernel
theorem d_Program_isInstruction_71 : decode M_Program_isInstruction.2.1 71 = .ok (.goto 4, 3) := by decide +kernel
theorem d_Program_isInstruction_74 : decode M_Program_isInstruction.2.1 74 = .ok (.iconst 0, 1) := by decide +kernel
theorem d_Program_isInstruction_75 : decode M_Program_isInstruction.2.1 75 = .ok (.ireturn, 1) := by decide +kernel
theorem d_Program_isTest_0 : decode M_Program_isTest.2.1 0 = .ok (.iload_n 0, 1) := by decide +kernel
theorem d_Program_isTest_1 : decode M_Program_isTest.2.1 1 = .ok (.bipush 7, 2) := by decide +kernel
theorem d_Program_isTest_3 : decode M_Program_isTest.2.1 3 = .ok (.bipush 9, 2) := by decide +kernel
theorem d_Program_isTest_5 : decode M_Program_isTest.2.1 5 = .ok (.invokestatic 26, 3) := by decide +kernel
theorem d_Program_isTest_8 : decode M_Program_isTest.2.1 8 = .ok (.ireturn, 1) := by decide +kernel
theorem d_Program_isFull_0 : decode M_Program_isFull.2.1 0 = .ok (.aload_n 0, 1) := by decide +kernel
theorem d_Program_isFull_1 : decode M_Program_isFull.2.1 1 = .ok (.getfield 22, 3) := by decide +kernel
theorem d_Program_isFull_4 : decode M_Program_isFull.2.1 4 = .ok (.bipush 16, 2) := by decide +kernel
theorem d_Program_isFull_6 : decode M_Program_isFull.2.1 6 = .ok (.if_icmp .ne 7, 3) := by decide +kernel
theorem d_Program_isFull_9 : decode M_Program_isFull.2.1 9 = .ok (.iconst 1, 1) := by decide +kernel
theorem d_Program_isFull_10 : decode M_Program_isFull.2.1 10 = .ok (.goto 4, 3) := by decide +kernel
theorem d_Program_isFull_13 : decode M_Program_isFull.2.1 13 = .ok (.iconst 0, 1) := by decide +kernel
theorem d_Program_isFull_14 : decode M_Program_isFull.2.1 14 = .ok (.ireturn, 1) := by decide +kernel
theorem d_Program_append_0 : decode M_Program_append.2.1 0 = .ok (.aload_n 0, 1) := by decide +kernel
theorem d_Program_append_1 : decode M_Program_append.2.1 1 = .ok (.getfield 9, 3) := by decide +kernel
theorem d_Program_append_4 : decode M_Program_append.2.1 4 = .ok (.aload_n 0, 1) := by decide +kernel
theorem d_Program_append_5 : decode M_Program_append.2.1 5 = .ok (.getfield 22, 3) := by decide +kernel
theorem d_Program_append_8 : decode M_Program_append.2.1 8 = .ok (.iload_n 1, 1) := by decide +kernel
theorem d_Program_append_9 : decode M_Program_append.2.1 9 = .ok (.iastore, 1) := by decide +kernel
theorem d_Program_append_10 : decode M_Program_append.2.1 10 = .ok (.aload_n 0, 1) := by decide +kernel
theorem d_Program_append_11 : decode M_Program_append.2.1 11 = .ok (.getfield 13, 3) := by decide +kernel
theorem d_Program_append_14 : decode M_Program_append.2.1 14 = .ok (.aload_n 0, 1) := by decide +kernel
theorem d_Program_append_15 : decode M_Program_append.2.1 15 = .ok (.getfield 22, 3) := by decide +kernel
theorem d_Program_append_18 : decode M_Program_append.2.1 18 = .ok (.iload_n 2, 1) := by decide +kernel
theorem d_Program_append_19 : decode M_Program_append.2.1 19 = .ok (.iastore, 1) := by decide +kernel
theorem d_Program_append_20 : decode M_Program_append.2.1 20 = .ok (.aload_n 0, 1) := by decide +kernel
theorem d_Program_append_21 : decode M_Program_append.2.1 21 = .ok (.getfield 16, 3) := by decide +kernel
theorem d_Program_append_24 : decode M_Program_append.2.1 24 = .ok (.aload_n 0, 1) := by decide +kernel
theorem d_Program_append_25 : decode M_Program_append.2.1 25 = .ok (.getfield 22, 3) := by decide +kernel
theorem d_Program_append_28 : decode M_Program_append.2.1 28 = .ok (.iload_n 1, 1) := by decide +kernel
theorem d_Program_append_29 : decode M_Program_append.2.1 29 = .ok (.invokestatic 32, 3) := by decide +kernel
theorem d_Program_append_32 : decode M_Program_append.2.1 32 = .ok (.ifCond .eq 7, 3) := by decide +kernel
theorem d_Program_append_35 : decode M_Program_append.2.1 35 = .ok (.iload_n 3, 1) := by decide +kernel
theorem d_Program_append_36 : decode M_Program_append.2.1 36 = .ok (.goto 4, 3) := by decide +kernel
theorem d_Program_append_39 : decode M_Program_append.2.1 39 = .ok (.iconst 0, 1) := by decide +kernel
theorem d_Program_append_40 : decode M_Program_append.2.1 40 = .ok (.iastore, 1) := by decide +kernel
theorem d_Program_append_41 : decode M_Program_append.2.1 41 = .ok (.aload_n 0, 1) := by decide +kernel
theorem d_Program_append_42 : decode M_Program_append.2.1 42 = .ok (.getfield 19, 3) := by decide +kernel
theorem d_Program_append_45 : decode M_Program_append.2.1 45 = .ok (.aload_n 0, 1) := by decide +kernel
theorem d_Program_append_46 : decode M_Program_append.2.1 46 = .ok (.getfield 22, 3) := by decide +kernel
theorem d_Program_append_49 : decode M_Program_append.2.1 49 = .ok (.iload_n 1, 1) := by decide +kernel
theorem d_Program_append_50 : decode M_Program_append.2.1 50 = .ok (.invokestatic 32, 3) := by decide +kernel
theorem d_Program_append_53 : decode M_Program_append.2.1 53 = .ok (.ifCond .eq 8, 3) := by decide +kernel
theorem d_Program_append_56 : decode M_Program_append.2.1 56 = .ok (.iload 4, 2) := by decide +kernel
theorem d_Program_append_58 : decode M_Program_append.2.1 58 = .ok (.goto 4, 3) := by decide +kernel
theorem d_Program_append_61 : decode M_Program_append.2.1 61 = .ok (.iconst 0, 1) := by decide +kernel
theorem d_Program_append_62 : decode M_Program_append.2.1 62 = .ok (.iastore, 1) := by decide +kernel
theorem d_Program_append_63 : decode M_Program_append.2.1 63 = .ok (.aload_n 0, 1) := by decide +kernel
theorem d_Program_append_64 : decode M_Program_append.2.1 64 = .ok (.dup, 1) := by decide +kernel
theorem d_Program_append_65 : decode M_Program_append.2.1 65 = .ok (.getfield 22, 3) := by decide +kernel
theorem d_Program_append_68 : decode M_Program_append.2.1 68 = .ok (.iconst 1, 1) := by decide +kernel
theorem d_Program_append_69 : decode M_Program_append.2.1 69 = .ok (.iadd, 1) := by decide +kernel
theorem d_Program_append_70 : decode M_Program_append.2.1 70 = .ok (.putfield 22, 3) := by decide +kernel
theorem d_Program_append_73 : decode M_Program_append.2.1 73 = .ok (.return_, 1) := by decide +kernel
theorem d_K_install_0 : decode M_K_install.2.1 0 = .ok (.aload_n 0, 1) := by decide +kernel
theorem d_K_install_1 : decode M_K_install.2.1 1 = .ok (.iload_n 1, 1) := by decide +kernel
theorem d_K_install_2 : decode M_K_install.2.1 2 = .ok (.invokevirtual 84, 3) := by decide +kernel
theorem d_K_install_5 : decode M_K_install.2.1 5 = .ok (.ifCond .ne 5, 3) := by decide +kernel
theorem d_K_install_8 : decode M_K_install.2.1 8 = .ok (.iconst (-1), 1) := by decide +kernel
theorem d_K_install_9 : decode M_K_install.2.1 9 = .ok (.ireturn, 1) := by decide +kernel
theorem d_K_install_10 : decode M_K_install.2.1 10 = .ok (.aload_n 0, 1) := by decide +kernel
theorem d_K_install_11 : decode M_K_install.2.1 11 = .ok (.getfield 49, 3) := by decide +kernel
theorem d_K_install_14 : decode M_K_install.2.1 14 = .ok (.iload_n 1, 1) := by decide +kernel
theorem d_K_install_15 : decode M_K_install.2.1 15 = .ok (.aaload, 1) := by decide +kernel
theorem d_K_install_16 : decode M_K_install.2.1 16 = .ok (.getfield 161, 3) := by decide +kernel
theorem d_K_install_19 : decode M_K_install.2.1 19 = .ok (.invokevirtual 174, 3) := by decide +kernel
theorem d_K_install_22 : decode M_K_install.2.1 22 = .ok (.ifCond .ne 18, 3) := by decide +kernel
theorem d_K_install_25 : decode M_K_install.2.1 25 = .ok (.aload_n 0, 1) := by decide +kernel
theorem d_K_install_26 : decode M_K_install.2.1 26 = .ok (.getfield 49, 3) := by decide +kernel
theorem d_K_install_29 : decode M_K_install.2.1 29 = .ok (.iload_n 1, 1) := by decide +kernel
theorem d_K_install_30 : decode M_K_install.2.1 30 = .ok (.aaload, 1) := by decide +kernel
theorem d_K_install_31 : decode M_K_install.2.1 31 = .ok (.getfield 161, 3) := by decide +kernel
theorem d_K_install_34 : decode M_K_install.2.1 34 = .ok (.invokevirtual 177, 3) := by decide +kernel
theorem d_K_install_37 : decode M_K_install.2.1 37 = .ok (.bipush (-5), 2) := by decide +kernel
theorem d_K_install_39 : decode M_K_install.2.1 39 = .ok (.ireturn, 1) := by decide +kernel
theorem d_K_install_40 : decode M_K_install.2.1 40 = .ok (.aload_n 0, 1) := by decide +kernel
theorem d_K_install_41 : decode M_K_install.2.1 41 = .ok (.getfield 32, 3) := by decide +kernel
theorem d_K_install_44 : decode M_K_install.2.1 44 = .ok (.iload_n 1, 1) := by decide +kernel
theorem d_K_install_45 : decode M_K_install.2.1 45 = .ok (.invokevirtual 92, 3) := by decide +kernel
theorem d_K_install_48 : decode M_K_install.2.1 48 = .ok (.aload_n 0, 1) := by decide +kernel
theorem d_K_install_49 : decode M_K_install.2.1 49 = .ok (.getfield 49, 3) := by decide +kernel
theorem d_K_install_52 : decode M_K_install.2.1 52 = .ok (.iload_n 1, 1) := by decide +kernel
theorem d_K_install_53 : decode M_K_install.2.1 53 = .ok (.aaload, 1) := by decide +kernel
theorem d_K_install_54 : decode M_K_install.2.1 54 = .ok (.getfield 161, 3) := by decide +kernel
theorem d_K_install_57 : decode M_K_install.2.1 57 = .ok (.getfield 171, 3) := by decide +kernel
theorem d_K_install_60 : decode M_K_install.2.1 60 = .ok (.ifCond .le 11, 3) := by decide +kernel
theorem d_K_install_63 : decode M_K_install.2.1 63 = .ok (.aload_n 0, 1) := by decide +kernel
theorem d_K_install_64 : decode M_K_install.2.1 64 = .ok (.getfield 32, 3) := by decide +kernel
theorem d_K_install_67 : decode M_K_install.2.1 67 = .ok (.iload_n 1, 1) := by decide +kernel
theorem d_K_install_68 : decode M_K_install.2.1 68 = .ok (.invokevirtual 180, 3) := by decide +kernel
theorem d_K_install_71 : decode M_K_install.2.1 71 = .ok (.aload_n 0, 1) := by decide +kernel
theorem d_K_install_72 : decode M_K_install.2.1 72 = .ok (.getfield 49, 3) := by decide +kernel
theorem d_K_install_75 : decode M_K_install.2.1 75 = .ok (.iload_n 1, 1) := by decide +kernel
theorem d_K_install_76 : decode M_K_install.2.1 76 = .ok (.aaload, 1) := by decide +kernel
theorem d_K_install_77 : decode M_K_install.2.1 77 = .ok (.invokevirtual 181, 3) := by decide +kernel
theorem d_K_install_80 : decode M_K_install.2.1 80 = .ok (.iconst 0, 1) := by decide +kernel
theorem d_K_install_81 : decode M_K_install.2.1 81 = .ok (.ireturn, 1) := by decide +kernel
theorem d_Program_isSound_0 : decode M_Program_isSound.2.1 0 = .ok (.iconst 0, 1) := by decide +kernel
theorem d_Program_isSound_1 : decode M_Program_isSound.2.1 1 = .ok (.istore_n 1, 1) := by decide +kernel
theorem d_Program_isSound_2 : decode M_Program_isSound.2.1 2 = .ok (.iload_n 1, 1) := by decide +kernel
theorem d_Program_isSound_3 : decode M_Program_isSound.2.1 3 = .ok (.aload_n 0, 1) := by decide +kernel
theorem d_Program_isSound_4 : decode M_Program_isSound.2.1 4 = .ok (.getfield 22, 3) := by decide +kernel
theorem d_Program_isSound_7 : decode M_Program_isSound.2.1 7 = .ok (.if_icmp .ge 50, 3) := by decide +kernel
theorem d_Program_isSound_10 : decode M_Program_isSound.2.1 10 = .ok (.iload_n 1, 1) := by decide +kernel
theorem d_Program_isSound_11 : decode M_Program_isSound.2.1 11 = .ok (.iconst 1, 1) := by decide +kernel
theorem d_Program_isSound_12 : decode M_Program_isSound.2.1 12 = .ok (.iadd, 1) := by decide +kernel
theorem d_Program_isSound_13 : decode M_Program_isSound.2.1 13 = .ok (.aload_n 0, 1) := by decide +kernel
theorem d_Program_isSound_14 : decode M_Program_isSound.2.1 14 = .ok (.getfield 16, 3) := by decide +kernel
theorem d_Program_isSound_17 : decode M_Program_isSound.2.1 17 = .ok (.iload_n 1, 1) := by decide +kernel
theorem d_Program_isSound_18 : decode M_Program_isSound.2.1 18 = .ok (.iaload, 1) := by decide +kernel
theorem d_Program_isSound_19 : decode M_Program_isSound.2.1 19 = .ok (.aload_n 0, 1) := by decide +kernel
theorem d_Program_isSound_20 : decode M_Program_isSound.2.1 20 = .ok (.getfield 19, 3) := by decide +kernel
theorem d_Program_isSound_23 : decode M_Program_isSound.2.1 23 = .ok (.iload_n 1, 1) := by decide +kernel
theorem d_Program_isSound_24 : decode M_Program_isSound.2.1 24 = .ok (.iaload, 1) := by decide +kernel
theorem d_Program_isSound_25 : decode M_Program_isSound.2.1 25 = .ok (.invokestatic 36, 3) := by decide +kernel
theorem d_Program_isSound_28 : decode M_Program_isSound.2.1 28 = .ok (.iadd, 1) := by decide +kernel
theorem d_Program_isSound_29 : decode M_Program_isSound.2.1 29 = .ok (.istore_n 2, 1) := by decide +kernel
theorem d_Program_isSound_30 : decode M_Program_isSound.2.1 30 = .ok (.aload_n 0, 1) := by decide +kernel
theorem d_Program_isSound_31 : decode M_Program_isSound.2.1 31 = .ok (.getfield 9, 3) := by decide +kernel
theorem d_Program_isSound_34 : decode M_Program_isSound.2.1 34 = .ok (.iload_n 1, 1) := by decide +kernel
theorem d_Program_isSound_35 : decode M_Program_isSound.2.1 35 = .ok (.iaload, 1) := by decide +kernel
theorem d_Program_isSound_36 : decode M_Program_isSound.2.1 36 = .ok (.bipush 9, 2) := by decide +kernel
theorem d_Program_isSound_38 : decode M_Program_isSound.2.1 38 = .ok (.if_icmp .gt 13, 3) := by decide +kernel
theorem d_Program_isSound_41 : decode M_Program_isSound.2.1 41 = .ok (.iload_n 2, 1) := by decide +kernel
theorem d_Program_isSound_42 : decode M_Program_isSound.2.1 42 = .ok (.aload_n 0, 1) := by decide +kernel
theorem d_Program_isSound_43 : decode M_Program_isSound.2.1 43 = .ok (.getfield 22, 3) := by decide +kernel
theorem d_Program_isSound_46 : decode M_Program_isSound.2.1 46 = .ok (.if_icmp .lt 5, 3) := by decide +kernel
theorem d_Program_isSound_49 : decode M_Program_isSound.2.1 49 = .ok (.iconst 0, 1) := by decide +kernel
theorem d_Program_isSound_50 : decode M_Program_isSound.2.1 50 = .ok (.ireturn, 1) := by decide +kernel
theorem d_Program_isSound_51 : decode M_Program_isSound.2.1 51 = .ok (.iinc 1 1, 3) := by decide +kernel
theorem d_Program_isSound_54 : decode M_Program_isSound.2.1 54 = .ok (.goto (-52), 3) := by decide +kernel
theorem d_Program_isSound_57 : decode M_Program_isSound.2.1 57 = .ok (.iconst 1, 1) := by decide +kernel
theorem d_Program_isSound_58 : decode M_Program_isSound.2.1 58 = .ok (.ireturn, 1) := by decide +kernel
theorem d_FilterOrder_append_0 : decode M_FilterOrder_append.2.1 0 = .ok (.aload_n 0, 1) := by decide +kernel
theorem d_FilterOrder_append_1 : decode M_FilterOrder_append.2.1 1 = .ok (.getfield 9, 3) := by decide +kernel
theorem d_FilterOrder_append_4 : decode M_FilterOrder_append.2.1 4 = .ok (.aload_n 0, 1) := by decide +kernel
theorem d_FilterOrder_append_5 : decode M_FilterOrder_append.2.1 5 = .ok (.getfield 15, 3) := by decide +kernel
theorem d_FilterOrder_append_8 : decode M_FilterOrder_append.2.1 8 = .ok (.iload_n 1, 1) := by decide +kernel
theorem d_FilterOrder_append_9 : decode M_FilterOrder_append.2.1 9 = .ok (.iastore, 1) := by decide +kernel
theorem d_FilterOrder_append_10 : decode M_FilterOrder_append.2.1 10 = .ok (.aload_n 0, 1) := by decide +kernel
theorem d_FilterOrder_append_11 : decode M_FilterOrder_append.2.1 11 = .ok (.dup, 1) := by decide +kernel
theorem d_FilterOrder_append_12 : decode M_FilterOrder_append.2.1 12 = .ok (.getfield 15, 3) := by decide +kernel
theorem d_FilterOrder_append_15 : decode M_FilterOrder_append.2.1 15 = .ok (.iconst 1, 1) := by decide +kernel
theorem d_FilterOrder_append_16 : decode M_FilterOrder_append.2.1 16 = .ok (.iadd, 1) := by decide +kernel
theorem d_FilterOrder_append_17 : decode M_FilterOrder_append.2.1 17 = .ok (.putfield 15, 3) := by decide +kernel
theorem d_FilterOrder_append_20 : decode M_FilterOrder_append.2.1 20 = .ok (.return_, 1) := by decide +kernel
theorem d_Application_draftBecomesFilter_0 : decode M_Application_draftBecomesFilter.2.1 0 = .ok (.aload_n 0, 1) := by decide +kernel
theorem d_Application_draftBecomesFilter_1 : decode M_Application_draftBecomesFilter.2.1 1 = .ok (.getfield 37, 3) := by decide +kernel
theorem d_Application_draftBecomesFilter_4 : decode M_Application_draftBecomesFilter.2.1 4 = .ok (.astore_n 1, 1) := by decide +kernel
theorem d_Application_draftBecomesFilter_5 : decode M_Application_draftBecomesFilter.2.1 5 = .ok (.aload_n 0, 1) := by decide +kernel
theorem d_Application_draftBecomesFilter_6 : decode M_Application_draftBecomesFilter.2.1 6 = .ok (.aload_n 0, 1) := by decide +kernel
theorem d_Application_draftBecomesFilter_7 : decode M_Application_draftBecomesFilter.2.1 7 = .ok (.getfield 33, 3) := by decide +kernel
theorem d_Application_draftBecomesFilter_10 : decode M_Application_draftBecomesFilter.2.1 10 = .ok (.putfield 37, 3) := by decide +kernel
theorem d_Application_draftBecomesFilter_13 : decode M_Application_draftBecomesFilter.2.1 13 = .ok (.aload_n 0, 1) := by decide +kernel
theorem d_Application_draftBecomesFilter_14 : decode M_Application_draftBecomesFilter.2.1 14 = .ok (.aload_n 1, 1) := by decide +kernel
theorem d_Application_draftBecomesFilter_15 : decode M_Application_draftBecomesFilter.2.1 15 = .ok (.putfield 33, 3) := by decide +kernel
theorem d_Application_draftBecomesFilter_18 : decode M_Application_draftBecomesFilter.2.1 18 = .ok (.aload_n 0, 1) := by decide +kernel
theorem d_Application_draftBecomesFilter_19 : decode M_Application_draftBecomesFilter.2.1 19 = .ok (.getfield 33, 3) := by decide +kernel
theorem d_Application_draftBecomesFilter_22 : decode M_Application_draftBecomesFilter.2.1 22 = .ok (.invokevirtual 57, 3) := by decide +kernel
theorem d_Application_draftBecomesFilter_25 : decode M_Application_draftBecomesFilter.2.1 25 = .ok (.return_, 1) := by decide +kernel
theorem d_K_push_0 : decode M_K_push.2.1 0 = .ok (.iload_n 1, 1) := by decide +kernel
theorem d_K_push_1 : decode M_K_push.2.1 1 = .ok (.iconst 0, 1) := by decide +kernel
theorem d_K_push_2 : decode M_K_push.2.1 2 = .ok (.sipush 255, 3) := by decide +kernel
theorem d_K_push_5 : decode M_K_push.2.1 5 = .ok (.invokestatic 108, 3) := by decide +kernel
theorem d_K_push_8 : decode M_K_push.2.1 8 = .ok (.ifCond .ne 5, 3) := by decide +kernel
theorem d_K_push_11 : decode M_K_push.2.1 11 = .ok (.iconst (-1), 1) := by decide +kernel
theorem d_K_push_12 : decode M_K_push.2.1 12 = .ok (.ireturn, 1) := by decide +kernel
theorem d_K_push_13 : decode M_K_push.2.1 13 = .ok (.aload_n 0, 1) := by decide +kernel
theorem d_K_push_14 : decode M_K_push.2.1 14 = .ok (.getfield 39, 3) := by decide +kernel
theorem d_K_push_17 : decode M_K_push.2.1 17 = .ok (.invokevirtual 184, 3) := by decide +kernel
theorem d_K_push_20 : decode M_K_push.2.1 20 = .ok (.ifCond .eq 6, 3) := by decide +kernel
theorem d_K_push_23 : decode M_K_push.2.1 23 = .ok (.bipush (-2), 2) := by decide +kernel
theorem d_K_push_25 : decode M_K_push.2.1 25 = .ok (.ireturn, 1) := by decide +kernel
theorem d_K_push_26 : decode M_K_push.2.1 26 = .ok (.aload_n 0, 1) := by decide +kernel
theorem d_K_push_27 : decode M_K_push.2.1 27 = .ok (.getfield 39, 3) := by decide +kernel
theorem d_K_push_30 : decode M_K_push.2.1 30 = .ok (.iload_n 1, 1) := by decide +kernel
theorem d_K_push_31 : decode M_K_push.2.1 31 = .ok (.invokevirtual 185, 3) := by decide +kernel
theorem d_K_push_34 : decode M_K_push.2.1 34 = .ok (.aload_n 0, 1) := by decide +kernel
theorem d_K_push_35 : decode M_K_push.2.1 35 = .ok (.getfield 39, 3) := by decide +kernel
theorem d_K_push_38 : decode M_K_push.2.1 38 = .ok (.getfield 186, 3) := by decide +kernel
theorem d_K_push_41 : decode M_K_push.2.1 41 = .ok (.ireturn, 1) := by decide +kernel
theorem d_Frame_isFull_0 : decode M_Frame_isFull.2.1 0 = .ok (.aload_n 0, 1) := by decide +kernel
theorem d_Frame_isFull_1 : decode M_Frame_isFull.2.1 1 = .ok (.getfield 13, 3) := by decide +kernel
theorem d_Frame_isFull_4 : decode M_Frame_isFull.2.1 4 = .ok (.bipush 16, 2) := by decide +kernel
theorem d_Frame_isFull_6 : decode M_Frame_isFull.2.1 6 = .ok (.if_icmp .ne 7, 3) := by decide +kernel
theorem d_Frame_isFull_9 : decode M_Frame_isFull.2.1 9 = .ok (.iconst 1, 1) := by decide +kernel
theorem d_Frame_isFull_10 : decode M_Frame_isFull.2.1 10 = .ok (.goto 4, 3) := by decide +kernel
theorem d_Frame_isFull_13 : decode M_Frame_isFull.2.1 13 = .ok (.iconst 0, 1) := by decide +kernel
theorem d_Frame_isFull_14 : decode M_Frame_isFull.2.1 14 = .ok (.ireturn, 1) := by decide +kernel
theorem d_Frame_append_0 : decode M_Frame_append.2.1 0 = .ok (.aload_n 0, 1) := by decide +kernel
theorem d_Frame_append_1 : decode M_Frame_append.2.1 1 = .ok (.getfield 9, 3) := by decide +kernel
theorem d_Frame_append_4 : decode M_Frame_append.2.1 4 = .ok (.aload_n 0, 1) := by decide +kernel
theorem d_Frame_append_5 : decode M_Frame_append.2.1 5 = .ok (.getfield 13, 3) := by decide +kernel
theorem d_Frame_append_8 : decode M_Frame_append.2.1 8 = .ok (.iload_n 1, 1) := by decide +kernel
theorem d_Frame_append_9 : decode M_Frame_append.2.1 9 = .ok (.iastore, 1) := by decide +kernel
theorem d_Frame_append_10 : decode M_Frame_append.2.1 10 = .ok (.aload_n 0, 1) := by decide +kernel
theorem d_Frame_append_11 : decode M_Frame_append.2.1 11 = .ok (.dup, 1) := by decide +kernel
theorem d_Frame_append_12 : decode M_Frame_append.2.1 12 = .ok (.getfield 13, 3) := by decide +kernel
theorem d_Frame_append_15 : decode M_Frame_append.2.1 15 = .ok (.iconst 1, 1) := by decide +kernel
theorem d_Frame_append_16 : decode M_Frame_append.2.1 16 = .ok (.iadd, 1) := by decide +kernel
theorem d_Frame_append_17 : decode M_Frame_append.2.1 17 = .ok (.putfield 13, 3) := by decide +kernel
theorem d_Frame_append_20 : decode M_Frame_append.2.1 20 = .ok (.return_, 1) := by decide +kernel
theorem d_K_arrive_0 : decode M_K_arrive.2.1 0 = .ok (.aload_n 0, 1) := by decide +kernel
theorem d_K_arrive_1 : decode M_K_arrive.2.1 1 = .ok (.invokevirtual 187, 3) := by decide +kernel
theorem d_K_arrive_4 : decode M_K_arrive.2.1 4 = .ok (.istore_n 1, 1) := by decide +kernel
theorem d_K_arrive_5 : decode M_K_arrive.2.1 5 = .ok (.iload_n 1, 1) := by decide +kernel
theorem d_K_arrive_6 : decode M_K_arrive.2.1 6 = .ok (.iconst (-1), 1) := by decide +kernel
theorem d_K_arrive_7 : decode M_K_arrive.2.1 7 = .ok (.if_icmp .ne 7, 3) := by decide +kernel
theorem d_K_arrive_10 : decode M_K_arrive.2.1 10 = .ok (.iconst (-1), 1) := by decide +kernel
theorem d_K_arrive_11 : decode M_K_arrive.2.1 11 = .ok (.goto 8, 3) := by decide +kernel
theorem d_K_arrive_14 : decode M_K_arrive.2.1 14 = .ok (.aload_n 0, 1) := by decide +kernel
theorem d_K_arrive_15 : decode M_K_arrive.2.1 15 = .ok (.iload_n 1, 1) := by decide +kernel
