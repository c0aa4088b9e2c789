/-! decode rows -/
theorem d_Mo_close_1 : decode M_Mo_close.2.1 1 = .ok (.iload_n 1, 1) := by decide +kernel
theorem d_Mo_close_2 : decode M_Mo_close.2.1 2 = .ok (.invokevirtual 126, 3) := by decide +kernel
theorem d_Mo_close_5 : decode M_Mo_close.2.1 5 = .ok (.ifCond .eq 5, 3) := by decide +kernel
theorem d_Mo_close_8 : decode M_Mo_close.2.1 8 = .ok (.iconst (-1), 1) := by decide +kernel
theorem d_Mo_close_9 : decode M_Mo_close.2.1 9 = .ok (.ireturn, 1) := by decide +kernel
theorem d_Mo_close_10 : decode M_Mo_close.2.1 10 = .ok (.iconst 0, 1) := by decide +kernel
theorem d_Mo_close_11 : decode M_Mo_close.2.1 11 = .ok (.istore_n 2, 1) := by decide +kernel
theorem d_Mo_close_12 : decode M_Mo_close.2.1 12 = .ok (.iload_n 2, 1) := by decide +kernel
theorem d_Mo_close_13 : decode M_Mo_close.2.1 13 = .ok (.aload_n 0, 1) := by decide +kernel
theorem d_Mo_close_14 : decode M_Mo_close.2.1 14 = .ok (.getfield 105, 3) := by decide +kernel
theorem d_Mo_close_17 : decode M_Mo_close.2.1 17 = .ok (.if_icmp .ge 36, 3) := by decide +kernel
theorem d_Mo_close_20 : decode M_Mo_close.2.1 20 = .ok (.aload_n 0, 1) := by decide +kernel
theorem d_Mo_close_21 : decode M_Mo_close.2.1 21 = .ok (.getfield 33, 3) := by decide +kernel
theorem d_Mo_close_24 : decode M_Mo_close.2.1 24 = .ok (.iload_n 2, 1) := by decide +kernel
theorem d_Mo_close_25 : decode M_Mo_close.2.1 25 = .ok (.iaload, 1) := by decide +kernel
theorem d_Mo_close_26 : decode M_Mo_close.2.1 26 = .ok (.iload_n 1, 1) := by decide +kernel
theorem d_Mo_close_27 : decode M_Mo_close.2.1 27 = .ok (.if_icmp .ne 8, 3) := by decide +kernel
theorem d_Mo_close_30 : decode M_Mo_close.2.1 30 = .ok (.aload_n 0, 1) := by decide +kernel
theorem d_Mo_close_31 : decode M_Mo_close.2.1 31 = .ok (.iload_n 2, 1) := by decide +kernel
theorem d_Mo_close_32 : decode M_Mo_close.2.1 32 = .ok (.invokevirtual 130, 3) := by decide +kernel
theorem d_Mo_close_35 : decode M_Mo_close.2.1 35 = .ok (.aload_n 0, 1) := by decide +kernel
theorem d_Mo_close_36 : decode M_Mo_close.2.1 36 = .ok (.getfield 42, 3) := by decide +kernel
theorem d_Mo_close_39 : decode M_Mo_close.2.1 39 = .ok (.iload_n 2, 1) := by decide +kernel
theorem d_Mo_close_40 : decode M_Mo_close.2.1 40 = .ok (.bipush 6, 2) := by decide +kernel
theorem d_Mo_close_42 : decode M_Mo_close.2.1 42 = .ok (.imul, 1) := by decide +kernel
theorem d_Mo_close_43 : decode M_Mo_close.2.1 43 = .ok (.iload_n 1, 1) := by decide +kernel
theorem d_Mo_close_44 : decode M_Mo_close.2.1 44 = .ok (.iadd, 1) := by decide +kernel
theorem d_Mo_close_45 : decode M_Mo_close.2.1 45 = .ok (.iconst 0, 1) := by decide +kernel
theorem d_Mo_close_46 : decode M_Mo_close.2.1 46 = .ok (.iastore, 1) := by decide +kernel
theorem d_Mo_close_47 : decode M_Mo_close.2.1 47 = .ok (.iinc 2 1, 3) := by decide +kernel
theorem d_Mo_close_50 : decode M_Mo_close.2.1 50 = .ok (.goto (-38), 3) := by decide +kernel
theorem d_Mo_close_53 : decode M_Mo_close.2.1 53 = .ok (.iconst 0, 1) := by decide +kernel
theorem d_Mo_close_54 : decode M_Mo_close.2.1 54 = .ok (.istore_n 2, 1) := by decide +kernel
theorem d_Mo_close_55 : decode M_Mo_close.2.1 55 = .ok (.iload_n 2, 1) := by decide +kernel
theorem d_Mo_close_56 : decode M_Mo_close.2.1 56 = .ok (.aload_n 0, 1) := by decide +kernel
theorem d_Mo_close_57 : decode M_Mo_close.2.1 57 = .ok (.getfield 108, 3) := by decide +kernel
theorem d_Mo_close_60 : decode M_Mo_close.2.1 60 = .ok (.if_icmp .ge 26, 3) := by decide +kernel
theorem d_Mo_close_63 : decode M_Mo_close.2.1 63 = .ok (.aload_n 0, 1) := by decide +kernel
theorem d_Mo_close_64 : decode M_Mo_close.2.1 64 = .ok (.getfield 87, 3) := by decide +kernel
theorem d_Mo_close_67 : decode M_Mo_close.2.1 67 = .ok (.iload_n 2, 1) := by decide +kernel
theorem d_Mo_close_68 : decode M_Mo_close.2.1 68 = .ok (.iaload, 1) := by decide +kernel
theorem d_Mo_close_69 : decode M_Mo_close.2.1 69 = .ok (.iload_n 1, 1) := by decide +kernel
theorem d_Mo_close_70 : decode M_Mo_close.2.1 70 = .ok (.if_icmp .ne 10, 3) := by decide +kernel
theorem d_Mo_close_73 : decode M_Mo_close.2.1 73 = .ok (.aload_n 0, 1) := by decide +kernel
theorem d_Mo_close_74 : decode M_Mo_close.2.1 74 = .ok (.getfield 87, 3) := by decide +kernel
theorem d_Mo_close_77 : decode M_Mo_close.2.1 77 = .ok (.iload_n 2, 1) := by decide +kernel
theorem d_Mo_close_78 : decode M_Mo_close.2.1 78 = .ok (.iconst (-1), 1) := by decide +kernel
theorem d_Mo_close_79 : decode M_Mo_close.2.1 79 = .ok (.iastore, 1) := by decide +kernel
theorem d_Mo_close_80 : decode M_Mo_close.2.1 80 = .ok (.iinc 2 1, 3) := by decide +kernel
theorem d_Mo_close_83 : decode M_Mo_close.2.1 83 = .ok (.goto (-28), 3) := by decide +kernel
theorem d_Mo_close_86 : decode M_Mo_close.2.1 86 = .ok (.aload_n 0, 1) := by decide +kernel
theorem d_Mo_close_87 : decode M_Mo_close.2.1 87 = .ok (.iload_n 1, 1) := by decide +kernel
theorem d_Mo_close_88 : decode M_Mo_close.2.1 88 = .ok (.invokevirtual 134, 3) := by decide +kernel
theorem d_Mo_close_91 : decode M_Mo_close.2.1 91 = .ok (.aload_n 0, 1) := by decide +kernel
theorem d_Mo_close_92 : decode M_Mo_close.2.1 92 = .ok (.getfield 7, 3) := by decide +kernel
theorem d_Mo_close_95 : decode M_Mo_close.2.1 95 = .ok (.iload_n 1, 1) := by decide +kernel
theorem d_Mo_close_96 : decode M_Mo_close.2.1 96 = .ok (.iconst 0, 1) := by decide +kernel
theorem d_Mo_close_97 : decode M_Mo_close.2.1 97 = .ok (.bastore, 1) := by decide +kernel
theorem d_Mo_close_98 : decode M_Mo_close.2.1 98 = .ok (.iconst 0, 1) := by decide +kernel
theorem d_Mo_close_99 : decode M_Mo_close.2.1 99 = .ok (.ireturn, 1) := by decide +kernel
theorem d_Mo_shut_0 : decode M_Mo_shut.2.1 0 = .ok (.aload_n 0, 1) := by decide +kernel
theorem d_Mo_shut_1 : decode M_Mo_shut.2.1 1 = .ok (.iload_n 1, 1) := by decide +kernel
theorem d_Mo_shut_2 : decode M_Mo_shut.2.1 2 = .ok (.bipush 6, 2) := by decide +kernel
theorem d_Mo_shut_4 : decode M_Mo_shut.2.1 4 = .ok (.invokevirtual 111, 3) := by decide +kernel
theorem d_Mo_shut_7 : decode M_Mo_shut.2.1 7 = .ok (.ifCond .ne 12, 3) := by decide +kernel
theorem d_Mo_shut_10 : decode M_Mo_shut.2.1 10 = .ok (.aload_n 0, 1) := by decide +kernel
theorem d_Mo_shut_11 : decode M_Mo_shut.2.1 11 = .ok (.getfield 7, 3) := by decide +kernel
theorem d_Mo_shut_14 : decode M_Mo_shut.2.1 14 = .ok (.iload_n 1, 1) := by decide +kernel
theorem d_Mo_shut_15 : decode M_Mo_shut.2.1 15 = .ok (.baload, 1) := by decide +kernel
theorem d_Mo_shut_16 : decode M_Mo_shut.2.1 16 = .ok (.ifCond .ne 7, 3) := by decide +kernel
theorem d_Mo_shut_19 : decode M_Mo_shut.2.1 19 = .ok (.iconst 1, 1) := by decide +kernel
theorem d_Mo_shut_20 : decode M_Mo_shut.2.1 20 = .ok (.goto 4, 3) := by decide +kernel
theorem d_Mo_shut_23 : decode M_Mo_shut.2.1 23 = .ok (.iconst 0, 1) := by decide +kernel
theorem d_Mo_shut_24 : decode M_Mo_shut.2.1 24 = .ok (.ireturn, 1) := by decide +kernel
theorem d_Mo_free_0 : decode M_Mo_free.2.1 0 = .ok (.aload_n 0, 1) := by decide +kernel
theorem d_Mo_free_1 : decode M_Mo_free.2.1 1 = .ok (.getfield 33, 3) := by decide +kernel
theorem d_Mo_free_4 : decode M_Mo_free.2.1 4 = .ok (.iload_n 1, 1) := by decide +kernel
theorem d_Mo_free_5 : decode M_Mo_free.2.1 5 = .ok (.iconst (-1), 1) := by decide +kernel
theorem d_Mo_free_6 : decode M_Mo_free.2.1 6 = .ok (.iastore, 1) := by decide +kernel
theorem d_Mo_free_7 : decode M_Mo_free.2.1 7 = .ok (.aload_n 0, 1) := by decide +kernel
theorem d_Mo_free_8 : decode M_Mo_free.2.1 8 = .ok (.getfield 39, 3) := by decide +kernel
theorem d_Mo_free_11 : decode M_Mo_free.2.1 11 = .ok (.iload_n 1, 1) := by decide +kernel
theorem d_Mo_free_12 : decode M_Mo_free.2.1 12 = .ok (.iconst 0, 1) := by decide +kernel
theorem d_Mo_free_13 : decode M_Mo_free.2.1 13 = .ok (.iastore, 1) := by decide +kernel
theorem d_Mo_free_14 : decode M_Mo_free.2.1 14 = .ok (.iconst 0, 1) := by decide +kernel
theorem d_Mo_free_15 : decode M_Mo_free.2.1 15 = .ok (.istore_n 2, 1) := by decide +kernel
theorem d_Mo_free_16 : decode M_Mo_free.2.1 16 = .ok (.iload_n 2, 1) := by decide +kernel
theorem d_Mo_free_17 : decode M_Mo_free.2.1 17 = .ok (.bipush 6, 2) := by decide +kernel
theorem d_Mo_free_19 : decode M_Mo_free.2.1 19 = .ok (.if_icmp .ge 21, 3) := by decide +kernel
theorem d_Mo_free_22 : decode M_Mo_free.2.1 22 = .ok (.aload_n 0, 1) := by decide +kernel
theorem d_Mo_free_23 : decode M_Mo_free.2.1 23 = .ok (.getfield 42, 3) := by decide +kernel
theorem d_Mo_free_26 : decode M_Mo_free.2.1 26 = .ok (.iload_n 1, 1) := by decide +kernel
theorem d_Mo_free_27 : decode M_Mo_free.2.1 27 = .ok (.bipush 6, 2) := by decide +kernel
theorem d_Mo_free_29 : decode M_Mo_free.2.1 29 = .ok (.imul, 1) := by decide +kernel
theorem d_Mo_free_30 : decode M_Mo_free.2.1 30 = .ok (.iload_n 2, 1) := by decide +kernel
theorem d_Mo_free_31 : decode M_Mo_free.2.1 31 = .ok (.iadd, 1) := by decide +kernel
theorem d_Mo_free_32 : decode M_Mo_free.2.1 32 = .ok (.iconst 0, 1) := by decide +kernel
theorem d_Mo_free_33 : decode M_Mo_free.2.1 33 = .ok (.iastore, 1) := by decide +kernel
theorem d_Mo_free_34 : decode M_Mo_free.2.1 34 = .ok (.iinc 2 1, 3) := by decide +kernel
theorem d_Mo_free_37 : decode M_Mo_free.2.1 37 = .ok (.goto (-21), 3) := by decide +kernel
theorem d_Mo_free_40 : decode M_Mo_free.2.1 40 = .ok (.return_, 1) := by decide +kernel
theorem d_Mo_withdraw_0 : decode M_Mo_withdraw.2.1 0 = .ok (.iconst 0, 1) := by decide +kernel
theorem d_Mo_withdraw_1 : decode M_Mo_withdraw.2.1 1 = .ok (.istore_n 2, 1) := by decide +kernel
theorem d_Mo_withdraw_2 : decode M_Mo_withdraw.2.1 2 = .ok (.iconst 0, 1) := by decide +kernel
theorem d_Mo_withdraw_3 : decode M_Mo_withdraw.2.1 3 = .ok (.istore_n 3, 1) := by decide +kernel
theorem d_Mo_withdraw_4 : decode M_Mo_withdraw.2.1 4 = .ok (.iload_n 3, 1) := by decide +kernel
theorem d_Mo_withdraw_5 : decode M_Mo_withdraw.2.1 5 = .ok (.aload_n 0, 1) := by decide +kernel
theorem d_Mo_withdraw_6 : decode M_Mo_withdraw.2.1 6 = .ok (.getfield 63, 3) := by decide +kernel
theorem d_Mo_withdraw_9 : decode M_Mo_withdraw.2.1 9 = .ok (.if_icmp .ge 37, 3) := by decide +kernel
theorem d_Mo_withdraw_12 : decode M_Mo_withdraw.2.1 12 = .ok (.aload_n 0, 1) := by decide +kernel
theorem d_Mo_withdraw_13 : decode M_Mo_withdraw.2.1 13 = .ok (.getfield 60, 3) := by decide +kernel
theorem d_Mo_withdraw_16 : decode M_Mo_withdraw.2.1 16 = .ok (.iload_n 3, 1) := by decide +kernel
theorem d_Mo_withdraw_17 : decode M_Mo_withdraw.2.1 17 = .ok (.iaload, 1) := by decide +kernel
theorem d_Mo_withdraw_18 : decode M_Mo_withdraw.2.1 18 = .ok (.iload_n 1, 1) := by decide +kernel
theorem d_Mo_withdraw_19 : decode M_Mo_withdraw.2.1 19 = .ok (.if_icmp .ne 6, 3) := by decide +kernel
theorem d_Mo_withdraw_22 : decode M_Mo_withdraw.2.1 22 = .ok (.goto 18, 3) := by decide +kernel
theorem d_Mo_withdraw_25 : decode M_Mo_withdraw.2.1 25 = .ok (.aload_n 0, 1) := by decide +kernel
theorem d_Mo_withdraw_26 : decode M_Mo_withdraw.2.1 26 = .ok (.getfield 60, 3) := by decide +kernel
theorem d_Mo_withdraw_29 : decode M_Mo_withdraw.2.1 29 = .ok (.iload_n 2, 1) := by decide +kernel
theorem d_Mo_withdraw_30 : decode M_Mo_withdraw.2.1 30 = .ok (.aload_n 0, 1) := by decide +kernel
theorem d_Mo_withdraw_31 : decode M_Mo_withdraw.2.1 31 = .ok (.getfield 60, 3) := by decide +kernel
theorem d_Mo_withdraw_34 : decode M_Mo_withdraw.2.1 34 = .ok (.iload_n 3, 1) := by decide +kernel
theorem d_Mo_withdraw_35 : decode M_Mo_withdraw.2.1 35 = .ok (.iaload, 1) := by decide +kernel
theorem d_Mo_withdraw_36 : decode M_Mo_withdraw.2.1 36 = .ok (.iastore, 1) := by decide +kernel
theorem d_Mo_withdraw_37 : decode M_Mo_withdraw.2.1 37 = .ok (.iinc 2 1, 3) := by decide +kernel
theorem d_Mo_withdraw_40 : decode M_Mo_withdraw.2.1 40 = .ok (.iinc 3 1, 3) := by decide +kernel
theorem d_Mo_withdraw_43 : decode M_Mo_withdraw.2.1 43 = .ok (.goto (-39), 3) := by decide +kernel
theorem d_Mo_withdraw_46 : decode M_Mo_withdraw.2.1 46 = .ok (.aload_n 0, 1) := by decide +kernel
theorem d_Mo_withdraw_47 : decode M_Mo_withdraw.2.1 47 = .ok (.iload_n 2, 1) := by decide +kernel
theorem d_Mo_withdraw_48 : decode M_Mo_withdraw.2.1 48 = .ok (.putfield 63, 3) := by decide +kernel
theorem d_Mo_withdraw_51 : decode M_Mo_withdraw.2.1 51 = .ok (.return_, 1) := by decide +kernel
theorem d_Mo_take_0 : decode M_Mo_take.2.1 0 = .ok (.aload_n 0, 1) := by decide +kernel
theorem d_Mo_take_1 : decode M_Mo_take.2.1 1 = .ok (.iload_n 1, 1) := by decide +kernel
theorem d_Mo_take_2 : decode M_Mo_take.2.1 2 = .ok (.invokevirtual 126, 3) := by decide +kernel
theorem d_Mo_take_5 : decode M_Mo_take.2.1 5 = .ok (.ifCond .eq 5, 3) := by decide +kernel
theorem d_Mo_take_8 : decode M_Mo_take.2.1 8 = .ok (.iconst (-1), 1) := by decide +kernel
theorem d_Mo_take_9 : decode M_Mo_take.2.1 9 = .ok (.ireturn, 1) := by decide +kernel
theorem d_Mo_take_10 : decode M_Mo_take.2.1 10 = .ok (.iconst 0, 1) := by decide +kernel
theorem d_Mo_take_11 : decode M_Mo_take.2.1 11 = .ok (.istore_n 2, 1) := by decide +kernel
theorem d_Mo_take_12 : decode M_Mo_take.2.1 12 = .ok (.iload_n 2, 1) := by decide +kernel
theorem d_Mo_take_13 : decode M_Mo_take.2.1 13 = .ok (.aload_n 0, 1) := by decide +kernel
theorem d_Mo_take_14 : decode M_Mo_take.2.1 14 = .ok (.getfield 105, 3) := by decide +kernel
theorem d_Mo_take_17 : decode M_Mo_take.2.1 17 = .ok (.if_icmp .ge 18, 3) := by decide +kernel
theorem d_Mo_take_20 : decode M_Mo_take.2.1 20 = .ok (.aload_n 0, 1) := by decide +kernel
theorem d_Mo_take_21 : decode M_Mo_take.2.1 21 = .ok (.getfield 33, 3) := by decide +kernel
theorem d_Mo_take_24 : decode M_Mo_take.2.1 24 = .ok (.iload_n 2, 1) := by decide +kernel
theorem d_Mo_take_25 : decode M_Mo_take.2.1 25 = .ok (.iaload, 1) := by decide +kernel
theorem d_Mo_take_26 : decode M_Mo_take.2.1 26 = .ok (.ifCond .lt 9, 3) := by decide +kernel
theorem d_Mo_take_29 : decode M_Mo_take.2.1 29 = .ok (.iinc 2 1, 3) := by decide +kernel
theorem d_Mo_take_32 : decode M_Mo_take.2.1 32 = .ok (.goto (-20), 3) := by decide +kernel
theorem d_Mo_take_35 : decode M_Mo_take.2.1 35 = .ok (.iload_n 2, 1) := by decide +kernel
theorem d_Mo_take_36 : decode M_Mo_take.2.1 36 = .ok (.aload_n 0, 1) := by decide +kernel
theorem d_Mo_take_37 : decode M_Mo_take.2.1 37 = .ok (.getfield 105, 3) := by decide +kernel
theorem d_Mo_take_40 : decode M_Mo_take.2.1 40 = .ok (.if_icmp .ne 6, 3) := by decide +kernel
theorem d_Mo_take_43 : decode M_Mo_take.2.1 43 = .ok (.bipush (-2), 2) := by decide +kernel
theorem d_Mo_take_45 : decode M_Mo_take.2.1 45 = .ok (.ireturn, 1) := by decide +kernel
theorem d_Mo_take_46 : decode M_Mo_take.2.1 46 = .ok (.aload_n 0, 1) := by decide +kernel
theorem d_Mo_take_47 : decode M_Mo_take.2.1 47 = .ok (.getfield 33, 3) := by decide +kernel
theorem d_Mo_take_50 : decode M_Mo_take.2.1 50 = .ok (.iload_n 2, 1) := by decide +kernel
theorem d_Mo_take_51 : decode M_Mo_take.2.1 51 = .ok (.iload_n 1, 1) := by decide +kernel
theorem d_Mo_take_52 : decode M_Mo_take.2.1 52 = .ok (.iastore, 1) := by decide +kernel
theorem d_Mo_take_53 : decode M_Mo_take.2.1 53 = .ok (.aload_n 0, 1) := by decide +kernel
theorem d_Mo_take_54 : decode M_Mo_take.2.1 54 = .ok (.dup, 1) := by decide +kernel
theorem d_Mo_take_55 : decode M_Mo_take.2.1 55 = .ok (.getfield 27, 3) := by decide +kernel
theorem d_Mo_take_58 : decode M_Mo_take.2.1 58 = .ok (.iconst 1, 1) := by decide +kernel
theorem d_Mo_take_59 : decode M_Mo_take.2.1 59 = .ok (.iadd, 1) := by decide +kernel
theorem d_Mo_take_60 : decode M_Mo_take.2.1 60 = .ok (.putfield 27, 3) := by decide +kernel
theorem d_Mo_take_63 : decode M_Mo_take.2.1 63 = .ok (.aload_n 0, 1) := by decide +kernel
theorem d_Mo_take_64 : decode M_Mo_take.2.1 64 = .ok (.getfield 36, 3) := by decide +kernel
theorem d_Mo_take_67 : decode M_Mo_take.2.1 67 = .ok (.iload_n 2, 1) := by decide +kernel
theorem d_Mo_take_68 : decode M_Mo_take.2.1 68 = .ok (.aload_n 0, 1) := by decide +kernel
theorem d_Mo_take_69 : decode M_Mo_take.2.1 69 = .ok (.getfield 27, 3) := by decide +kernel
theorem d_Mo_take_72 : decode M_Mo_take.2.1 72 = .ok (.iastore, 1) := by decide +kernel
theorem d_Mo_take_73 : decode M_Mo_take.2.1 73 = .ok (.iconst 0, 1) := by decide +kernel
theorem d_Mo_take_74 : decode M_Mo_take.2.1 74 = .ok (.istore_n 3, 1) := by decide +kernel
theorem d_Mo_take_75 : decode M_Mo_take.2.1 75 = .ok (.iload_n 3, 1) := by decide +kernel
theorem d_Mo_take_76 : decode M_Mo_take.2.1 76 = .ok (.iconst 4, 1) := by decide +kernel
theorem d_Mo_take_77 : decode M_Mo_take.2.1 77 = .ok (.if_icmp .ge 20, 3) := by decide +kernel
theorem d_Mo_take_80 : decode M_Mo_take.2.1 80 = .ok (.aload_n 0, 1) := by decide +kernel
theorem d_Mo_take_81 : decode M_Mo_take.2.1 81 = .ok (.getfield 45, 3) := by decide +kernel
theorem d_Mo_take_84 : decode M_Mo_take.2.1 84 = .ok (.iload_n 2, 1) := by decide +kernel
theorem d_Mo_take_85 : decode M_Mo_take.2.1 85 = .ok (.iconst 4, 1) := by decide +kernel
theorem d_Mo_take_86 : decode M_Mo_take.2.1 86 = .ok (.imul, 1) := by decide +kernel
theorem d_Mo_take_87 : decode M_Mo_take.2.1 87 = .ok (.iload_n 3, 1) := by decide +kernel
theorem d_Mo_take_88 : decode M_Mo_take.2.1 88 = .ok (.iadd, 1) := by decide +kernel
theorem d_Mo_take_89 : decode M_Mo_take.2.1 89 = .ok (.iconst 0, 1) := by decide +kernel
theorem d_Mo_take_90 : decode M_Mo_take.2.1 90 = .ok (.iastore, 1) := by decide +kernel
theorem d_Mo_take_91 : decode M_Mo_take.2.1 91 = .ok (.iinc 3 1, 3) := by decide +kernel
theorem d_Mo_take_94 : decode M_Mo_take.2.1 94 = .ok (.goto (-19), 3) := by decide +kernel
theorem d_Mo_take_97 : decode M_Mo_take.2.1 97 = .ok (.iload_n 2, 1) := by decide +kernel
theorem d_Mo_take_98 : decode M_Mo_take.2.1 98 = .ok (.ireturn, 1) := by decide +kernel
theorem d_Mo_release_0 : decode M_Mo_release.2.1 0 = .ok (.aload_n 0, 1) := by decide +kernel
theorem d_Mo_release_1 : decode M_Mo_release.2.1 1 = .ok (.iload_n 2, 1) := by decide +kernel
theorem d_Mo_release_2 : decode M_Mo_release.2.1 2 = .ok (.aload_n 0, 1) := by decide +kernel
theorem d_Mo_release_3 : decode M_Mo_release.2.1 3 = .ok (.getfield 105, 3) := by decide +kernel
theorem d_Mo_release_6 : decode M_Mo_release.2.1 6 = .ok (.invokevirtual 111, 3) := by decide +kernel
theorem d_Mo_release_9 : decode M_Mo_release.2.1 9 = .ok (.ifCond .ne 21, 3) := by decide +kernel
theorem d_Mo_release_12 : decode M_Mo_release.2.1 12 = .ok (.aload_n 0, 1) := by decide +kernel
theorem d_Mo_release_13 : decode M_Mo_release.2.1 13 = .ok (.iload_n 1, 1) := by decide +kernel
theorem d_Mo_release_14 : decode M_Mo_release.2.1 14 = .ok (.invokevirtual 126, 3) := by decide +kernel
theorem d_Mo_release_17 : decode M_Mo_release.2.1 17 = .ok (.ifCond .ne 13, 3) := by decide +kernel
theorem d_Mo_release_20 : decode M_Mo_release.2.1 20 = .ok (.aload_n 0, 1) := by decide +kernel
theorem d_Mo_release_21 : decode M_Mo_release.2.1 21 = .ok (.getfield 33, 3) := by decide +kernel
theorem d_Mo_release_24 : decode M_Mo_release.2.1 24 = .ok (.iload_n 2, 1) := by decide +kernel
theorem d_Mo_release_25 : decode M_Mo_release.2.1 25 = .ok (.iaload, 1) := by decide +kernel
theorem d_Mo_release_26 : decode M_Mo_release.2.1 26 = .ok (.iload_n 1, 1) := by decide +kernel
theorem d_Mo_release_27 : decode M_Mo_release.2.1 27 = .ok (.if_icmp .eq 5, 3) := by decide +kernel
theorem d_Mo_release_30 : decode M_Mo_release.2.1 30 = .ok (.iconst (-1), 1) := by decide +kernel
theorem d_Mo_release_31 : decode M_Mo_release.2.1 31 = .ok (.ireturn, 1) := by decide +kernel
theorem d_Mo_release_32 : decode M_Mo_release.2.1 32 = .ok (.aload_n 0, 1) := by decide +kernel
theorem d_Mo_release_33 : decode M_Mo_release.2.1 33 = .ok (.iload_n 2, 1) := by decide +kernel
theorem d_Mo_release_34 : decode M_Mo_release.2.1 34 = .ok (.invokevirtual 130, 3) := by decide +kernel
theorem d_Mo_release_37 : decode M_Mo_release.2.1 37 = .ok (.iconst 0, 1) := by decide +kernel
theorem d_Mo_release_38 : decode M_Mo_release.2.1 38 = .ok (.ireturn, 1) := by decide +kernel
theorem d_Mo_share_0 : decode M_Mo_share.2.1 0 = .ok (.aload_n 0, 1) := by decide +kernel
theorem d_Mo_share_1 : decode M_Mo_share.2.1 1 = .ok (.iload_n 2, 1) := by decide +kernel
theorem d_Mo_share_2 : decode M_Mo_share.2.1 2 = .ok (.aload_n 0, 1) := by decide +kernel
theorem d_Mo_share_3 : decode M_Mo_share.2.1 3 = .ok (.getfield 105, 3) := by decide +kernel
theorem d_Mo_share_6 : decode M_Mo_share.2.1 6 = .ok (.invokevirtual 111, 3) := by decide +kernel
theorem d_Mo_share_9 : decode M_Mo_share.2.1 9 = .ok (.ifCond .ne 31, 3) := by decide +kernel
theorem d_Mo_share_12 : decode M_Mo_share.2.1 12 = .ok (.aload_n 0, 1) := by decide +kernel
theorem d_Mo_share_13 : decode M_Mo_share.2.1 13 = .ok (.iload_n 3, 1) := by decide +kernel
theorem d_Mo_share_14 : decode M_Mo_share.2.1 14 = .ok (.bipush 6, 2) := by decide +kernel
theorem d_Mo_share_16 : decode M_Mo_share.2.1 16 = .ok (.invokevirtual 111, 3) := by decide +kernel
theorem d_Mo_share_19 : decode M_Mo_share.2.1 19 = .ok (.ifCond .ne 21, 3) := by decide +kernel
theorem d_Mo_share_22 : decode M_Mo_share.2.1 22 = .ok (.aload_n 0, 1) := by decide +kernel
theorem d_Mo_share_23 : decode M_Mo_share.2.1 23 = .ok (.iload 4, 2) := by decide +kernel
theorem d_Mo_share_25 : decode M_Mo_share.2.1 25 = .ok (.iconst 3, 1) := by decide +kernel
theorem d_Mo_share_26 : decode M_Mo_share.2.1 26 = .ok (.invokevirtual 111, 3) := by decide +kernel
theorem d_Mo_share_29 : decode M_Mo_share.2.1 29 = .ok (.ifCond .ne 11, 3) := by decide +kernel
theorem d_Mo_share_32 : decode M_Mo_share.2.1 32 = .ok (.aload_n 0, 1) := by decide +kernel
theorem d_Mo_share_33 : decode M_Mo_share.2.1 33 = .ok (.iload_n 1, 1) := by decide +kernel
theorem d_Mo_share_34 : decode M_Mo_share.2.1 34 = .ok (.invokevirtual 126, 3) := by decide +kernel
theorem d_Mo_share_37 : decode M_Mo_share.2.1 37 = .ok (.ifCond .eq 5, 3) := by decide +kernel
theorem d_Mo_share_40 : decode M_Mo_share.2.1 40 = .ok (.iconst (-1), 1) := by decide +kernel
theorem d_Mo_share_41 : decode M_Mo_share.2.1 41 = .ok (.ireturn, 1) := by decide +kernel
theorem d_Mo_share_42 : decode M_Mo_share.2.1 42 = .ok (.aload_n 0, 1) := by decide +kernel
theorem d_Mo_share_43 : decode M_Mo_share.2.1 43 = .ok (.getfield 33, 3) := by decide +kernel
theorem d_Mo_share_46 : decode M_Mo_share.2.1 46 = .ok (.iload_n 2, 1) := by decide +kernel
theorem d_Mo_share_47 : decode M_Mo_share.2.1 47 = .ok (.iaload, 1) := by decide +kernel
theorem d_Mo_share_48 : decode M_Mo_share.2.1 48 = .ok (.iload_n 1, 1) := by decide +kernel
theorem d_Mo_share_49 : decode M_Mo_share.2.1 49 = .ok (.if_icmp .ne 17, 3) := by decide +kernel
theorem d_Mo_share_52 : decode M_Mo_share.2.1 52 = .ok (.iload_n 3, 1) := by decide +kernel
theorem d_Mo_share_53 : decode M_Mo_share.2.1 53 = .ok (.iload_n 1, 1) := by decide +kernel
theorem d_Mo_share_54 : decode M_Mo_share.2.1 54 = .ok (.if_icmp .eq 12, 3) := by decide +kernel
theorem d_Mo_share_57 : decode M_Mo_share.2.1 57 = .ok (.aload_n 0, 1) := by decide +kernel
theorem d_Mo_share_58 : decode M_Mo_share.2.1 58 = .ok (.getfield 7, 3) := by decide +kernel
theorem d_Mo_share_61 : decode M_Mo_share.2.1 61 = .ok (.iload_n 3, 1) := by decide +kernel
theorem d_Mo_share_62 : decode M_Mo_share.2.1 62 = .ok (.baload, 1) := by decide +kernel
theorem d_Mo_share_63 : decode M_Mo_share.2.1 63 = .ok (.ifCond .ne 5, 3) := by decide +kernel
theorem d_Mo_share_66 : decode M_Mo_share.2.1 66 = .ok (.iconst (-1), 1) := by decide +kernel
theorem d_Mo_share_67 : decode M_Mo_share.2.1 67 = .ok (.ireturn, 1) := by decide +kernel
theorem d_Mo_share_68 : decode M_Mo_share.2.1 68 = .ok (.aload_n 0, 1) := by decide +kernel
theorem d_Mo_share_69 : decode M_Mo_share.2.1 69 = .ok (.getfield 42, 3) := by decide +kernel
theorem d_Mo_share_72 : decode M_Mo_share.2.1 72 = .ok (.iload_n 2, 1) := by decide +kernel
theorem d_Mo_share_73 : decode M_Mo_share.2.1 73 = .ok (.bipush 6, 2) := by decide +kernel
theorem d_Mo_share_75 : decode M_Mo_share.2.1 75 = .ok (.imul, 1) := by decide +kernel
theorem d_Mo_share_76 : decode M_Mo_share.2.1 76 = .ok (.iload_n 3, 1) := by decide +kernel
theorem d_Mo_share_77 : decode M_Mo_share.2.1 77 = .ok (.iadd, 1) := by decide +kernel
theorem d_Mo_share_78 : decode M_Mo_share.2.1 78 = .ok (.iload 4, 2) := by decide +kernel
theorem d_Mo_share_80 : decode M_Mo_share.2.1 80 = .ok (.iastore, 1) := by decide +kernel
theorem d_Mo_share_81 : decode M_Mo_share.2.1 81 = .ok (.iconst 0, 1) := by decide +kernel
theorem d_Mo_share_82 : decode M_Mo_share.2.1 82 = .ok (.ireturn, 1) := by decide +kernel
theorem d_Mo_store_0 : decode M_Mo_store.2.1 0 = .ok (.aload_n 0, 1) := by decide +kernel
theorem d_Mo_store_1 : decode M_Mo_store.2.1 1 = .ok (.iload_n 2, 1) := by decide +kernel
theorem d_Mo_store_2 : decode M_Mo_store.2.1 2 = .ok (.aload_n 0, 1) := by decide +kernel
theorem d_Mo_store_3 : decode M_Mo_store.2.1 3 = .ok (.getfield 105, 3) := by decide +kernel
theorem d_Mo_store_6 : decode M_Mo_store.2.1 6 = .ok (.invokevirtual 111, 3) := by decide +kernel
theorem d_Mo_store_9 : decode M_Mo_store.2.1 9 = .ok (.ifCond .ne 20, 3) := by decide +kernel
theorem d_Mo_store_12 : decode M_Mo_store.2.1 12 = .ok (.aload_n 0, 1) := by decide +kernel
theorem d_Mo_store_13 : decode M_Mo_store.2.1 13 = .ok (.iload_n 3, 1) := by decide +kernel
theorem d_Mo_store_14 : decode M_Mo_store.2.1 14 = .ok (.iconst 4, 1) := by decide +kernel
theorem d_Mo_store_15 : decode M_Mo_store.2.1 15 = .ok (.invokevirtual 111, 3) := by decide +kernel
theorem d_Mo_store_18 : decode M_Mo_store.2.1 18 = .ok (.ifCond .ne 11, 3) := by decide +kernel
theorem d_Mo_store_21 : decode M_Mo_store.2.1 21 = .ok (.aload_n 0, 1) := by decide +kernel
theorem d_Mo_store_22 : decode M_Mo_store.2.1 22 = .ok (.iload_n 1, 1) := by decide +kernel
theorem d_Mo_store_23 : decode M_Mo_store.2.1 23 = .ok (.invokevirtual 126, 3) := by decide +kernel
theorem d_Mo_store_26 : decode M_Mo_store.2.1 26 = .ok (.ifCond .eq 5, 3) := by decide +kernel
theorem d_Mo_store_29 : decode M_Mo_store.2.1 29 = .ok (.iconst (-1), 1) := by decide +kernel
theorem d_Mo_store_30 : decode M_Mo_store.2.1 30 = .ok (.ireturn, 1) := by decide +kernel
theorem d_Mo_store_31 : decode M_Mo_store.2.1 31 = .ok (.aload_n 0, 1) := by decide +kernel
theorem d_Mo_store_32 : decode M_Mo_store.2.1 32 = .ok (.getfield 33, 3) := by decide +kernel
theorem d_Mo_store_35 : decode M_Mo_store.2.1 35 = .ok (.iload_n 2, 1) := by decide +kernel
theorem d_Mo_store_36 : decode M_Mo_store.2.1 36 = .ok (.iaload, 1) := by decide +kernel
theorem d_Mo_store_37 : decode M_Mo_store.2.1 37 = .ok (.iload_n 1, 1) := by decide +kernel
theorem d_Mo_store_38 : decode M_Mo_store.2.1 38 = .ok (.if_icmp .eq 20, 3) := by decide +kernel
theorem d_Mo_store_41 : decode M_Mo_store.2.1 41 = .ok (.aload_n 0, 1) := by decide +kernel
theorem d_Mo_store_42 : decode M_Mo_store.2.1 42 = .ok (.getfield 42, 3) := by decide +kernel
theorem d_Mo_store_45 : decode M_Mo_store.2.1 45 = .ok (.iload_n 2, 1) := by decide +kernel
theorem d_Mo_store_46 : decode M_Mo_store.2.1 46 = .ok (.bipush 6, 2) := by decide +kernel
theorem d_Mo_store_48 : decode M_Mo_store.2.1 48 = .ok (.imul, 1) := by decide +kernel
theorem d_Mo_store_49 : decode M_Mo_store.2.1 49 = .ok (.iload_n 1, 1) := by decide +kernel
theorem d_Mo_store_50 : decode M_Mo_store.2.1 50 = .ok (.iadd, 1) := by decide +kernel
theorem d_Mo_store_51 : decode M_Mo_store.2.1 51 = .ok (.iaload, 1) := by decide +kernel
theorem d_Mo_store_52 : decode M_Mo_store.2.1 52 = .ok (.iconst 2, 1) := by decide +kernel
theorem d_Mo_store_53 : decode M_Mo_store.2.1 53 = .ok (.if_icmp .eq 5, 3) := by decide +kernel
theorem d_Mo_store_56 : decode M_Mo_store.2.1 56 = .ok (.iconst (-1), 1) := by decide +kernel
theorem d_Mo_store_57 : decode M_Mo_store.2.1 57 = .ok (.ireturn, 1) := by decide +kernel
theorem d_Mo_store_58 : decode M_Mo_store.2.1 58 = .ok (.aload_n 0, 1) := by decide +kernel
theorem d_Mo_store_59 : decode M_Mo_store.2.1 59 = .ok (.getfield 45, 3) := by decide +kernel
theorem d_Mo_store_62 : decode M_Mo_store.2.1 62 = .ok (.iload_n 2, 1) := by decide +kernel
theorem d_Mo_store_63 : decode M_Mo_store.2.1 63 = .ok (.iconst 4, 1) := by decide +kernel
theorem d_Mo_store_64 : decode M_Mo_store.2.1 64 = .ok (.imul, 1) := by decide +kernel
theorem d_Mo_store_65 : decode M_Mo_store.2.1 65 = .ok (.iload_n 3, 1) := by decide +kernel
theorem d_Mo_store_66 : decode M_Mo_store.2.1 66 = .ok (.iadd, 1) := by decide +kernel
theorem d_Mo_store_67 : decode M_Mo_store.2.1 67 = .ok (.iload 4, 2) := by decide +kernel
theorem d_Mo_store_69 : decode M_Mo_store.2.1 69 = .ok (.iastore, 1) := by decide +kernel
theorem d_Mo_store_70 : decode M_Mo_store.2.1 70 = .ok (.iconst 0, 1) := by decide +kernel
theorem d_Mo_store_71 : decode M_Mo_store.2.1 71 = .ok (.ireturn, 1) := by decide +kernel
theorem d_Mo_fetch_0 : decode M_Mo_fetch.2.1 0 = .ok (.aload_n 0, 1) := by decide +kernel
theorem d_Mo_fetch_1 : decode M_Mo_fetch.2.1 1 = .ok (.iload_n 2, 1) := by decide +kernel
theorem d_Mo_fetch_2 : decode M_Mo_fetch.2.1 2 = .ok (.aload_n 0, 1) := by decide +kernel
theorem d_Mo_fetch_3 : decode M_Mo_fetch.2.1 3 = .ok (.getfield 105, 3) := by decide +kernel
theorem d_Mo_fetch_6 : decode M_Mo_fetch.2.1 6 = .ok (.invokevirtual 111, 3) := by decide +kernel
theorem d_Mo_fetch_9 : decode M_Mo_fetch.2.1 9 = .ok (.ifCond .ne 20, 3) := by decide +kernel
theorem d_Mo_fetch_12 : decode M_Mo_fetch.2.1 12 = .ok (.aload_n 0, 1) := by decide +kernel
theorem d_Mo_fetch_13 : decode M_Mo_fetch.2.1 13 = .ok (.iload_n 3, 1) := by decide +kernel
theorem d_Mo_fetch_14 : decode M_Mo_fetch.2.1 14 = .ok (.iconst 4, 1) := by decide +kernel
theorem d_Mo_fetch_15 : decode M_Mo_fetch.2.1 15 = .ok (.invokevirtual 111, 3) := by decide +kernel
theorem d_Mo_fetch_18 : decode M_Mo_fetch.2.1 18 = .ok (.ifCond .ne 11, 3) := by decide +kernel
theorem d_Mo_fetch_21 : decode M_Mo_fetch.2.1 21 = .ok (.aload_n 0, 1) := by decide +kernel
theorem d_Mo_fetch_22 : decode M_Mo_fetch.2.1 22 = .ok (.iload_n 1, 1) := by decide +kernel
theorem d_Mo_fetch_23 : decode M_Mo_fetch.2.1 23 = .ok (.invokevirtual 126, 3) := by decide +kernel
theorem d_Mo_fetch_26 : decode M_Mo_fetch.2.1 26 = .ok (.ifCond .eq 7, 3) := by decide +kernel
theorem d_Mo_fetch_29 : decode M_Mo_fetch.2.1 29 = .ok (.ldc2_w 137, 3) := by decide +kernel
theorem d_Mo_fetch_32 : decode M_Mo_fetch.2.1 32 = .ok (.lreturn, 1) := by decide +kernel
theorem d_Mo_fetch_33 : decode M_Mo_fetch.2.1 33 = .ok (.aload_n 0, 1) := by decide +kernel
theorem d_Mo_fetch_34 : decode M_Mo_fetch.2.1 34 = .ok (.getfield 33, 3) := by decide +kernel
theorem d_Mo_fetch_37 : decode M_Mo_fetch.2.1 37 = .ok (.iload_n 2, 1) := by decide +kernel
theorem d_Mo_fetch_38 : decode M_Mo_fetch.2.1 38 = .ok (.iaload, 1) := by decide +kernel
theorem d_Mo_fetch_39 : decode M_Mo_fetch.2.1 39 = .ok (.iload_n 1, 1) := by decide +kernel
theorem d_Mo_fetch_40 : decode M_Mo_fetch.2.1 40 = .ok (.if_icmp .eq 21, 3) := by decide +kernel
theorem d_Mo_fetch_43 : decode M_Mo_fetch.2.1 43 = .ok (.aload_n 0, 1) := by decide +kernel
theorem d_Mo_fetch_44 : decode M_Mo_fetch.2.1 44 = .ok (.getfield 42, 3) := by decide +kernel
theorem d_Mo_fetch_47 : decode M_Mo_fetch.2.1 47 = .ok (.iload_n 2, 1) := by decide +kernel
theorem d_Mo_fetch_48 : decode M_Mo_fetch.2.1 48 = .ok (.bipush 6, 2) := by decide +kernel
theorem d_Mo_fetch_50 : decode M_Mo_fetch.2.1 50 = .ok (.imul, 1) := by decide +kernel
theorem d_Mo_fetch_51 : decode M_Mo_fetch.2.1 51 = .ok (.iload_n 1, 1) := by decide +kernel
theorem d_Mo_fetch_52 : decode M_Mo_fetch.2.1 52 = .ok (.iadd, 1) := by decide +kernel
theorem d_Mo_fetch_53 : decode M_Mo_fetch.2.1 53 = .ok (.iaload, 1) := by decide +kernel
theorem d_Mo_fetch_54 : decode M_Mo_fetch.2.1 54 = .ok (.ifCond .ne 7, 3) := by decide +kernel
theorem d_Mo_fetch_57 : decode M_Mo_fetch.2.1 57 = .ok (.ldc2_w 137, 3) := by decide +kernel
theorem d_Mo_fetch_60 : decode M_Mo_fetch.2.1 60 = .ok (.lreturn, 1) := by decide +kernel
theorem d_Mo_fetch_61 : decode M_Mo_fetch.2.1 61 = .ok (.aload_n 0, 1) := by decide +kernel
theorem d_Mo_fetch_62 : decode M_Mo_fetch.2.1 62 = .ok (.getfield 45, 3) := by decide +kernel
theorem d_Mo_fetch_65 : decode M_Mo_fetch.2.1 65 = .ok (.iload_n 2, 1) := by decide +kernel
theorem d_Mo_fetch_66 : decode M_Mo_fetch.2.1 66 = .ok (.iconst 4, 1) := by decide +kernel
theorem d_Mo_fetch_67 : decode M_Mo_fetch.2.1 67 = .ok (.imul, 1) := by decide +kernel
theorem d_Mo_fetch_68 : decode M_Mo_fetch.2.1 68 = .ok (.iload_n 3, 1) := by decide +kernel
theorem d_Mo_fetch_69 : decode M_Mo_fetch.2.1 69 = .ok (.iadd, 1) := by decide +kernel
theorem d_Mo_fetch_70 : decode M_Mo_fetch.2.1 70 = .ok (.iaload, 1) := by decide +kernel
theorem d_Mo_fetch_71 : decode M_Mo_fetch.2.1 71 = .ok (.i2l, 1) := by decide +kernel
theorem d_Mo_fetch_72 : decode M_Mo_fetch.2.1 72 = .ok (.lreturn, 1) := by decide +kernel
theorem d_Mo_revoke_0 : decode M_Mo_revoke.2.1 0 = .ok (.aload_n 0, 1) := by decide +kernel
theorem d_Mo_revoke_1 : decode M_Mo_revoke.2.1 1 = .ok (.iload_n 2, 1) := by decide +kernel
theorem d_Mo_revoke_2 : decode M_Mo_revoke.2.1 2 = .ok (.iconst 1, 1) := by decide +kernel
theorem d_Mo_revoke_3 : decode M_Mo_revoke.2.1 3 = .ok (.isub, 1) := by decide +kernel
theorem d_Mo_revoke_4 : decode M_Mo_revoke.2.1 4 = .ok (.bipush 8, 2) := by decide +kernel
theorem d_Mo_revoke_6 : decode M_Mo_revoke.2.1 6 = .ok (.invokevirtual 111, 3) := by decide +kernel
theorem d_Mo_revoke_9 : decode M_Mo_revoke.2.1 9 = .ok (.ifCond .ne 33, 3) := by decide +kernel
theorem d_Mo_revoke_12 : decode M_Mo_revoke.2.1 12 = .ok (.iload_n 2, 1) := by decide +kernel
theorem d_Mo_revoke_13 : decode M_Mo_revoke.2.1 13 = .ok (.iconst 1, 1) := by decide +kernel
theorem d_Mo_revoke_14 : decode M_Mo_revoke.2.1 14 = .ok (.if_icmp .lt 28, 3) := by decide +kernel
theorem d_Mo_revoke_17 : decode M_Mo_revoke.2.1 17 = .ok (.aload_n 0, 1) := by decide +kernel
theorem d_Mo_revoke_18 : decode M_Mo_revoke.2.1 18 = .ok (.iload_n 3, 1) := by decide +kernel
theorem d_Mo_revoke_19 : decode M_Mo_revoke.2.1 19 = .ok (.iconst 1, 1) := by decide +kernel
theorem d_Mo_revoke_20 : decode M_Mo_revoke.2.1 20 = .ok (.isub, 1) := by decide +kernel
theorem d_Mo_revoke_21 : decode M_Mo_revoke.2.1 21 = .ok (.bipush 20, 2) := by decide +kernel
theorem d_Mo_revoke_23 : decode M_Mo_revoke.2.1 23 = .ok (.invokevirtual 111, 3) := by decide +kernel
theorem d_Mo_revoke_26 : decode M_Mo_revoke.2.1 26 = .ok (.ifCond .ne 16, 3) := by decide +kernel
theorem d_Mo_revoke_29 : decode M_Mo_revoke.2.1 29 = .ok (.iload_n 3, 1) := by decide +kernel
theorem d_Mo_revoke_30 : decode M_Mo_revoke.2.1 30 = .ok (.iconst 1, 1) := by decide +kernel
theorem d_Mo_revoke_31 : decode M_Mo_revoke.2.1 31 = .ok (.if_icmp .lt 11, 3) := by decide +kernel
theorem d_Mo_revoke_34 : decode M_Mo_revoke.2.1 34 = .ok (.aload_n 0, 1) := by decide +kernel
theorem d_Mo_revoke_35 : decode M_Mo_revoke.2.1 35 = .ok (.iload_n 1, 1) := by decide +kernel
theorem d_Mo_revoke_36 : decode M_Mo_revoke.2.1 36 = .ok (.invokevirtual 126, 3) := by decide +kernel
theorem d_Mo_revoke_39 : decode M_Mo_revoke.2.1 39 = .ok (.ifCond .eq 5, 3) := by decide +kernel
theorem d_Mo_revoke_42 : decode M_Mo_revoke.2.1 42 = .ok (.iconst (-1), 1) := by decide +kernel
theorem d_Mo_revoke_43 : decode M_Mo_revoke.2.1 43 = .ok (.ireturn, 1) := by decide +kernel
theorem d_Mo_revoke_44 : decode M_Mo_revoke.2.1 44 = .ok (.iconst 0, 1) := by decide +kernel
theorem d_Mo_revoke_45 : decode M_Mo_revoke.2.1 45 = .ok (.istore 4, 2) := by decide +kernel
theorem d_Mo_revoke_47 : decode M_Mo_revoke.2.1 47 = .ok (.iconst 0, 1) := by decide +kernel
theorem d_Mo_revoke_48 : decode M_Mo_revoke.2.1 48 = .ok (.istore 5, 2) := by decide +kernel
theorem d_Mo_revoke_50 : decode M_Mo_revoke.2.1 50 = .ok (.iload 5, 2) := by decide +kernel
theorem d_Mo_revoke_52 : decode M_Mo_revoke.2.1 52 = .ok (.iload_n 2, 1) := by decide +kernel
theorem d_Mo_revoke_53 : decode M_Mo_revoke.2.1 53 = .ok (.if_icmp .ge 111, 3) := by decide +kernel
theorem d_Mo_revoke_56 : decode M_Mo_revoke.2.1 56 = .ok (.iconst (-1), 1) := by decide +kernel
theorem d_Mo_revoke_57 : decode M_Mo_revoke.2.1 57 = .ok (.istore 6, 2) := by decide +kernel
theorem d_Mo_revoke_59 : decode M_Mo_revoke.2.1 59 = .ok (.iconst 0, 1) := by decide +kernel
theorem d_Mo_revoke_60 : decode M_Mo_revoke.2.1 60 = .ok (.istore 7, 2) := by decide +kernel
theorem d_Mo_revoke_62 : decode M_Mo_revoke.2.1 62 = .ok (.iconst 0, 1) := by decide +kernel
theorem d_Mo_revoke_63 : decode M_Mo_revoke.2.1 63 = .ok (.istore 8, 2) := by decide +kernel
theorem d_Mo_revoke_65 : decode M_Mo_revoke.2.1 65 = .ok (.iload 8, 2) := by decide +kernel
theorem d_Mo_revoke_67 : decode M_Mo_revoke.2.1 67 = .ok (.aload_n 0, 1) := by decide +kernel
theorem d_Mo_revoke_68 : decode M_Mo_revoke.2.1 68 = .ok (.getfield 105, 3) := by decide +kernel
theorem d_Mo_revoke_71 : decode M_Mo_revoke.2.1 71 = .ok (.if_icmp .ge 62, 3) := by decide +kernel
theorem d_Mo_revoke_74 : decode M_Mo_revoke.2.1 74 = .ok (.aload_n 0, 1) := by decide +kernel
theorem d_Mo_revoke_75 : decode M_Mo_revoke.2.1 75 = .ok (.getfield 33, 3) := by decide +kernel
theorem d_Mo_revoke_78 : decode M_Mo_revoke.2.1 78 = .ok (.iload 8, 2) := by decide +kernel
theorem d_Mo_revoke_80 : decode M_Mo_revoke.2.1 80 = .ok (.iaload, 1) := by decide +kernel
theorem d_Mo_revoke_81 : decode M_Mo_revoke.2.1 81 = .ok (.iload_n 1, 1) := by decide +kernel
theorem d_Mo_revoke_82 : decode M_Mo_revoke.2.1 82 = .ok (.if_icmp .ne 45, 3) := by decide +kernel
theorem d_Mo_revoke_85 : decode M_Mo_revoke.2.1 85 = .ok (.aload_n 0, 1) := by decide +kernel
theorem d_Mo_revoke_86 : decode M_Mo_revoke.2.1 86 = .ok (.getfield 39, 3) := by decide +kernel
theorem d_Mo_revoke_89 : decode M_Mo_revoke.2.1 89 = .ok (.iload 8, 2) := by decide +kernel
theorem d_Mo_revoke_91 : decode M_Mo_revoke.2.1 91 = .ok (.iaload, 1) := by decide +kernel
theorem d_Mo_revoke_92 : decode M_Mo_revoke.2.1 92 = .ok (.ifCond .le 6, 3) := by decide +kernel
theorem d_Mo_revoke_95 : decode M_Mo_revoke.2.1 95 = .ok (.goto 32, 3) := by decide +kernel
theorem d_Mo_revoke_98 : decode M_Mo_revoke.2.1 98 = .ok (.iinc 7 1, 3) := by decide +kernel
theorem d_Mo_revoke_101 : decode M_Mo_revoke.2.1 101 = .ok (.iload 6, 2) := by decide +kernel
theorem d_Mo_revoke_103 : decode M_Mo_revoke.2.1 103 = .ok (.ifCond .lt 20, 3) := by decide +kernel
theorem d_Mo_revoke_106 : decode M_Mo_revoke.2.1 106 = .ok (.aload_n 0, 1) := by decide +kernel
theorem d_Mo_revoke_107 : decode M_Mo_revoke.2.1 107 = .ok (.getfield 36, 3) := by decide +kernel
theorem d_Mo_revoke_110 : decode M_Mo_revoke.2.1 110 = .ok (.iload 8, 2) := by decide +kernel
theorem d_Mo_revoke_112 : decode M_Mo_revoke.2.1 112 = .ok (.iaload, 1) := by decide +kernel
theorem d_Mo_revoke_113 : decode M_Mo_revoke.2.1 113 = .ok (.aload_n 0, 1) := by decide +kernel
theorem d_Mo_revoke_114 : decode M_Mo_revoke.2.1 114 = .ok (.getfield 36, 3) := by decide +kernel
theorem d_Mo_revoke_117 : decode M_Mo_revoke.2.1 117 = .ok (.iload 6, 2) := by decide +kernel
theorem d_Mo_revoke_119 : decode M_Mo_revoke.2.1 119 = .ok (.iaload, 1) := by decide +kernel
theorem d_Mo_revoke_120 : decode M_Mo_revoke.2.1 120 = .ok (.if_icmp .le 7, 3) := by decide +kernel
theorem d_Mo_revoke_123 : decode M_Mo_revoke.2.1 123 = .ok (.iload 8, 2) := by decide +kernel
theorem d_Mo_revoke_125 : decode M_Mo_revoke.2.1 125 = .ok (.istore 6, 2) := by decide +kernel
theorem d_Mo_revoke_127 : decode M_Mo_revoke.2.1 127 = .ok (.iinc 8 1, 3) := by decide +kernel
theorem d_Mo_revoke_130 : decode M_Mo_revoke.2.1 130 = .ok (.goto (-65), 3) := by decide +kernel
theorem d_Mo_revoke_133 : decode M_Mo_revoke.2.1 133 = .ok (.iload 7, 2) := by decide +kernel
theorem d_Mo_revoke_135 : decode M_Mo_revoke.2.1 135 = .ok (.iconst 3, 1) := by decide +kernel
theorem d_Mo_revoke_136 : decode M_Mo_revoke.2.1 136 = .ok (.if_icmp .ge 6, 3) := by decide +kernel
theorem d_Mo_revoke_139 : decode M_Mo_revoke.2.1 139 = .ok (.iload 4, 2) := by decide +kernel
theorem d_Mo_revoke_141 : decode M_Mo_revoke.2.1 141 = .ok (.ireturn, 1) := by decide +kernel
theorem d_Mo_revoke_142 : decode M_Mo_revoke.2.1 142 = .ok (.aload_n 0, 1) := by decide +kernel
theorem d_Mo_revoke_143 : decode M_Mo_revoke.2.1 143 = .ok (.getfield 39, 3) := by decide +kernel
theorem d_Mo_revoke_146 : decode M_Mo_revoke.2.1 146 = .ok (.iload 6, 2) := by decide +kernel
theorem d_Mo_revoke_148 : decode M_Mo_revoke.2.1 148 = .ok (.aload_n 0, 1) := by decide +kernel
theorem d_Mo_revoke_149 : decode M_Mo_revoke.2.1 149 = .ok (.getfield 23, 3) := by decide +kernel
theorem d_Mo_revoke_152 : decode M_Mo_revoke.2.1 152 = .ok (.iload_n 3, 1) := by decide +kernel
theorem d_Mo_revoke_153 : decode M_Mo_revoke.2.1 153 = .ok (.iadd, 1) := by decide +kernel
theorem d_Mo_revoke_154 : decode M_Mo_revoke.2.1 154 = .ok (.iastore, 1) := by decide +kernel
theorem d_Mo_revoke_155 : decode M_Mo_revoke.2.1 155 = .ok (.iinc 4 1, 3) := by decide +kernel
theorem d_Mo_revoke_158 : decode M_Mo_revoke.2.1 158 = .ok (.iinc 5 1, 3) := by decide +kernel
theorem d_Mo_revoke_161 : decode M_Mo_revoke.2.1 161 = .ok (.goto (-111), 3) := by decide +kernel
theorem d_Mo_revoke_164 : decode M_Mo_revoke.2.1 164 = .ok (.iload 4, 2) := by decide +kernel
theorem d_Mo_revoke_166 : decode M_Mo_revoke.2.1 166 = .ok (.ireturn, 1) := by decide +kernel
theorem d_Mo_tick_0 : decode M_Mo_tick.2.1 0 = .ok (.iload_n 1, 1) := by decide +kernel
theorem d_Mo_tick_1 : decode M_Mo_tick.2.1 1 = .ok (.iconst 1, 1) := by decide +kernel
theorem d_Mo_tick_2 : decode M_Mo_tick.2.1 2 = .ok (.if_icmp .lt 9, 3) := by decide +kernel
theorem d_Mo_tick_5 : decode M_Mo_tick.2.1 5 = .ok (.iload_n 1, 1) := by decide +kernel
theorem d_Mo_tick_6 : decode M_Mo_tick.2.1 6 = .ok (.bipush 100, 2) := by decide +kernel
theorem d_Mo_tick_8 : decode M_Mo_tick.2.1 8 = .ok (.if_icmp .le 5, 3) := by decide +kernel
theorem d_Mo_tick_11 : decode M_Mo_tick.2.1 11 = .ok (.iconst (-1), 1) := by decide +kernel
theorem d_Mo_tick_12 : decode M_Mo_tick.2.1 12 = .ok (.ireturn, 1) := by decide +kernel
theorem d_Mo_tick_13 : decode M_Mo_tick.2.1 13 = .ok (.aload_n 0, 1) := by decide +kernel
theorem d_Mo_tick_14 : decode M_Mo_tick.2.1 14 = .ok (.dup, 1) := by decide +kernel
theorem d_Mo_tick_15 : decode M_Mo_tick.2.1 15 = .ok (.getfield 23, 3) := by decide +kernel
theorem d_Mo_tick_18 : decode M_Mo_tick.2.1 18 = .ok (.iload_n 1, 1) := by decide +kernel
theorem d_Mo_tick_19 : decode M_Mo_tick.2.1 19 = .ok (.iadd, 1) := by decide +kernel
theorem d_Mo_tick_20 : decode M_Mo_tick.2.1 20 = .ok (.putfield 23, 3) := by decide +kernel
theorem d_Mo_tick_23 : decode M_Mo_tick.2.1 23 = .ok (.iconst 0, 1) := by decide +kernel
theorem d_Mo_tick_24 : decode M_Mo_tick.2.1 24 = .ok (.istore_n 2, 1) := by decide +kernel
theorem d_Mo_tick_25 : decode M_Mo_tick.2.1 25 = .ok (.iconst 0, 1) := by decide +kernel
theorem d_Mo_tick_26 : decode M_Mo_tick.2.1 26 = .ok (.istore_n 3, 1) := by decide +kernel
theorem d_Mo_tick_27 : decode M_Mo_tick.2.1 27 = .ok (.iload_n 3, 1) := by decide +kernel
theorem d_Mo_tick_28 : decode M_Mo_tick.2.1 28 = .ok (.bipush 32, 2) := by decide +kernel
theorem d_Mo_tick_30 : decode M_Mo_tick.2.1 30 = .ok (.if_icmp .ge 190, 3) := by decide +kernel
theorem d_Mo_tick_33 : decode M_Mo_tick.2.1 33 = .ok (.iconst (-1), 1) := by decide +kernel
theorem d_Mo_tick_34 : decode M_Mo_tick.2.1 34 = .ok (.istore 4, 2) := by decide +kernel
theorem d_Mo_tick_36 : decode M_Mo_tick.2.1 36 = .ok (.iconst 0, 1) := by decide +kernel
theorem d_Mo_tick_37 : decode M_Mo_tick.2.1 37 = .ok (.istore 5, 2) := by decide +kernel
theorem d_Mo_tick_39 : decode M_Mo_tick.2.1 39 = .ok (.iload 5, 2) := by decide +kernel
theorem d_Mo_tick_41 : decode M_Mo_tick.2.1 41 = .ok (.aload_n 0, 1) := by decide +kernel
theorem d_Mo_tick_42 : decode M_Mo_tick.2.1 42 = .ok (.getfield 105, 3) := by decide +kernel
theorem d_Mo_tick_45 : decode M_Mo_tick.2.1 45 = .ok (.if_icmp .ge 62, 3) := by decide +kernel
theorem d_Mo_tick_48 : decode M_Mo_tick.2.1 48 = .ok (.aload_n 0, 1) := by decide +kernel
theorem d_Mo_tick_49 : decode M_Mo_tick.2.1 49 = .ok (.getfield 39, 3) := by decide +kernel
theorem d_Mo_tick_52 : decode M_Mo_tick.2.1 52 = .ok (.iload 5, 2) := by decide +kernel
theorem d_Mo_tick_54 : decode M_Mo_tick.2.1 54 = .ok (.iaload, 1) := by decide +kernel
theorem d_Mo_tick_55 : decode M_Mo_tick.2.1 55 = .ok (.ifCond .eq 46, 3) := by decide +kernel
theorem d_Mo_tick_58 : decode M_Mo_tick.2.1 58 = .ok (.aload_n 0, 1) := by decide +kernel
theorem d_Mo_tick_59 : decode M_Mo_tick.2.1 59 = .ok (.getfield 39, 3) := by decide +kernel
theorem d_Mo_tick_62 : decode M_Mo_tick.2.1 62 = .ok (.iload 5, 2) := by decide +kernel
theorem d_Mo_tick_64 : decode M_Mo_tick.2.1 64 = .ok (.iaload, 1) := by decide +kernel
theorem d_Mo_tick_65 : decode M_Mo_tick.2.1 65 = .ok (.aload_n 0, 1) := by decide +kernel
theorem d_Mo_tick_66 : decode M_Mo_tick.2.1 66 = .ok (.getfield 23, 3) := by decide +kernel
theorem d_Mo_tick_69 : decode M_Mo_tick.2.1 69 = .ok (.if_icmp .le 6, 3) := by decide +kernel
theorem d_Mo_tick_72 : decode M_Mo_tick.2.1 72 = .ok (.goto 29, 3) := by decide +kernel
theorem d_Mo_tick_75 : decode M_Mo_tick.2.1 75 = .ok (.iload 4, 2) := by decide +kernel
theorem d_Mo_tick_77 : decode M_Mo_tick.2.1 77 = .ok (.ifCond .lt 20, 3) := by decide +kernel
theorem d_Mo_tick_80 : decode M_Mo_tick.2.1 80 = .ok (.aload_n 0, 1) := by decide +kernel
theorem d_Mo_tick_81 : decode M_Mo_tick.2.1 81 = .ok (.getfield 39, 3) := by decide +kernel
theorem d_Mo_tick_84 : decode M_Mo_tick.2.1 84 = .ok (.iload 5, 2) := by decide +kernel
theorem d_Mo_tick_86 : decode M_Mo_tick.2.1 86 = .ok (.iaload, 1) := by decide +kernel
theorem d_Mo_tick_87 : decode M_Mo_tick.2.1 87 = .ok (.aload_n 0, 1) := by decide +kernel
theorem d_Mo_tick_88 : decode M_Mo_tick.2.1 88 = .ok (.getfield 39, 3) := by decide +kernel
theorem d_Mo_tick_91 : decode M_Mo_tick.2.1 91 = .ok (.iload 4, 2) := by decide +kernel
theorem d_Mo_tick_93 : decode M_Mo_tick.2.1 93 = .ok (.iaload, 1) := by decide +kernel
theorem d_Mo_tick_94 : decode M_Mo_tick.2.1 94 = .ok (.if_icmp .ge 7, 3) := by decide +kernel
theorem d_Mo_tick_97 : decode M_Mo_tick.2.1 97 = .ok (.iload 5, 2) := by decide +kernel
theorem d_Mo_tick_99 : decode M_Mo_tick.2.1 99 = .ok (.istore 4, 2) := by decide +kernel
theorem d_Mo_tick_101 : decode M_Mo_tick.2.1 101 = .ok (.iinc 5 1, 3) := by decide +kernel
theorem d_Mo_tick_104 : decode M_Mo_tick.2.1 104 = .ok (.goto (-65), 3) := by decide +kernel
theorem d_Mo_tick_107 : decode M_Mo_tick.2.1 107 = .ok (.iload 4, 2) := by decide +kernel
theorem d_Mo_tick_109 : decode M_Mo_tick.2.1 109 = .ok (.ifCond .ge 5, 3) := by decide +kernel
theorem d_Mo_tick_112 : decode M_Mo_tick.2.1 112 = .ok (.iload_n 2, 1) := by decide +kernel
theorem d_Mo_tick_113 : decode M_Mo_tick.2.1 113 = .ok (.ireturn, 1) := by decide +kernel
theorem d_Mo_tick_114 : decode M_Mo_tick.2.1 114 = .ok (.iinc 2 1, 3) := by decide +kernel
theorem d_Mo_tick_117 : decode M_Mo_tick.2.1 117 = .ok (.aload_n 0, 1) := by decide +kernel
theorem d_Mo_tick_118 : decode M_Mo_tick.2.1 118 = .ok (.getfield 33, 3) := by decide +kernel
theorem d_Mo_tick_121 : decode M_Mo_tick.2.1 121 = .ok (.iload 4, 2) := by decide +kernel
theorem d_Mo_tick_123 : decode M_Mo_tick.2.1 123 = .ok (.iaload, 1) := by decide +kernel
theorem d_Mo_tick_124 : decode M_Mo_tick.2.1 124 = .ok (.bipush 8, 2) := by decide +kernel
theorem d_Mo_tick_126 : decode M_Mo_tick.2.1 126 = .ok (.imul, 1) := by decide +kernel
theorem d_Mo_tick_127 : decode M_Mo_tick.2.1 127 = .ok (.istore 5, 2) := by decide +kernel
theorem d_Mo_tick_129 : decode M_Mo_tick.2.1 129 = .ok (.bipush 7, 2) := by decide +kernel
theorem d_Mo_tick_131 : decode M_Mo_tick.2.1 131 = .ok (.istore 6, 2) := by decide +kernel
theorem d_Mo_tick_133 : decode M_Mo_tick.2.1 133 = .ok (.iload 6, 2) := by decide +kernel
theorem d_Mo_tick_135 : decode M_Mo_tick.2.1 135 = .ok (.ifCond .le 31, 3) := by decide +kernel
theorem d_Mo_tick_138 : decode M_Mo_tick.2.1 138 = .ok (.aload_n 0, 1) := by decide +kernel
theorem d_Mo_tick_139 : decode M_Mo_tick.2.1 139 = .ok (.getfield 48, 3) := by decide +kernel
theorem d_Mo_tick_142 : decode M_Mo_tick.2.1 142 = .ok (.iload 5, 2) := by decide +kernel
theorem d_Mo_tick_144 : decode M_Mo_tick.2.1 144 = .ok (.iload 6, 2) := by decide +kernel
theorem d_Mo_tick_146 : decode M_Mo_tick.2.1 146 = .ok (.iadd, 1) := by decide +kernel
theorem d_Mo_tick_147 : decode M_Mo_tick.2.1 147 = .ok (.aload_n 0, 1) := by decide +kernel
theorem d_Mo_tick_148 : decode M_Mo_tick.2.1 148 = .ok (.getfield 48, 3) := by decide +kernel
theorem d_Mo_tick_151 : decode M_Mo_tick.2.1 151 = .ok (.iload 5, 2) := by decide +kernel
theorem d_Mo_tick_153 : decode M_Mo_tick.2.1 153 = .ok (.iload 6, 2) := by decide +kernel
theorem d_Mo_tick_155 : decode M_Mo_tick.2.1 155 = .ok (.iadd, 1) := by decide +kernel
theorem d_Mo_tick_156 : decode M_Mo_tick.2.1 156 = .ok (.iconst 1, 1) := by decide +kernel
theorem d_Mo_tick_157 : decode M_Mo_tick.2.1 157 = .ok (.isub, 1) := by decide +kernel
theorem d_Mo_tick_158 : decode M_Mo_tick.2.1 158 = .ok (.iaload, 1) := by decide +kernel
theorem d_Mo_tick_159 : decode M_Mo_tick.2.1 159 = .ok (.iastore, 1) := by decide +kernel
theorem d_Mo_tick_160 : decode M_Mo_tick.2.1 160 = .ok (.iinc 6 (-1), 3) := by decide +kernel
theorem d_Mo_tick_163 : decode M_Mo_tick.2.1 163 = .ok (.goto (-30), 3) := by decide +kernel
theorem d_Mo_tick_166 : decode M_Mo_tick.2.1 166 = .ok (.aload_n 0, 1) := by decide +kernel
theorem d_Mo_tick_167 : decode M_Mo_tick.2.1 167 = .ok (.getfield 48, 3) := by decide +kernel
theorem d_Mo_tick_170 : decode M_Mo_tick.2.1 170 = .ok (.iload 5, 2) := by decide +kernel
theorem d_Mo_tick_172 : decode M_Mo_tick.2.1 172 = .ok (.iload 4, 2) := by decide +kernel
theorem d_Mo_tick_174 : decode M_Mo_tick.2.1 174 = .ok (.iastore, 1) := by decide +kernel
theorem d_Mo_tick_175 : decode M_Mo_tick.2.1 175 = .ok (.aload_n 0, 1) := by decide +kernel
theorem d_Mo_tick_176 : decode M_Mo_tick.2.1 176 = .ok (.getfield 51, 3) := by decide +kernel
theorem d_Mo_tick_179 : decode M_Mo_tick.2.1 179 = .ok (.aload_n 0, 1) := by decide +kernel
theorem d_Mo_tick_180 : decode M_Mo_tick.2.1 180 = .ok (.getfield 33, 3) := by decide +kernel
theorem d_Mo_tick_183 : decode M_Mo_tick.2.1 183 = .ok (.iload 4, 2) := by decide +kernel
theorem d_Mo_tick_185 : decode M_Mo_tick.2.1 185 = .ok (.iaload, 1) := by decide +kernel
theorem d_Mo_tick_186 : decode M_Mo_tick.2.1 186 = .ok (.iaload, 1) := by decide +kernel
theorem d_Mo_tick_187 : decode M_Mo_tick.2.1 187 = .ok (.bipush 8, 2) := by decide +kernel
theorem d_Mo_tick_189 : decode M_Mo_tick.2.1 189 = .ok (.if_icmp .ge 19, 3) := by decide +kernel
theorem d_Mo_tick_192 : decode M_Mo_tick.2.1 192 = .ok (.aload_n 0, 1) := by decide +kernel
theorem d_Mo_tick_193 : decode M_Mo_tick.2.1 193 = .ok (.getfield 51, 3) := by decide +kernel
theorem d_Mo_tick_196 : decode M_Mo_tick.2.1 196 = .ok (.aload_n 0, 1) := by decide +kernel
theorem d_Mo_tick_197 : decode M_Mo_tick.2.1 197 = .ok (.getfield 33, 3) := by decide +kernel
theorem d_Mo_tick_200 : decode M_Mo_tick.2.1 200 = .ok (.iload 4, 2) := by decide +kernel
theorem d_Mo_tick_202 : decode M_Mo_tick.2.1 202 = .ok (.iaload, 1) := by decide +kernel
theorem d_Mo_tick_203 : decode M_Mo_tick.2.1 203 = .ok (.dup2, 1) := by decide +kernel
theorem d_Mo_tick_204 : decode M_Mo_tick.2.1 204 = .ok (.iaload, 1) := by decide +kernel
theorem d_Mo_tick_205 : decode M_Mo_tick.2.1 205 = .ok (.iconst 1, 1) := by decide +kernel
theorem d_Mo_tick_206 : decode M_Mo_tick.2.1 206 = .ok (.iadd, 1) := by decide +kernel
theorem d_Mo_tick_207 : decode M_Mo_tick.2.1 207 = .ok (.iastore, 1) := by decide +kernel
theorem d_Mo_tick_208 : decode M_Mo_tick.2.1 208 = .ok (.aload_n 0, 1) := by decide +kernel
theorem d_Mo_tick_209 : decode M_Mo_tick.2.1 209 = .ok (.iload 4, 2) := by decide +kernel
theorem d_Mo_tick_211 : decode M_Mo_tick.2.1 211 = .ok (.invokevirtual 130, 3) := by decide +kernel
theorem d_Mo_tick_214 : decode M_Mo_tick.2.1 214 = .ok (.iinc 3 1, 3) := by decide +kernel
theorem d_Mo_tick_217 : decode M_Mo_tick.2.1 217 = .ok (.goto (-190), 3) := by decide +kernel
theorem d_Mo_tick_220 : decode M_Mo_tick.2.1 220 = .ok (.iload_n 2, 1) := by decide +kernel
theorem d_Mo_tick_221 : decode M_Mo_tick.2.1 221 = .ok (.ireturn, 1) := by decide +kernel
theorem d_Mo_op_0 : decode M_Mo_op.2.1 0 = .ok (.aload_n 0, 1) := by decide +kernel
theorem d_Mo_op_1 : decode M_Mo_op.2.1 1 = .ok (.iload_n 2, 1) := by decide +kernel
theorem d_Mo_op_2 : decode M_Mo_op.2.1 2 = .ok (.bipush 12, 2) := by decide +kernel
theorem d_Mo_op_4 : decode M_Mo_op.2.1 4 = .ok (.invokevirtual 111, 3) := by decide +kernel
theorem d_Mo_op_7 : decode M_Mo_op.2.1 7 = .ok (.ifCond .eq 5, 3) := by decide +kernel
theorem d_Mo_op_10 : decode M_Mo_op.2.1 10 = .ok (.iconst (-1), 1) := by decide +kernel
theorem d_Mo_op_11 : decode M_Mo_op.2.1 11 = .ok (.ireturn, 1) := by decide +kernel
theorem d_Mo_op_12 : decode M_Mo_op.2.1 12 = .ok (.iload_n 2, 1) := by decide +kernel
theorem d_Mo_op_13 : decode M_Mo_op.2.1 13 = .ok (.iconst 2, 1) := by decide +kernel
theorem d_Mo_op_14 : decode M_Mo_op.2.1 14 = .ok (.if_icmp .ge 13, 3) := by decide +kernel
theorem d_Mo_op_17 : decode M_Mo_op.2.1 17 = .ok (.aload_n 0, 1) := by decide +kernel
theorem d_Mo_op_18 : decode M_Mo_op.2.1 18 = .ok (.iload_n 3, 1) := by decide +kernel
theorem d_Mo_op_19 : decode M_Mo_op.2.1 19 = .ok (.bipush 64, 2) := by decide +kernel
theorem d_Mo_op_21 : decode M_Mo_op.2.1 21 = .ok (.invokevirtual 111, 3) := by decide +kernel
theorem d_Mo_op_24 : decode M_Mo_op.2.1 24 = .ok (.ifCond .ne 19, 3) := by decide +kernel
theorem d_Mo_op_27 : decode M_Mo_op.2.1 27 = .ok (.iload_n 2, 1) := by decide +kernel
theorem d_Mo_op_28 : decode M_Mo_op.2.1 28 = .ok (.bipush 6, 2) := by decide +kernel
theorem d_Mo_op_30 : decode M_Mo_op.2.1 30 = .ok (.if_icmp .ne 15, 3) := by decide +kernel
theorem d_Mo_op_33 : decode M_Mo_op.2.1 33 = .ok (.aload_n 0, 1) := by decide +kernel
theorem d_Mo_op_34 : decode M_Mo_op.2.1 34 = .ok (.iload_n 3, 1) := by decide +kernel
theorem d_Mo_op_35 : decode M_Mo_op.2.1 35 = .ok (.bipush 32, 2) := by decide +kernel
theorem d_Mo_op_37 : decode M_Mo_op.2.1 37 = .ok (.invokevirtual 111, 3) := by decide +kernel
theorem d_Mo_op_40 : decode M_Mo_op.2.1 40 = .ok (.ifCond .eq 5, 3) := by decide +kernel
theorem d_Mo_op_43 : decode M_Mo_op.2.1 43 = .ok (.iconst (-1), 1) := by decide +kernel
theorem d_Mo_op_44 : decode M_Mo_op.2.1 44 = .ok (.ireturn, 1) := by decide +kernel
theorem d_Mo_op_45 : decode M_Mo_op.2.1 45 = .ok (.iload_n 2, 1) := by decide +kernel
theorem d_Mo_op_46 : decode M_Mo_op.2.1 46 = .ok (.bipush 6, 2) := by decide +kernel
theorem d_Mo_op_48 : decode M_Mo_op.2.1 48 = .ok (.if_icmp .le 33, 3) := by decide +kernel
theorem d_Mo_op_51 : decode M_Mo_op.2.1 51 = .ok (.iload_n 2, 1) := by decide +kernel
theorem d_Mo_op_52 : decode M_Mo_op.2.1 52 = .ok (.bipush 10, 2) := by decide +kernel
theorem d_Mo_op_54 : decode M_Mo_op.2.1 54 = .ok (.if_icmp .ge 27, 3) := by decide +kernel
theorem d_Mo_op_57 : decode M_Mo_op.2.1 57 = .ok (.aload_n 0, 1) := by decide +kernel
theorem d_Mo_op_58 : decode M_Mo_op.2.1 58 = .ok (.iload 4, 2) := by decide +kernel
theorem d_Mo_op_60 : decode M_Mo_op.2.1 60 = .ok (.bipush 16, 2) := by decide +kernel
theorem d_Mo_op_62 : decode M_Mo_op.2.1 62 = .ok (.invokevirtual 111, 3) := by decide +kernel
theorem d_Mo_op_65 : decode M_Mo_op.2.1 65 = .ok (.ifCond .ne 14, 3) := by decide +kernel
theorem d_Mo_op_68 : decode M_Mo_op.2.1 68 = .ok (.aload_n 0, 1) := by decide +kernel
theorem d_Mo_op_69 : decode M_Mo_op.2.1 69 = .ok (.iload 5, 2) := by decide +kernel
theorem d_Mo_op_71 : decode M_Mo_op.2.1 71 = .ok (.bipush 16, 2) := by decide +kernel
theorem d_Mo_op_73 : decode M_Mo_op.2.1 73 = .ok (.invokevirtual 111, 3) := by decide +kernel
theorem d_Mo_op_76 : decode M_Mo_op.2.1 76 = .ok (.ifCond .eq 5, 3) := by decide +kernel
theorem d_Mo_op_79 : decode M_Mo_op.2.1 79 = .ok (.iconst (-1), 1) := by decide +kernel
theorem d_Mo_op_80 : decode M_Mo_op.2.1 80 = .ok (.ireturn, 1) := by decide +kernel
theorem d_Mo_op_81 : decode M_Mo_op.2.1 81 = .ok (.aload_n 0, 1) := by decide +kernel
theorem d_Mo_op_82 : decode M_Mo_op.2.1 82 = .ok (.iload_n 1, 1) := by decide +kernel
theorem d_Mo_op_83 : decode M_Mo_op.2.1 83 = .ok (.invokevirtual 126, 3) := by decide +kernel
theorem d_Mo_op_86 : decode M_Mo_op.2.1 86 = .ok (.ifCond .eq 5, 3) := by decide +kernel
theorem d_Mo_op_89 : decode M_Mo_op.2.1 89 = .ok (.iconst (-1), 1) := by decide +kernel
theorem d_Mo_op_90 : decode M_Mo_op.2.1 90 = .ok (.ireturn, 1) := by decide +kernel
theorem d_Mo_op_91 : decode M_Mo_op.2.1 91 = .ok (.aload_n 0, 1) := by decide +kernel
theorem d_Mo_op_92 : decode M_Mo_op.2.1 92 = .ok (.getfield 54, 3) := by decide +kernel
theorem d_Mo_op_95 : decode M_Mo_op.2.1 95 = .ok (.iload_n 1, 1) := by decide +kernel
theorem d_Mo_op_96 : decode M_Mo_op.2.1 96 = .ok (.iaload, 1) := by decide +kernel
theorem d_Mo_op_97 : decode M_Mo_op.2.1 97 = .ok (.bipush 16, 2) := by decide +kernel
theorem d_Mo_op_99 : decode M_Mo_op.2.1 99 = .ok (.if_icmp .ne 6, 3) := by decide +kernel
theorem d_Mo_op_102 : decode M_Mo_op.2.1 102 = .ok (.bipush (-2), 2) := by decide +kernel
theorem d_Mo_op_104 : decode M_Mo_op.2.1 104 = .ok (.ireturn, 1) := by decide +kernel
theorem d_Mo_op_105 : decode M_Mo_op.2.1 105 = .ok (.iload_n 1, 1) := by decide +kernel
theorem d_Mo_op_106 : decode M_Mo_op.2.1 106 = .ok (.bipush 64, 2) := by decide +kernel
theorem d_Mo_op_108 : decode M_Mo_op.2.1 108 = .ok (.imul, 1) := by decide +kernel
theorem d_Mo_op_109 : decode M_Mo_op.2.1 109 = .ok (.aload_n 0, 1) := by decide +kernel
theorem d_Mo_op_110 : decode M_Mo_op.2.1 110 = .ok (.getfield 54, 3) := by decide +kernel
theorem d_Mo_op_113 : decode M_Mo_op.2.1 113 = .ok (.iload_n 1, 1) := by decide +kernel
theorem d_Mo_op_114 : decode M_Mo_op.2.1 114 = .ok (.iaload, 1) := by decide +kernel
theorem d_Mo_op_115 : decode M_Mo_op.2.1 115 = .ok (.iconst 4, 1) := by decide +kernel
theorem d_Mo_op_116 : decode M_Mo_op.2.1 116 = .ok (.imul, 1) := by decide +kernel
theorem d_Mo_op_117 : decode M_Mo_op.2.1 117 = .ok (.iadd, 1) := by decide +kernel
theorem d_Mo_op_118 : decode M_Mo_op.2.1 118 = .ok (.istore 6, 2) := by decide +kernel
theorem d_Mo_op_120 : decode M_Mo_op.2.1 120 = .ok (.aload_n 0, 1) := by decide +kernel
theorem d_Mo_op_121 : decode M_Mo_op.2.1 121 = .ok (.getfield 57, 3) := by decide +kernel
theorem d_Mo_op_124 : decode M_Mo_op.2.1 124 = .ok (.iload 6, 2) := by decide +kernel
theorem d_Mo_op_126 : decode M_Mo_op.2.1 126 = .ok (.iload_n 2, 1) := by decide +kernel
theorem d_Mo_op_127 : decode M_Mo_op.2.1 127 = .ok (.iastore, 1) := by decide +kernel
theorem d_Mo_op_128 : decode M_Mo_op.2.1 128 = .ok (.aload_n 0, 1) := by decide +kernel
theorem d_Mo_op_129 : decode M_Mo_op.2.1 129 = .ok (.getfield 57, 3) := by decide +kernel
theorem d_Mo_op_132 : decode M_Mo_op.2.1 132 = .ok (.iload 6, 2) := by decide +kernel
theorem d_Mo_op_134 : decode M_Mo_op.2.1 134 = .ok (.iconst 1, 1) := by decide +kernel
theorem d_Mo_op_135 : decode M_Mo_op.2.1 135 = .ok (.iadd, 1) := by decide +kernel
theorem d_Mo_op_136 : decode M_Mo_op.2.1 136 = .ok (.iload_n 3, 1) := by decide +kernel
theorem d_Mo_op_137 : decode M_Mo_op.2.1 137 = .ok (.iastore, 1) := by decide +kernel
theorem d_Mo_op_138 : decode M_Mo_op.2.1 138 = .ok (.aload_n 0, 1) := by decide +kernel
theorem d_Mo_op_139 : decode M_Mo_op.2.1 139 = .ok (.getfield 57, 3) := by decide +kernel
theorem d_Mo_op_142 : decode M_Mo_op.2.1 142 = .ok (.iload 6, 2) := by decide +kernel
theorem d_Mo_op_144 : decode M_Mo_op.2.1 144 = .ok (.iconst 2, 1) := by decide +kernel
theorem d_Mo_op_145 : decode M_Mo_op.2.1 145 = .ok (.iadd, 1) := by decide +kernel
theorem d_Mo_op_146 : decode M_Mo_op.2.1 146 = .ok (.iload 4, 2) := by decide +kernel
theorem d_Mo_op_148 : decode M_Mo_op.2.1 148 = .ok (.iastore, 1) := by decide +kernel
theorem d_Mo_op_149 : decode M_Mo_op.2.1 149 = .ok (.aload_n 0, 1) := by decide +kernel
theorem d_Mo_op_150 : decode M_Mo_op.2.1 150 = .ok (.getfield 57, 3) := by decide +kernel
theorem d_Mo_op_153 : decode M_Mo_op.2.1 153 = .ok (.iload 6, 2) := by decide +kernel
theorem d_Mo_op_155 : decode M_Mo_op.2.1 155 = .ok (.iconst 3, 1) := by decide +kernel
theorem d_Mo_op_156 : decode M_Mo_op.2.1 156 = .ok (.iadd, 1) := by decide +kernel
theorem d_Mo_op_157 : decode M_Mo_op.2.1 157 = .ok (.iload 5, 2) := by decide +kernel
theorem d_Mo_op_159 : decode M_Mo_op.2.1 159 = .ok (.iastore, 1) := by decide +kernel
theorem d_Mo_op_160 : decode M_Mo_op.2.1 160 = .ok (.aload_n 0, 1) := by decide +kernel
theorem d_Mo_op_161 : decode M_Mo_op.2.1 161 = .ok (.getfield 54, 3) := by decide +kernel
theorem d_Mo_op_164 : decode M_Mo_op.2.1 164 = .ok (.iload_n 1, 1) := by decide +kernel
theorem d_Mo_op_165 : decode M_Mo_op.2.1 165 = .ok (.dup2, 1) := by decide +kernel
theorem d_Mo_op_166 : decode M_Mo_op.2.1 166 = .ok (.iaload, 1) := by decide +kernel
theorem d_Mo_op_167 : decode M_Mo_op.2.1 167 = .ok (.iconst 1, 1) := by decide +kernel
theorem d_Mo_op_168 : decode M_Mo_op.2.1 168 = .ok (.iadd, 1) := by decide +kernel
theorem d_Mo_op_169 : decode M_Mo_op.2.1 169 = .ok (.iastore, 1) := by decide +kernel
theorem d_Mo_op_170 : decode M_Mo_op.2.1 170 = .ok (.aload_n 0, 1) := by decide +kernel
theorem d_Mo_op_171 : decode M_Mo_op.2.1 171 = .ok (.getfield 54, 3) := by decide +kernel
theorem d_Mo_op_174 : decode M_Mo_op.2.1 174 = .ok (.iload_n 1, 1) := by decide +kernel
theorem d_Mo_op_175 : decode M_Mo_op.2.1 175 = .ok (.iaload, 1) := by decide +kernel
theorem d_Mo_op_176 : decode M_Mo_op.2.1 176 = .ok (.iconst 1, 1) := by decide +kernel
theorem d_Mo_op_177 : decode M_Mo_op.2.1 177 = .ok (.isub, 1) := by decide +kernel
theorem d_Mo_op_178 : decode M_Mo_op.2.1 178 = .ok (.ireturn, 1) := by decide +kernel
theorem d_Mo_install_0 : decode M_Mo_install.2.1 0 = .ok (.aload_n 0, 1) := by decide +kernel
theorem d_Mo_install_1 : decode M_Mo_install.2.1 1 = .ok (.iload_n 1, 1) := by decide +kernel
theorem d_Mo_install_2 : decode M_Mo_install.2.1 2 = .ok (.invokevirtual 126, 3) := by decide +kernel
theorem d_Mo_install_5 : decode M_Mo_install.2.1 5 = .ok (.ifCond .eq 5, 3) := by decide +kernel
theorem d_Mo_install_8 : decode M_Mo_install.2.1 8 = .ok (.iconst (-1), 1) := by decide +kernel
theorem d_Mo_install_9 : decode M_Mo_install.2.1 9 = .ok (.ireturn, 1) := by decide +kernel
theorem d_Mo_install_10 : decode M_Mo_install.2.1 10 = .ok (.aload_n 0, 1) := by decide +kernel
theorem d_Mo_install_11 : decode M_Mo_install.2.1 11 = .ok (.iload_n 1, 1) := by decide +kernel
theorem d_Mo_install_12 : decode M_Mo_install.2.1 12 = .ok (.invokevirtual 139, 3) := by decide +kernel
theorem d_Mo_install_15 : decode M_Mo_install.2.1 15 = .ok (.istore_n 2, 1) := by decide +kernel
theorem d_Mo_install_16 : decode M_Mo_install.2.1 16 = .ok (.aload_n 0, 1) := by decide +kernel
theorem d_Mo_install_17 : decode M_Mo_install.2.1 17 = .ok (.getfield 54, 3) := by decide +kernel
theorem d_Mo_install_20 : decode M_Mo_install.2.1 20 = .ok (.iload_n 1, 1) := by decide +kernel
theorem d_Mo_install_21 : decode M_Mo_install.2.1 21 = .ok (.iaload, 1) := by decide +kernel
theorem d_Mo_install_22 : decode M_Mo_install.2.1 22 = .ok (.istore_n 3, 1) := by decide +kernel
theorem d_Mo_install_23 : decode M_Mo_install.2.1 23 = .ok (.aload_n 0, 1) := by decide +kernel
theorem d_Mo_install_24 : decode M_Mo_install.2.1 24 = .ok (.getfield 54, 3) := by decide +kernel
theorem d_Mo_install_27 : decode M_Mo_install.2.1 27 = .ok (.iload_n 1, 1) := by decide +kernel
theorem d_Mo_install_28 : decode M_Mo_install.2.1 28 = .ok (.iconst 0, 1) := by decide +kernel
theorem d_Mo_install_29 : decode M_Mo_install.2.1 29 = .ok (.iastore, 1) := by decide +kernel
theorem d_Mo_install_30 : decode M_Mo_install.2.1 30 = .ok (.iload_n 2, 1) := by decide +kernel
theorem d_Mo_install_31 : decode M_Mo_install.2.1 31 = .ok (.ifCond .ne 6, 3) := by decide +kernel
theorem d_Mo_install_34 : decode M_Mo_install.2.1 34 = .ok (.bipush (-5), 2) := by decide +kernel
theorem d_Mo_install_36 : decode M_Mo_install.2.1 36 = .ok (.ireturn, 1) := by decide +kernel
theorem d_Mo_install_37 : decode M_Mo_install.2.1 37 = .ok (.aload_n 0, 1) := by decide +kernel
theorem d_Mo_install_38 : decode M_Mo_install.2.1 38 = .ok (.iload_n 1, 1) := by decide +kernel
theorem d_Mo_install_39 : decode M_Mo_install.2.1 39 = .ok (.invokevirtual 134, 3) := by decide +kernel
theorem d_Mo_install_42 : decode M_Mo_install.2.1 42 = .ok (.iload_n 3, 1) := by decide +kernel
theorem d_Mo_install_43 : decode M_Mo_install.2.1 43 = .ok (.ifCond .ne 5, 3) := by decide +kernel
theorem d_Mo_install_46 : decode M_Mo_install.2.1 46 = .ok (.iconst 0, 1) := by decide +kernel
theorem d_Mo_install_47 : decode M_Mo_install.2.1 47 = .ok (.ireturn, 1) := by decide +kernel
theorem d_Mo_install_48 : decode M_Mo_install.2.1 48 = .ok (.iconst 0, 1) := by decide +kernel
theorem d_Mo_install_49 : decode M_Mo_install.2.1 49 = .ok (.istore 4, 2) := by decide +kernel
theorem d_Mo_install_51 : decode M_Mo_install.2.1 51 = .ok (.iload 4, 2) := by decide +kernel
theorem d_Mo_install_53 : decode M_Mo_install.2.1 53 = .ok (.bipush 64, 2) := by decide +kernel
theorem d_Mo_install_55 : decode M_Mo_install.2.1 55 = .ok (.if_icmp .ge 37, 3) := by decide +kernel
theorem d_Mo_install_58 : decode M_Mo_install.2.1 58 = .ok (.aload_n 0, 1) := by decide +kernel
theorem d_Mo_install_59 : decode M_Mo_install.2.1 59 = .ok (.getfield 57, 3) := by decide +kernel
theorem d_Mo_install_62 : decode M_Mo_install.2.1 62 = .ok (.sipush 384, 3) := by decide +kernel
theorem d_Mo_install_65 : decode M_Mo_install.2.1 65 = .ok (.iload_n 1, 1) := by decide +kernel
theorem d_Mo_install_66 : decode M_Mo_install.2.1 66 = .ok (.bipush 64, 2) := by decide +kernel
theorem d_Mo_install_68 : decode M_Mo_install.2.1 68 = .ok (.imul, 1) := by decide +kernel
theorem d_Mo_install_69 : decode M_Mo_install.2.1 69 = .ok (.iadd, 1) := by decide +kernel
theorem d_Mo_install_70 : decode M_Mo_install.2.1 70 = .ok (.iload 4, 2) := by decide +kernel
theorem d_Mo_install_72 : decode M_Mo_install.2.1 72 = .ok (.iadd, 1) := by decide +kernel
theorem d_Mo_install_73 : decode M_Mo_install.2.1 73 = .ok (.aload_n 0, 1) := by decide +kernel
theorem d_Mo_install_74 : decode M_Mo_install.2.1 74 = .ok (.getfield 57, 3) := by decide +kernel
theorem d_Mo_install_77 : decode M_Mo_install.2.1 77 = .ok (.iload_n 1, 1) := by decide +kernel
theorem d_Mo_install_78 : decode M_Mo_install.2.1 78 = .ok (.bipush 64, 2) := by decide +kernel
theorem d_Mo_install_80 : decode M_Mo_install.2.1 80 = .ok (.imul, 1) := by decide +kernel
theorem d_Mo_install_81 : decode M_Mo_install.2.1 81 = .ok (.iload 4, 2) := by decide +kernel
theorem d_Mo_install_83 : decode M_Mo_install.2.1 83 = .ok (.iadd, 1) := by decide +kernel
theorem d_Mo_install_84 : decode M_Mo_install.2.1 84 = .ok (.iaload, 1) := by decide +kernel
theorem d_Mo_install_85 : decode M_Mo_install.2.1 85 = .ok (.iastore, 1) := by decide +kernel
theorem d_Mo_install_86 : decode M_Mo_install.2.1 86 = .ok (.iinc 4 1, 3) := by decide +kernel
theorem d_Mo_install_89 : decode M_Mo_install.2.1 89 = .ok (.goto (-38), 3) := by decide +kernel
theorem d_Mo_install_92 : decode M_Mo_install.2.1 92 = .ok (.aload_n 0, 1) := by decide +kernel
theorem d_Mo_install_93 : decode M_Mo_install.2.1 93 = .ok (.getfield 54, 3) := by decide +kernel
theorem d_Mo_install_96 : decode M_Mo_install.2.1 96 = .ok (.bipush 6, 2) := by decide +kernel
theorem d_Mo_install_98 : decode M_Mo_install.2.1 98 = .ok (.iload_n 1, 1) := by decide +kernel
theorem d_Mo_install_99 : decode M_Mo_install.2.1 99 = .ok (.iadd, 1) := by decide +kernel
theorem d_Mo_install_100 : decode M_Mo_install.2.1 100 = .ok (.iload_n 3, 1) := by decide +kernel
theorem d_Mo_install_101 : decode M_Mo_install.2.1 101 = .ok (.iastore, 1) := by decide +kernel
theorem d_Mo_install_102 : decode M_Mo_install.2.1 102 = .ok (.aload_n 0, 1) := by decide +kernel
theorem d_Mo_install_103 : decode M_Mo_install.2.1 103 = .ok (.getfield 60, 3) := by decide +kernel
theorem d_Mo_install_106 : decode M_Mo_install.2.1 106 = .ok (.aload_n 0, 1) := by decide +kernel
theorem d_Mo_install_107 : decode M_Mo_install.2.1 107 = .ok (.getfield 63, 3) := by decide +kernel
theorem d_Mo_install_110 : decode M_Mo_install.2.1 110 = .ok (.iload_n 1, 1) := by decide +kernel
theorem d_Mo_install_111 : decode M_Mo_install.2.1 111 = .ok (.iastore, 1) := by decide +kernel
theorem d_Mo_install_112 : decode M_Mo_install.2.1 112 = .ok (.aload_n 0, 1) := by decide +kernel
theorem d_Mo_install_113 : decode M_Mo_install.2.1 113 = .ok (.dup, 1) := by decide +kernel
theorem d_Mo_install_114 : decode M_Mo_install.2.1 114 = .ok (.getfield 63, 3) := by decide +kernel
theorem d_Mo_install_117 : decode M_Mo_install.2.1 117 = .ok (.iconst 1, 1) := by decide +kernel
theorem d_Mo_install_118 : decode M_Mo_install.2.1 118 = .ok (.iadd, 1) := by decide +kernel
theorem d_Mo_install_119 : decode M_Mo_install.2.1 119 = .ok (.putfield 63, 3) := by decide +kernel
theorem d_Mo_install_122 : decode M_Mo_install.2.1 122 = .ok (.iconst 0, 1) := by decide +kernel
theorem d_Mo_install_123 : decode M_Mo_install.2.1 123 = .ok (.ireturn, 1) := by decide +kernel
theorem d_Mo_sound_0 : decode M_Mo_sound.2.1 0 = .ok (.iconst 0, 1) := by decide +kernel
theorem d_Mo_sound_1 : decode M_Mo_sound.2.1 1 = .ok (.istore_n 2, 1) := by decide +kernel
theorem d_Mo_sound_2 : decode M_Mo_sound.2.1 2 = .ok (.iload_n 2, 1) := by decide +kernel
theorem d_Mo_sound_3 : decode M_Mo_sound.2.1 3 = .ok (.aload_n 0, 1) := by decide +kernel
theorem d_Mo_sound_4 : decode M_Mo_sound.2.1 4 = .ok (.getfield 54, 3) := by decide +kernel
theorem d_Mo_sound_7 : decode M_Mo_sound.2.1 7 = .ok (.iload_n 1, 1) := by decide +kernel
theorem d_Mo_sound_8 : decode M_Mo_sound.2.1 8 = .ok (.iaload, 1) := by decide +kernel
theorem d_Mo_sound_9 : decode M_Mo_sound.2.1 9 = .ok (.if_icmp .ge 105, 3) := by decide +kernel
theorem d_Mo_sound_12 : decode M_Mo_sound.2.1 12 = .ok (.iload_n 1, 1) := by decide +kernel
theorem d_Mo_sound_13 : decode M_Mo_sound.2.1 13 = .ok (.bipush 64, 2) := by decide +kernel
theorem d_Mo_sound_15 : decode M_Mo_sound.2.1 15 = .ok (.imul, 1) := by decide +kernel
theorem d_Mo_sound_16 : decode M_Mo_sound.2.1 16 = .ok (.iload_n 2, 1) := by decide +kernel
theorem d_Mo_sound_17 : decode M_Mo_sound.2.1 17 = .ok (.iconst 4, 1) := by decide +kernel
theorem d_Mo_sound_18 : decode M_Mo_sound.2.1 18 = .ok (.imul, 1) := by decide +kernel
theorem d_Mo_sound_19 : decode M_Mo_sound.2.1 19 = .ok (.iadd, 1) := by decide +kernel
theorem d_Mo_sound_20 : decode M_Mo_sound.2.1 20 = .ok (.istore_n 3, 1) := by decide +kernel
theorem d_Mo_sound_21 : decode M_Mo_sound.2.1 21 = .ok (.aload_n 0, 1) := by decide +kernel
theorem d_Mo_sound_22 : decode M_Mo_sound.2.1 22 = .ok (.getfield 57, 3) := by decide +kernel
theorem d_Mo_sound_25 : decode M_Mo_sound.2.1 25 = .ok (.iload_n 3, 1) := by decide +kernel
theorem d_Mo_sound_26 : decode M_Mo_sound.2.1 26 = .ok (.iaload, 1) := by decide +kernel
theorem d_Mo_sound_27 : decode M_Mo_sound.2.1 27 = .ok (.istore 4, 2) := by decide +kernel
theorem d_Mo_sound_29 : decode M_Mo_sound.2.1 29 = .ok (.iload 4, 2) := by decide +kernel
theorem d_Mo_sound_31 : decode M_Mo_sound.2.1 31 = .ok (.bipush 7, 2) := by decide +kernel
theorem d_Mo_sound_33 : decode M_Mo_sound.2.1 33 = .ok (.if_icmp .ge 17, 3) := by decide +kernel
theorem d_Mo_sound_36 : decode M_Mo_sound.2.1 36 = .ok (.iload_n 2, 1) := by decide +kernel
theorem d_Mo_sound_37 : decode M_Mo_sound.2.1 37 = .ok (.iconst 1, 1) := by decide +kernel
theorem d_Mo_sound_38 : decode M_Mo_sound.2.1 38 = .ok (.iadd, 1) := by decide +kernel
theorem d_Mo_sound_39 : decode M_Mo_sound.2.1 39 = .ok (.aload_n 0, 1) := by decide +kernel
theorem d_Mo_sound_40 : decode M_Mo_sound.2.1 40 = .ok (.getfield 54, 3) := by decide +kernel
theorem d_Mo_sound_43 : decode M_Mo_sound.2.1 43 = .ok (.iload_n 1, 1) := by decide +kernel
theorem d_Mo_sound_44 : decode M_Mo_sound.2.1 44 = .ok (.iaload, 1) := by decide +kernel
theorem d_Mo_sound_45 : decode M_Mo_sound.2.1 45 = .ok (.if_icmp .lt 5, 3) := by decide +kernel
theorem d_Mo_sound_48 : decode M_Mo_sound.2.1 48 = .ok (.iconst 0, 1) := by decide +kernel
theorem d_Mo_sound_49 : decode M_Mo_sound.2.1 49 = .ok (.ireturn, 1) := by decide +kernel
theorem d_Mo_sound_50 : decode M_Mo_sound.2.1 50 = .ok (.iload 4, 2) := by decide +kernel
theorem d_Mo_sound_52 : decode M_Mo_sound.2.1 52 = .ok (.bipush 6, 2) := by decide +kernel
theorem d_Mo_sound_54 : decode M_Mo_sound.2.1 54 = .ok (.if_icmp .le 54, 3) := by decide +kernel
theorem d_Mo_sound_57 : decode M_Mo_sound.2.1 57 = .ok (.iload 4, 2) := by decide +kernel
theorem d_Mo_sound_59 : decode M_Mo_sound.2.1 59 = .ok (.bipush 10, 2) := by decide +kernel
theorem d_Mo_sound_61 : decode M_Mo_sound.2.1 61 = .ok (.if_icmp .ge 47, 3) := by decide +kernel
theorem d_Mo_sound_64 : decode M_Mo_sound.2.1 64 = .ok (.iload_n 2, 1) := by decide +kernel
theorem d_Mo_sound_65 : decode M_Mo_sound.2.1 65 = .ok (.iconst 1, 1) := by decide +kernel
theorem d_Mo_sound_66 : decode M_Mo_sound.2.1 66 = .ok (.iadd, 1) := by decide +kernel
theorem d_Mo_sound_67 : decode M_Mo_sound.2.1 67 = .ok (.aload_n 0, 1) := by decide +kernel
theorem d_Mo_sound_68 : decode M_Mo_sound.2.1 68 = .ok (.getfield 57, 3) := by decide +kernel
theorem d_Mo_sound_71 : decode M_Mo_sound.2.1 71 = .ok (.iload_n 3, 1) := by decide +kernel
theorem d_Mo_sound_72 : decode M_Mo_sound.2.1 72 = .ok (.iconst 2, 1) := by decide +kernel
theorem d_Mo_sound_73 : decode M_Mo_sound.2.1 73 = .ok (.iadd, 1) := by decide +kernel
theorem d_Mo_sound_74 : decode M_Mo_sound.2.1 74 = .ok (.iaload, 1) := by decide +kernel
theorem d_Mo_sound_75 : decode M_Mo_sound.2.1 75 = .ok (.iadd, 1) := by decide +kernel
theorem d_Mo_sound_76 : decode M_Mo_sound.2.1 76 = .ok (.aload_n 0, 1) := by decide +kernel
theorem d_Mo_sound_77 : decode M_Mo_sound.2.1 77 = .ok (.getfield 54, 3) := by decide +kernel
theorem d_Mo_sound_80 : decode M_Mo_sound.2.1 80 = .ok (.iload_n 1, 1) := by decide +kernel
theorem d_Mo_sound_81 : decode M_Mo_sound.2.1 81 = .ok (.iaload, 1) := by decide +kernel
theorem d_Mo_sound_82 : decode M_Mo_sound.2.1 82 = .ok (.if_icmp .ge 24, 3) := by decide +kernel
theorem d_Mo_sound_85 : decode M_Mo_sound.2.1 85 = .ok (.iload_n 2, 1) := by decide +kernel
theorem d_Mo_sound_86 : decode M_Mo_sound.2.1 86 = .ok (.iconst 1, 1) := by decide +kernel
theorem d_Mo_sound_87 : decode M_Mo_sound.2.1 87 = .ok (.iadd, 1) := by decide +kernel
theorem d_Mo_sound_88 : decode M_Mo_sound.2.1 88 = .ok (.aload_n 0, 1) := by decide +kernel
theorem d_Mo_sound_89 : decode M_Mo_sound.2.1 89 = .ok (.getfield 57, 3) := by decide +kernel
theorem d_Mo_sound_92 : decode M_Mo_sound.2.1 92 = .ok (.iload_n 3, 1) := by decide +kernel
theorem d_Mo_sound_93 : decode M_Mo_sound.2.1 93 = .ok (.iconst 3, 1) := by decide +kernel
theorem d_Mo_sound_94 : decode M_Mo_sound.2.1 94 = .ok (.iadd, 1) := by decide +kernel
theorem d_Mo_sound_95 : decode M_Mo_sound.2.1 95 = .ok (.iaload, 1) := by decide +kernel
theorem d_Mo_sound_96 : decode M_Mo_sound.2.1 96 = .ok (.iadd, 1) := by decide +kernel
theorem d_Mo_sound_97 : decode M_Mo_sound.2.1 97 = .ok (.aload_n 0, 1) := by decide +kernel
theorem d_Mo_sound_98 : decode M_Mo_sound.2.1 98 = .ok (.getfield 54, 3) := by decide +kernel
theorem d_Mo_sound_101 : decode M_Mo_sound.2.1 101 = .ok (.iload_n 1, 1) := by decide +kernel
theorem d_Mo_sound_102 : decode M_Mo_sound.2.1 102 = .ok (.iaload, 1) := by decide +kernel
theorem d_Mo_sound_103 : decode M_Mo_sound.2.1 103 = .ok (.if_icmp .lt 5, 3) := by decide +kernel
theorem d_Mo_sound_106 : decode M_Mo_sound.2.1 106 = .ok (.iconst 0, 1) := by decide +kernel
theorem d_Mo_sound_107 : decode M_Mo_sound.2.1 107 = .ok (.ireturn, 1) := by decide +kernel
theorem d_Mo_sound_108 : decode M_Mo_sound.2.1 108 = .ok (.iinc 2 1, 3) := by decide +kernel
theorem d_Mo_sound_111 : decode M_Mo_sound.2.1 111 = .ok (.goto (-109), 3) := by decide +kernel
theorem d_Mo_sound_114 : decode M_Mo_sound.2.1 114 = .ok (.iconst 1, 1) := by decide +kernel
theorem d_Mo_sound_115 : decode M_Mo_sound.2.1 115 = .ok (.ireturn, 1) := by decide +kernel
theorem d_Mo_push_0 : decode M_Mo_push.2.1 0 = .ok (.aload_n 0, 1) := by decide +kernel
theorem d_Mo_push_1 : decode M_Mo_push.2.1 1 = .ok (.iload_n 1, 1) := by decide +kernel
theorem d_Mo_push_2 : decode M_Mo_push.2.1 2 = .ok (.sipush 256, 3) := by decide +kernel
theorem d_Mo_push_5 : decode M_Mo_push.2.1 5 = .ok (.invokevirtual 111, 3) := by decide +kernel
theorem d_Mo_push_8 : decode M_Mo_push.2.1 8 = .ok (.ifCond .eq 5, 3) := by decide +kernel
theorem d_Mo_push_11 : decode M_Mo_push.2.1 11 = .ok (.iconst (-1), 1) := by decide +kernel
theorem d_Mo_push_12 : decode M_Mo_push.2.1 12 = .ok (.ireturn, 1) := by decide +kernel
theorem d_Mo_push_13 : decode M_Mo_push.2.1 13 = .ok (.aload_n 0, 1) := by decide +kernel
theorem d_Mo_push_14 : decode M_Mo_push.2.1 14 = .ok (.getfield 66, 3) := by decide +kernel
theorem d_Mo_push_17 : decode M_Mo_push.2.1 17 = .ok (.bipush 16, 2) := by decide +kernel
theorem d_Mo_push_19 : decode M_Mo_push.2.1 19 = .ok (.if_icmp .ne 6, 3) := by decide +kernel
theorem d_Mo_push_22 : decode M_Mo_push.2.1 22 = .ok (.bipush (-2), 2) := by decide +kernel
theorem d_Mo_push_24 : decode M_Mo_push.2.1 24 = .ok (.ireturn, 1) := by decide +kernel
theorem d_Mo_push_25 : decode M_Mo_push.2.1 25 = .ok (.aload_n 0, 1) := by decide +kernel
theorem d_Mo_push_26 : decode M_Mo_push.2.1 26 = .ok (.getfield 69, 3) := by decide +kernel
theorem d_Mo_push_29 : decode M_Mo_push.2.1 29 = .ok (.aload_n 0, 1) := by decide +kernel
theorem d_Mo_push_30 : decode M_Mo_push.2.1 30 = .ok (.getfield 66, 3) := by decide +kernel
theorem d_Mo_push_33 : decode M_Mo_push.2.1 33 = .ok (.iload_n 1, 1) := by decide +kernel
theorem d_Mo_push_34 : decode M_Mo_push.2.1 34 = .ok (.iastore, 1) := by decide +kernel
theorem d_Mo_push_35 : decode M_Mo_push.2.1 35 = .ok (.aload_n 0, 1) := by decide +kernel
theorem d_Mo_push_36 : decode M_Mo_push.2.1 36 = .ok (.dup, 1) := by decide +kernel
theorem d_Mo_push_37 : decode M_Mo_push.2.1 37 = .ok (.getfield 66, 3) := by decide +kernel
theorem d_Mo_push_40 : decode M_Mo_push.2.1 40 = .ok (.iconst 1, 1) := by decide +kernel
theorem d_Mo_push_41 : decode M_Mo_push.2.1 41 = .ok (.iadd, 1) := by decide +kernel
theorem d_Mo_push_42 : decode M_Mo_push.2.1 42 = .ok (.putfield 66, 3) := by decide +kernel
theorem d_Mo_push_45 : decode M_Mo_push.2.1 45 = .ok (.aload_n 0, 1) := by decide +kernel
theorem d_Mo_push_46 : decode M_Mo_push.2.1 46 = .ok (.getfield 66, 3) := by decide +kernel
theorem d_Mo_push_49 : decode M_Mo_push.2.1 49 = .ok (.ireturn, 1) := by decide +kernel
theorem d_Mo_arrive_0 : decode M_Mo_arrive.2.1 0 = .ok (.iconst (-1), 1) := by decide +kernel
theorem d_Mo_arrive_1 : decode M_Mo_arrive.2.1 1 = .ok (.istore_n 1, 1) := by decide +kernel
theorem d_Mo_arrive_2 : decode M_Mo_arrive.2.1 2 = .ok (.iconst 0, 1) := by decide +kernel
theorem d_Mo_arrive_3 : decode M_Mo_arrive.2.1 3 = .ok (.istore_n 2, 1) := by decide +kernel
theorem d_Mo_arrive_4 : decode M_Mo_arrive.2.1 4 = .ok (.iload_n 2, 1) := by decide +kernel
theorem d_Mo_arrive_5 : decode M_Mo_arrive.2.1 5 = .ok (.aload_n 0, 1) := by decide +kernel
theorem d_Mo_arrive_6 : decode M_Mo_arrive.2.1 6 = .ok (.getfield 63, 3) := by decide +kernel
theorem d_Mo_arrive_9 : decode M_Mo_arrive.2.1 9 = .ok (.if_icmp .ge 33, 3) := by decide +kernel
theorem d_Mo_arrive_12 : decode M_Mo_arrive.2.1 12 = .ok (.iload_n 1, 1) := by decide +kernel
theorem d_Mo_arrive_13 : decode M_Mo_arrive.2.1 13 = .ok (.ifCond .ge 29, 3) := by decide +kernel
theorem d_Mo_arrive_16 : decode M_Mo_arrive.2.1 16 = .ok (.aload_n 0, 1) := by decide +kernel
theorem d_Mo_arrive_17 : decode M_Mo_arrive.2.1 17 = .ok (.aload_n 0, 1) := by decide +kernel
theorem d_Mo_arrive_18 : decode M_Mo_arrive.2.1 18 = .ok (.getfield 60, 3) := by decide +kernel
theorem d_Mo_arrive_21 : decode M_Mo_arrive.2.1 21 = .ok (.iload_n 2, 1) := by decide +kernel
theorem d_Mo_arrive_22 : decode M_Mo_arrive.2.1 22 = .ok (.iaload, 1) := by decide +kernel
theorem d_Mo_arrive_23 : decode M_Mo_arrive.2.1 23 = .ok (.invokevirtual 145, 3) := by decide +kernel
theorem d_Mo_arrive_26 : decode M_Mo_arrive.2.1 26 = .ok (.ifCond .eq 10, 3) := by decide +kernel
theorem d_Mo_arrive_29 : decode M_Mo_arrive.2.1 29 = .ok (.aload_n 0, 1) := by decide +kernel
theorem d_Mo_arrive_30 : decode M_Mo_arrive.2.1 30 = .ok (.getfield 60, 3) := by decide +kernel
theorem d_Mo_arrive_33 : decode M_Mo_arrive.2.1 33 = .ok (.iload_n 2, 1) := by decide +kernel
theorem d_Mo_arrive_34 : decode M_Mo_arrive.2.1 34 = .ok (.iaload, 1) := by decide +kernel
theorem d_Mo_arrive_35 : decode M_Mo_arrive.2.1 35 = .ok (.istore_n 1, 1) := by decide +kernel
theorem d_Mo_arrive_36 : decode M_Mo_arrive.2.1 36 = .ok (.iinc 2 1, 3) := by decide +kernel
theorem d_Mo_arrive_39 : decode M_Mo_arrive.2.1 39 = .ok (.goto (-35), 3) := by decide +kernel
theorem d_Mo_arrive_42 : decode M_Mo_arrive.2.1 42 = .ok (.aload_n 0, 1) := by decide +kernel
theorem d_Mo_arrive_43 : decode M_Mo_arrive.2.1 43 = .ok (.getfield 66, 3) := by decide +kernel
theorem d_Mo_arrive_46 : decode M_Mo_arrive.2.1 46 = .ok (.istore_n 2, 1) := by decide +kernel
theorem d_Mo_arrive_47 : decode M_Mo_arrive.2.1 47 = .ok (.aload_n 0, 1) := by decide +kernel
theorem d_Mo_arrive_48 : decode M_Mo_arrive.2.1 48 = .ok (.iconst 0, 1) := by decide +kernel
theorem d_Mo_arrive_49 : decode M_Mo_arrive.2.1 49 = .ok (.putfield 66, 3) := by decide +kernel
theorem d_Mo_arrive_52 : decode M_Mo_arrive.2.1 52 = .ok (.iload_n 1, 1) := by decide +kernel
theorem d_Mo_arrive_53 : decode M_Mo_arrive.2.1 53 = .ok (.ifCond .ge 5, 3) := by decide +kernel
theorem d_Mo_arrive_56 : decode M_Mo_arrive.2.1 56 = .ok (.iconst (-1), 1) := by decide +kernel
theorem d_Mo_arrive_57 : decode M_Mo_arrive.2.1 57 = .ok (.ireturn, 1) := by decide +kernel
theorem d_Mo_arrive_58 : decode M_Mo_arrive.2.1 58 = .ok (.aload_n 0, 1) := by decide +kernel
theorem d_Mo_arrive_59 : decode M_Mo_arrive.2.1 59 = .ok (.getfield 72, 3) := by decide +kernel
theorem d_Mo_arrive_62 : decode M_Mo_arrive.2.1 62 = .ok (.iload_n 1, 1) := by decide +kernel
theorem d_Mo_arrive_63 : decode M_Mo_arrive.2.1 63 = .ok (.iaload, 1) := by decide +kernel
theorem d_Mo_arrive_64 : decode M_Mo_arrive.2.1 64 = .ok (.iconst 4, 1) := by decide +kernel
theorem d_Mo_arrive_65 : decode M_Mo_arrive.2.1 65 = .ok (.if_icmp .ne 16, 3) := by decide +kernel
theorem d_Mo_arrive_68 : decode M_Mo_arrive.2.1 68 = .ok (.aload_n 0, 1) := by decide +kernel
theorem d_Mo_arrive_69 : decode M_Mo_arrive.2.1 69 = .ok (.dup, 1) := by decide +kernel
theorem d_Mo_arrive_70 : decode M_Mo_arrive.2.1 70 = .ok (.getfield 30, 3) := by decide +kernel
theorem d_Mo_arrive_73 : decode M_Mo_arrive.2.1 73 = .ok (.iconst 1, 1) := by decide +kernel
theorem d_Mo_arrive_74 : decode M_Mo_arrive.2.1 74 = .ok (.iadd, 1) := by decide +kernel
theorem d_Mo_arrive_75 : decode M_Mo_arrive.2.1 75 = .ok (.putfield 30, 3) := by decide +kernel
theorem d_Mo_arrive_78 : decode M_Mo_arrive.2.1 78 = .ok (.bipush (-6), 2) := by decide +kernel
theorem d_Mo_arrive_80 : decode M_Mo_arrive.2.1 80 = .ok (.ireturn, 1) := by decide +kernel
theorem d_Mo_arrive_81 : decode M_Mo_arrive.2.1 81 = .ok (.iload_n 1, 1) := by decide +kernel
theorem d_Mo_arrive_82 : decode M_Mo_arrive.2.1 82 = .ok (.iconst 4, 1) := by decide +kernel
theorem d_Mo_arrive_83 : decode M_Mo_arrive.2.1 83 = .ok (.imul, 1) := by decide +kernel
theorem d_Mo_arrive_84 : decode M_Mo_arrive.2.1 84 = .ok (.aload_n 0, 1) := by decide +kernel
theorem d_Mo_arrive_85 : decode M_Mo_arrive.2.1 85 = .ok (.getfield 72, 3) := by decide +kernel
theorem d_Mo_arrive_88 : decode M_Mo_arrive.2.1 88 = .ok (.iload_n 1, 1) := by decide +kernel
theorem d_Mo_arrive_89 : decode M_Mo_arrive.2.1 89 = .ok (.iaload, 1) := by decide +kernel
theorem d_Mo_arrive_90 : decode M_Mo_arrive.2.1 90 = .ok (.iadd, 1) := by decide +kernel
theorem d_Mo_arrive_91 : decode M_Mo_arrive.2.1 91 = .ok (.istore_n 3, 1) := by decide +kernel
theorem d_Mo_arrive_92 : decode M_Mo_arrive.2.1 92 = .ok (.aload_n 0, 1) := by decide +kernel
theorem d_Mo_arrive_93 : decode M_Mo_arrive.2.1 93 = .ok (.getfield 75, 3) := by decide +kernel
theorem d_Mo_arrive_96 : decode M_Mo_arrive.2.1 96 = .ok (.iload_n 3, 1) := by decide +kernel
theorem d_Mo_arrive_97 : decode M_Mo_arrive.2.1 97 = .ok (.iload_n 2, 1) := by decide +kernel
theorem d_Mo_arrive_98 : decode M_Mo_arrive.2.1 98 = .ok (.iastore, 1) := by decide +kernel
theorem d_Mo_arrive_99 : decode M_Mo_arrive.2.1 99 = .ok (.iconst 0, 1) := by decide +kernel
theorem d_Mo_arrive_100 : decode M_Mo_arrive.2.1 100 = .ok (.istore 4, 2) := by decide +kernel
theorem d_Mo_arrive_102 : decode M_Mo_arrive.2.1 102 = .ok (.iload 4, 2) := by decide +kernel
theorem d_Mo_arrive_104 : decode M_Mo_arrive.2.1 104 = .ok (.iload_n 2, 1) := by decide +kernel
theorem d_Mo_arrive_105 : decode M_Mo_arrive.2.1 105 = .ok (.if_icmp .ge 28, 3) := by decide +kernel
theorem d_Mo_arrive_108 : decode M_Mo_arrive.2.1 108 = .ok (.aload_n 0, 1) := by decide +kernel
theorem d_Mo_arrive_109 : decode M_Mo_arrive.2.1 109 = .ok (.getfield 78, 3) := by decide +kernel
theorem d_Mo_arrive_112 : decode M_Mo_arrive.2.1 112 = .ok (.iload_n 3, 1) := by decide +kernel
theorem d_Mo_arrive_113 : decode M_Mo_arrive.2.1 113 = .ok (.bipush 16, 2) := by decide +kernel
theorem d_Mo_arrive_115 : decode M_Mo_arrive.2.1 115 = .ok (.imul, 1) := by decide +kernel
theorem d_Mo_arrive_116 : decode M_Mo_arrive.2.1 116 = .ok (.iload 4, 2) := by decide +kernel
theorem d_Mo_arrive_118 : decode M_Mo_arrive.2.1 118 = .ok (.iadd, 1) := by decide +kernel
theorem d_Mo_arrive_119 : decode M_Mo_arrive.2.1 119 = .ok (.aload_n 0, 1) := by decide +kernel
theorem d_Mo_arrive_120 : decode M_Mo_arrive.2.1 120 = .ok (.getfield 69, 3) := by decide +kernel
theorem d_Mo_arrive_123 : decode M_Mo_arrive.2.1 123 = .ok (.iload 4, 2) := by decide +kernel
theorem d_Mo_arrive_125 : decode M_Mo_arrive.2.1 125 = .ok (.iaload, 1) := by decide +kernel
theorem d_Mo_arrive_126 : decode M_Mo_arrive.2.1 126 = .ok (.iastore, 1) := by decide +kernel
theorem d_Mo_arrive_127 : decode M_Mo_arrive.2.1 127 = .ok (.iinc 4 1, 3) := by decide +kernel
theorem d_Mo_arrive_130 : decode M_Mo_arrive.2.1 130 = .ok (.goto (-28), 3) := by decide +kernel
theorem d_Mo_arrive_133 : decode M_Mo_arrive.2.1 133 = .ok (.aload_n 0, 1) := by decide +kernel
theorem d_Mo_arrive_134 : decode M_Mo_arrive.2.1 134 = .ok (.getfield 72, 3) := by decide +kernel
theorem d_Mo_arrive_137 : decode M_Mo_arrive.2.1 137 = .ok (.iload_n 1, 1) := by decide +kernel
theorem d_Mo_arrive_138 : decode M_Mo_arrive.2.1 138 = .ok (.dup2, 1) := by decide +kernel
theorem d_Mo_arrive_139 : decode M_Mo_arrive.2.1 139 = .ok (.iaload, 1) := by decide +kernel
theorem d_Mo_arrive_140 : decode M_Mo_arrive.2.1 140 = .ok (.iconst 1, 1) := by decide +kernel
theorem d_Mo_arrive_141 : decode M_Mo_arrive.2.1 141 = .ok (.iadd, 1) := by decide +kernel
theorem d_Mo_arrive_142 : decode M_Mo_arrive.2.1 142 = .ok (.iastore, 1) := by decide +kernel
theorem d_Mo_arrive_143 : decode M_Mo_arrive.2.1 143 = .ok (.iload_n 1, 1) := by decide +kernel
theorem d_Mo_arrive_144 : decode M_Mo_arrive.2.1 144 = .ok (.ireturn, 1) := by decide +kernel
theorem d_Mo_accepts_0 : decode M_Mo_accepts.2.1 0 = .ok (.aload_n 0, 1) := by decide +kernel
theorem d_Mo_accepts_1 : decode M_Mo_accepts.2.1 1 = .ok (.iconst 0, 1) := by decide +kernel
theorem d_Mo_accepts_2 : decode M_Mo_accepts.2.1 2 = .ok (.putfield 81, 3) := by decide +kernel
theorem d_Mo_accepts_5 : decode M_Mo_accepts.2.1 5 = .ok (.aload_n 0, 1) := by decide +kernel
theorem d_Mo_accepts_6 : decode M_Mo_accepts.2.1 6 = .ok (.iconst 0, 1) := by decide +kernel
theorem d_Mo_accepts_7 : decode M_Mo_accepts.2.1 7 = .ok (.putfield 84, 3) := by decide +kernel
theorem d_Mo_accepts_10 : decode M_Mo_accepts.2.1 10 = .ok (.iconst 0, 1) := by decide +kernel
theorem d_Mo_accepts_11 : decode M_Mo_accepts.2.1 11 = .ok (.istore_n 2, 1) := by decide +kernel
theorem d_Mo_accepts_12 : decode M_Mo_accepts.2.1 12 = .ok (.iload_n 2, 1) := by decide +kernel
theorem d_Mo_accepts_13 : decode M_Mo_accepts.2.1 13 = .ok (.bipush 16, 2) := by decide +kernel
theorem d_Mo_accepts_15 : decode M_Mo_accepts.2.1 15 = .ok (.if_icmp .ge 186, 3) := by decide +kernel
theorem d_Mo_accepts_18 : decode M_Mo_accepts.2.1 18 = .ok (.sipush 384, 3) := by decide +kernel
theorem d_Mo_accepts_21 : decode M_Mo_accepts.2.1 21 = .ok (.iload_n 1, 1) := by decide +kernel
theorem d_Mo_accepts_22 : decode M_Mo_accepts.2.1 22 = .ok (.bipush 64, 2) := by decide +kernel
theorem d_Mo_accepts_24 : decode M_Mo_accepts.2.1 24 = .ok (.imul, 1) := by decide +kernel
theorem d_Mo_accepts_25 : decode M_Mo_accepts.2.1 25 = .ok (.iadd, 1) := by decide +kernel
theorem d_Mo_accepts_26 : decode M_Mo_accepts.2.1 26 = .ok (.iload_n 2, 1) := by decide +kernel
theorem d_Mo_accepts_27 : decode M_Mo_accepts.2.1 27 = .ok (.iconst 4, 1) := by decide +kernel
theorem d_Mo_accepts_28 : decode M_Mo_accepts.2.1 28 = .ok (.imul, 1) := by decide +kernel
theorem d_Mo_accepts_29 : decode M_Mo_accepts.2.1 29 = .ok (.iadd, 1) := by decide +kernel
theorem d_Mo_accepts_30 : decode M_Mo_accepts.2.1 30 = .ok (.istore_n 3, 1) := by decide +kernel
theorem d_Mo_accepts_31 : decode M_Mo_accepts.2.1 31 = .ok (.aload_n 0, 1) := by decide +kernel
theorem d_Mo_accepts_32 : decode M_Mo_accepts.2.1 32 = .ok (.getfield 57, 3) := by decide +kernel
theorem d_Mo_accepts_35 : decode M_Mo_accepts.2.1 35 = .ok (.iload_n 3, 1) := by decide +kernel
theorem d_Mo_accepts_36 : decode M_Mo_accepts.2.1 36 = .ok (.iaload, 1) := by decide +kernel
theorem d_Mo_accepts_37 : decode M_Mo_accepts.2.1 37 = .ok (.istore 4, 2) := by decide +kernel
theorem d_Mo_accepts_39 : decode M_Mo_accepts.2.1 39 = .ok (.aload_n 0, 1) := by decide +kernel
theorem d_Mo_accepts_40 : decode M_Mo_accepts.2.1 40 = .ok (.getfield 57, 3) := by decide +kernel
theorem d_Mo_accepts_43 : decode M_Mo_accepts.2.1 43 = .ok (.iload_n 3, 1) := by decide +kernel
theorem d_Mo_accepts_44 : decode M_Mo_accepts.2.1 44 = .ok (.iconst 1, 1) := by decide +kernel
theorem d_Mo_accepts_45 : decode M_Mo_accepts.2.1 45 = .ok (.iadd, 1) := by decide +kernel
theorem d_Mo_accepts_46 : decode M_Mo_accepts.2.1 46 = .ok (.iaload, 1) := by decide +kernel
theorem d_Mo_accepts_47 : decode M_Mo_accepts.2.1 47 = .ok (.istore 5, 2) := by decide +kernel
theorem d_Mo_accepts_49 : decode M_Mo_accepts.2.1 49 = .ok (.iload 4, 2) := by decide +kernel
theorem d_Mo_accepts_51 : decode M_Mo_accepts.2.1 51 = .ok (.bipush 10, 2) := by decide +kernel
theorem d_Mo_accepts_53 : decode M_Mo_accepts.2.1 53 = .ok (.if_icmp .ne 14, 3) := by decide +kernel
theorem d_Mo_accepts_56 : decode M_Mo_accepts.2.1 56 = .ok (.iload 5, 2) := by decide +kernel
theorem d_Mo_accepts_58 : decode M_Mo_accepts.2.1 58 = .ok (.ifCond .eq 7, 3) := by decide +kernel
theorem d_Mo_accepts_61 : decode M_Mo_accepts.2.1 61 = .ok (.iconst 1, 1) := by decide +kernel
theorem d_Mo_accepts_62 : decode M_Mo_accepts.2.1 62 = .ok (.goto 4, 3) := by decide +kernel
theorem d_Mo_accepts_65 : decode M_Mo_accepts.2.1 65 = .ok (.iconst 0, 1) := by decide +kernel
theorem d_Mo_accepts_66 : decode M_Mo_accepts.2.1 66 = .ok (.ireturn, 1) := by decide +kernel
theorem d_Mo_accepts_67 : decode M_Mo_accepts.2.1 67 = .ok (.iload 4, 2) := by decide +kernel
theorem d_Mo_accepts_69 : decode M_Mo_accepts.2.1 69 = .ok (.bipush 11, 2) := by decide +kernel
theorem d_Mo_accepts_71 : decode M_Mo_accepts.2.1 71 = .ok (.if_icmp .ne 16, 3) := by decide +kernel
theorem d_Mo_accepts_74 : decode M_Mo_accepts.2.1 74 = .ok (.aload_n 0, 1) := by decide +kernel
theorem d_Mo_accepts_75 : decode M_Mo_accepts.2.1 75 = .ok (.getfield 81, 3) := by decide +kernel
theorem d_Mo_accepts_78 : decode M_Mo_accepts.2.1 78 = .ok (.ifCond .eq 7, 3) := by decide +kernel
theorem d_Mo_accepts_81 : decode M_Mo_accepts.2.1 81 = .ok (.iconst 1, 1) := by decide +kernel
theorem d_Mo_accepts_82 : decode M_Mo_accepts.2.1 82 = .ok (.goto 4, 3) := by decide +kernel
theorem d_Mo_accepts_85 : decode M_Mo_accepts.2.1 85 = .ok (.iconst 0, 1) := by decide +kernel
theorem d_Mo_accepts_86 : decode M_Mo_accepts.2.1 86 = .ok (.ireturn, 1) := by decide +kernel
theorem d_Mo_accepts_87 : decode M_Mo_accepts.2.1 87 = .ok (.iload 4, 2) := by decide +kernel
theorem d_Mo_accepts_89 : decode M_Mo_accepts.2.1 89 = .ok (.bipush 7, 2) := by decide +kernel
theorem d_Mo_accepts_91 : decode M_Mo_accepts.2.1 91 = .ok (.if_icmp .ne 20, 3) := by decide +kernel
theorem d_Mo_accepts_94 : decode M_Mo_accepts.2.1 94 = .ok (.aload_n 0, 1) := by decide +kernel
theorem d_Mo_accepts_95 : decode M_Mo_accepts.2.1 95 = .ok (.getfield 81, 3) := by decide +kernel
theorem d_Mo_accepts_98 : decode M_Mo_accepts.2.1 98 = .ok (.iload 5, 2) := by decide +kernel
theorem d_Mo_accepts_100 : decode M_Mo_accepts.2.1 100 = .ok (.if_icmp .ne 7, 3) := by decide +kernel
theorem d_Mo_accepts_103 : decode M_Mo_accepts.2.1 103 = .ok (.iconst 1, 1) := by decide +kernel
theorem d_Mo_accepts_104 : decode M_Mo_accepts.2.1 104 = .ok (.goto 46, 3) := by decide +kernel
theorem d_Mo_accepts_107 : decode M_Mo_accepts.2.1 107 = .ok (.iconst 0, 1) := by decide +kernel
theorem d_Mo_accepts_108 : decode M_Mo_accepts.2.1 108 = .ok (.goto 42, 3) := by decide +kernel
theorem d_Mo_accepts_111 : decode M_Mo_accepts.2.1 111 = .ok (.iload 4, 2) := by decide +kernel
theorem d_Mo_accepts_113 : decode M_Mo_accepts.2.1 113 = .ok (.bipush 8, 2) := by decide +kernel
theorem d_Mo_accepts_115 : decode M_Mo_accepts.2.1 115 = .ok (.if_icmp .ne 20, 3) := by decide +kernel
theorem d_Mo_accepts_118 : decode M_Mo_accepts.2.1 118 = .ok (.aload_n 0, 1) := by decide +kernel
theorem d_Mo_accepts_119 : decode M_Mo_accepts.2.1 119 = .ok (.getfield 81, 3) := by decide +kernel
theorem d_Mo_accepts_122 : decode M_Mo_accepts.2.1 122 = .ok (.iload 5, 2) := by decide +kernel
theorem d_Mo_accepts_124 : decode M_Mo_accepts.2.1 124 = .ok (.if_icmp .le 7, 3) := by decide +kernel
theorem d_Mo_accepts_127 : decode M_Mo_accepts.2.1 127 = .ok (.iconst 1, 1) := by decide +kernel
theorem d_Mo_accepts_128 : decode M_Mo_accepts.2.1 128 = .ok (.goto 22, 3) := by decide +kernel
theorem d_Mo_accepts_131 : decode M_Mo_accepts.2.1 131 = .ok (.iconst 0, 1) := by decide +kernel
theorem d_Mo_accepts_132 : decode M_Mo_accepts.2.1 132 = .ok (.goto 18, 3) := by decide +kernel
theorem d_Mo_accepts_135 : decode M_Mo_accepts.2.1 135 = .ok (.aload_n 0, 1) := by decide +kernel
theorem d_Mo_accepts_136 : decode M_Mo_accepts.2.1 136 = .ok (.getfield 81, 3) := by decide +kernel
theorem d_Mo_accepts_139 : decode M_Mo_accepts.2.1 139 = .ok (.iload 5, 2) := by decide +kernel
theorem d_Mo_accepts_141 : decode M_Mo_accepts.2.1 141 = .ok (.iand, 1) := by decide +kernel
theorem d_Mo_accepts_142 : decode M_Mo_accepts.2.1 142 = .ok (.ifCond .eq 7, 3) := by decide +kernel
theorem d_Mo_accepts_145 : decode M_Mo_accepts.2.1 145 = .ok (.iconst 1, 1) := by decide +kernel
theorem d_Mo_accepts_146 : decode M_Mo_accepts.2.1 146 = .ok (.goto 4, 3) := by decide +kernel
theorem d_Mo_accepts_149 : decode M_Mo_accepts.2.1 149 = .ok (.iconst 0, 1) := by decide +kernel
theorem d_Mo_accepts_150 : decode M_Mo_accepts.2.1 150 = .ok (.istore 6, 2) := by decide +kernel
theorem d_Mo_accepts_152 : decode M_Mo_accepts.2.1 152 = .ok (.iload 4, 2) := by decide +kernel
theorem d_Mo_accepts_154 : decode M_Mo_accepts.2.1 154 = .ok (.bipush 6, 2) := by decide +kernel
theorem d_Mo_accepts_156 : decode M_Mo_accepts.2.1 156 = .ok (.if_icmp .le 26, 3) := by decide +kernel
theorem d_Mo_accepts_159 : decode M_Mo_accepts.2.1 159 = .ok (.iload_n 2, 1) := by decide +kernel
theorem d_Mo_accepts_160 : decode M_Mo_accepts.2.1 160 = .ok (.aload_n 0, 1) := by decide +kernel
theorem d_Mo_accepts_161 : decode M_Mo_accepts.2.1 161 = .ok (.getfield 57, 3) := by decide +kernel
theorem d_Mo_accepts_164 : decode M_Mo_accepts.2.1 164 = .ok (.iload_n 3, 1) := by decide +kernel
theorem d_Mo_accepts_165 : decode M_Mo_accepts.2.1 165 = .ok (.iload 6, 2) := by decide +kernel
theorem d_Mo_accepts_167 : decode M_Mo_accepts.2.1 167 = .ok (.ifCond .eq 7, 3) := by decide +kernel
theorem d_Mo_accepts_170 : decode M_Mo_accepts.2.1 170 = .ok (.iconst 2, 1) := by decide +kernel
theorem d_Mo_accepts_171 : decode M_Mo_accepts.2.1 171 = .ok (.goto 4, 3) := by decide +kernel
theorem d_Mo_accepts_174 : decode M_Mo_accepts.2.1 174 = .ok (.iconst 3, 1) := by decide +kernel
theorem d_Mo_accepts_175 : decode M_Mo_accepts.2.1 175 = .ok (.iadd, 1) := by decide +kernel
theorem d_Mo_accepts_176 : decode M_Mo_accepts.2.1 176 = .ok (.iaload, 1) := by decide +kernel
theorem d_Mo_accepts_177 : decode M_Mo_accepts.2.1 177 = .ok (.iadd, 1) := by decide +kernel
theorem d_Mo_accepts_178 : decode M_Mo_accepts.2.1 178 = .ok (.istore_n 2, 1) := by decide +kernel
theorem d_Mo_accepts_179 : decode M_Mo_accepts.2.1 179 = .ok (.goto 16, 3) := by decide +kernel
theorem d_Mo_accepts_182 : decode M_Mo_accepts.2.1 182 = .ok (.aload_n 0, 1) := by decide +kernel
theorem d_Mo_accepts_183 : decode M_Mo_accepts.2.1 183 = .ok (.iload 4, 2) := by decide +kernel
theorem d_Mo_accepts_185 : decode M_Mo_accepts.2.1 185 = .ok (.iload 5, 2) := by decide +kernel
theorem d_Mo_accepts_187 : decode M_Mo_accepts.2.1 187 = .ok (.invokevirtual 142, 3) := by decide +kernel
theorem d_Mo_accepts_190 : decode M_Mo_accepts.2.1 190 = .ok (.ifCond .ne 5, 3) := by decide +kernel
theorem d_Mo_accepts_193 : decode M_Mo_accepts.2.1 193 = .ok (.iconst 0, 1) := by decide +kernel
theorem d_Mo_accepts_194 : decode M_Mo_accepts.2.1 194 = .ok (.ireturn, 1) := by decide +kernel
theorem d_Mo_accepts_195 : decode M_Mo_accepts.2.1 195 = .ok (.iinc 2 1, 3) := by decide +kernel
theorem d_Mo_accepts_198 : decode M_Mo_accepts.2.1 198 = .ok (.goto (-186), 3) := by decide +kernel
theorem d_Mo_accepts_201 : decode M_Mo_accepts.2.1 201 = .ok (.iconst 0, 1) := by decide +kernel
theorem d_Mo_accepts_202 : decode M_Mo_accepts.2.1 202 = .ok (.ireturn, 1) := by decide +kernel
theorem d_Mo_plain_0 : decode M_Mo_plain.2.1 0 = .ok (.iload_n 1, 1) := by decide +kernel
theorem d_Mo_plain_1 : decode M_Mo_plain.2.1 1 = .ok (.ifCond .ne 8, 3) := by decide +kernel
theorem d_Mo_plain_4 : decode M_Mo_plain.2.1 4 = .ok (.iload_n 2, 1) := by decide +kernel
theorem d_Mo_plain_5 : decode M_Mo_plain.2.1 5 = .ok (.i2l, 1) := by decide +kernel
theorem d_Mo_plain_6 : decode M_Mo_plain.2.1 6 = .ok (.goto 11, 3) := by decide +kernel
theorem d_Mo_plain_9 : decode M_Mo_plain.2.1 9 = .ok (.aload_n 0, 1) := by decide +kernel
theorem d_Mo_plain_10 : decode M_Mo_plain.2.1 10 = .ok (.getfield 84, 3) := by decide +kernel
theorem d_Mo_plain_13 : decode M_Mo_plain.2.1 13 = .ok (.i2l, 1) := by decide +kernel
theorem d_Mo_plain_14 : decode M_Mo_plain.2.1 14 = .ok (.iload_n 2, 1) := by decide +kernel
theorem d_Mo_plain_15 : decode M_Mo_plain.2.1 15 = .ok (.i2l, 1) := by decide +kernel
theorem d_Mo_plain_16 : decode M_Mo_plain.2.1 16 = .ok (.ladd, 1) := by decide +kernel
theorem d_Mo_plain_17 : decode M_Mo_plain.2.1 17 = .ok (.lstore_n 3, 1) := by decide +kernel
theorem d_Mo_plain_18 : decode M_Mo_plain.2.1 18 = .ok (.iload_n 1, 1) := by decide +kernel
theorem d_Mo_plain_19 : decode M_Mo_plain.2.1 19 = .ok (.iconst 2, 1) := by decide +kernel
theorem d_Mo_plain_20 : decode M_Mo_plain.2.1 20 = .ok (.if_icmp .ge 21, 3) := by decide +kernel
theorem d_Mo_plain_23 : decode M_Mo_plain.2.1 23 = .ok (.lload_n 3, 1) := by decide +kernel
theorem d_Mo_plain_24 : decode M_Mo_plain.2.1 24 = .ok (.lconst 0, 1) := by decide +kernel
theorem d_Mo_plain_25 : decode M_Mo_plain.2.1 25 = .ok (.lcmp, 1) := by decide +kernel
theorem d_Mo_plain_26 : decode M_Mo_plain.2.1 26 = .ok (.ifCond .lt 13, 3) := by decide +kernel
theorem d_Mo_plain_29 : decode M_Mo_plain.2.1 29 = .ok (.lload_n 3, 1) := by decide +kernel
theorem d_Mo_plain_30 : decode M_Mo_plain.2.1 30 = .ok (.aload_n 0, 1) := by decide +kernel
theorem d_Mo_plain_31 : decode M_Mo_plain.2.1 31 = .ok (.getfield 66, 3) := by decide +kernel
theorem d_Mo_plain_34 : decode M_Mo_plain.2.1 34 = .ok (.i2l, 1) := by decide +kernel
theorem d_Mo_plain_35 : decode M_Mo_plain.2.1 35 = .ok (.lcmp, 1) := by decide +kernel
theorem d_Mo_plain_36 : decode M_Mo_plain.2.1 36 = .ok (.ifCond .lt 5, 3) := by decide +kernel
theorem d_Mo_plain_39 : decode M_Mo_plain.2.1 39 = .ok (.iconst 0, 1) := by decide +kernel
theorem d_Mo_plain_40 : decode M_Mo_plain.2.1 40 = .ok (.ireturn, 1) := by decide +kernel
theorem d_Mo_plain_41 : decode M_Mo_plain.2.1 41 = .ok (.iload_n 1, 1) := by decide +kernel
theorem d_Mo_plain_42 : decode M_Mo_plain.2.1 42 = .ok (.iconst 2, 1) := by decide +kernel
theorem d_Mo_plain_43 : decode M_Mo_plain.2.1 43 = .ok (.if_icmp .ge 14, 3) := by decide +kernel
theorem d_Mo_plain_46 : decode M_Mo_plain.2.1 46 = .ok (.aload_n 0, 1) := by decide +kernel
theorem d_Mo_plain_47 : decode M_Mo_plain.2.1 47 = .ok (.aload_n 0, 1) := by decide +kernel
theorem d_Mo_plain_48 : decode M_Mo_plain.2.1 48 = .ok (.getfield 69, 3) := by decide +kernel
theorem d_Mo_plain_51 : decode M_Mo_plain.2.1 51 = .ok (.lload_n 3, 1) := by decide +kernel
theorem d_Mo_plain_52 : decode M_Mo_plain.2.1 52 = .ok (.l2i, 1) := by decide +kernel
theorem d_Mo_plain_53 : decode M_Mo_plain.2.1 53 = .ok (.iaload, 1) := by decide +kernel
theorem d_Mo_plain_54 : decode M_Mo_plain.2.1 54 = .ok (.putfield 81, 3) := by decide +kernel
theorem d_Mo_plain_57 : decode M_Mo_plain.2.1 57 = .ok (.iload_n 1, 1) := by decide +kernel
theorem d_Mo_plain_58 : decode M_Mo_plain.2.1 58 = .ok (.iconst 2, 1) := by decide +kernel
theorem d_Mo_plain_59 : decode M_Mo_plain.2.1 59 = .ok (.if_icmp .ne 11, 3) := by decide +kernel
theorem d_Mo_plain_62 : decode M_Mo_plain.2.1 62 = .ok (.aload_n 0, 1) := by decide +kernel
theorem d_Mo_plain_63 : decode M_Mo_plain.2.1 63 = .ok (.aload_n 0, 1) := by decide +kernel
theorem d_Mo_plain_64 : decode M_Mo_plain.2.1 64 = .ok (.getfield 66, 3) := by decide +kernel
theorem d_Mo_plain_67 : decode M_Mo_plain.2.1 67 = .ok (.putfield 81, 3) := by decide +kernel
theorem d_Mo_plain_70 : decode M_Mo_plain.2.1 70 = .ok (.iload_n 1, 1) := by decide +kernel
theorem d_Mo_plain_71 : decode M_Mo_plain.2.1 71 = .ok (.iconst 3, 1) := by decide +kernel
theorem d_Mo_plain_72 : decode M_Mo_plain.2.1 72 = .ok (.if_icmp .ne 11, 3) := by decide +kernel
theorem d_Mo_plain_75 : decode M_Mo_plain.2.1 75 = .ok (.aload_n 0, 1) := by decide +kernel
theorem d_Mo_plain_76 : decode M_Mo_plain.2.1 76 = .ok (.aload_n 0, 1) := by decide +kernel
theorem d_Mo_plain_77 : decode M_Mo_plain.2.1 77 = .ok (.getfield 81, 3) := by decide +kernel
theorem d_Mo_plain_80 : decode M_Mo_plain.2.1 80 = .ok (.putfield 84, 3) := by decide +kernel
theorem d_Mo_plain_83 : decode M_Mo_plain.2.1 83 = .ok (.iload_n 1, 1) := by decide +kernel
theorem d_Mo_plain_84 : decode M_Mo_plain.2.1 84 = .ok (.iconst 4, 1) := by decide +kernel
theorem d_Mo_plain_85 : decode M_Mo_plain.2.1 85 = .ok (.if_icmp .ne 13, 3) := by decide +kernel
theorem d_Mo_plain_88 : decode M_Mo_plain.2.1 88 = .ok (.aload_n 0, 1) := by decide +kernel
theorem d_Mo_plain_89 : decode M_Mo_plain.2.1 89 = .ok (.dup, 1) := by decide +kernel
theorem d_Mo_plain_90 : decode M_Mo_plain.2.1 90 = .ok (.getfield 81, 3) := by decide +kernel
theorem d_Mo_plain_93 : decode M_Mo_plain.2.1 93 = .ok (.iload_n 2, 1) := by decide +kernel
theorem d_Mo_plain_94 : decode M_Mo_plain.2.1 94 = .ok (.iadd, 1) := by decide +kernel
theorem d_Mo_plain_95 : decode M_Mo_plain.2.1 95 = .ok (.putfield 81, 3) := by decide +kernel
theorem d_Mo_plain_98 : decode M_Mo_plain.2.1 98 = .ok (.iload_n 1, 1) := by decide +kernel
theorem d_Mo_plain_99 : decode M_Mo_plain.2.1 99 = .ok (.iconst 5, 1) := by decide +kernel
theorem d_Mo_plain_100 : decode M_Mo_plain.2.1 100 = .ok (.if_icmp .ne 13, 3) := by decide +kernel
theorem d_Mo_plain_103 : decode M_Mo_plain.2.1 103 = .ok (.aload_n 0, 1) := by decide +kernel
theorem d_Mo_plain_104 : decode M_Mo_plain.2.1 104 = .ok (.dup, 1) := by decide +kernel
theorem d_Mo_plain_105 : decode M_Mo_plain.2.1 105 = .ok (.getfield 81, 3) := by decide +kernel
theorem d_Mo_plain_108 : decode M_Mo_plain.2.1 108 = .ok (.iload_n 2, 1) := by decide +kernel
theorem d_Mo_plain_109 : decode M_Mo_plain.2.1 109 = .ok (.iand, 1) := by decide +kernel
theorem d_Mo_plain_110 : decode M_Mo_plain.2.1 110 = .ok (.putfield 81, 3) := by decide +kernel
theorem d_Mo_plain_113 : decode M_Mo_plain.2.1 113 = .ok (.iload_n 1, 1) := by decide +kernel
theorem d_Mo_plain_114 : decode M_Mo_plain.2.1 114 = .ok (.bipush 6, 2) := by decide +kernel
theorem d_Mo_plain_116 : decode M_Mo_plain.2.1 116 = .ok (.if_icmp .ne 13, 3) := by decide +kernel
theorem d_Mo_plain_119 : decode M_Mo_plain.2.1 119 = .ok (.aload_n 0, 1) := by decide +kernel
theorem d_Mo_plain_120 : decode M_Mo_plain.2.1 120 = .ok (.dup, 1) := by decide +kernel
theorem d_Mo_plain_121 : decode M_Mo_plain.2.1 121 = .ok (.getfield 81, 3) := by decide +kernel
theorem d_Mo_plain_124 : decode M_Mo_plain.2.1 124 = .ok (.iload_n 2, 1) := by decide +kernel
theorem d_Mo_plain_125 : decode M_Mo_plain.2.1 125 = .ok (.iushr, 1) := by decide +kernel
theorem d_Mo_plain_126 : decode M_Mo_plain.2.1 126 = .ok (.putfield 81, 3) := by decide +kernel
theorem d_Mo_plain_129 : decode M_Mo_plain.2.1 129 = .ok (.iconst 1, 1) := by decide +kernel
theorem d_Mo_plain_130 : decode M_Mo_plain.2.1 130 = .ok (.ireturn, 1) := by decide +kernel
theorem d_Mo_got_0 : decode M_Mo_got.2.1 0 = .ok (.iload_n 2, 1) := by decide +kernel
theorem d_Mo_got_1 : decode M_Mo_got.2.1 1 = .ok (.iconst (-1), 1) := by decide +kernel
theorem d_Mo_got_2 : decode M_Mo_got.2.1 2 = .ok (.if_icmp .lt 32, 3) := by decide +kernel
theorem d_Mo_got_5 : decode M_Mo_got.2.1 5 = .ok (.aload_n 0, 1) := by decide +kernel
theorem d_Mo_got_6 : decode M_Mo_got.2.1 6 = .ok (.iload_n 1, 1) := by decide +kernel
theorem d_Mo_got_7 : decode M_Mo_got.2.1 7 = .ok (.invokevirtual 126, 3) := by decide +kernel
theorem d_Mo_got_10 : decode M_Mo_got.2.1 10 = .ok (.ifCond .ne 24, 3) := by decide +kernel
theorem d_Mo_got_13 : decode M_Mo_got.2.1 13 = .ok (.aload_n 0, 1) := by decide +kernel
theorem d_Mo_got_14 : decode M_Mo_got.2.1 14 = .ok (.getfield 72, 3) := by decide +kernel
theorem d_Mo_got_17 : decode M_Mo_got.2.1 17 = .ok (.iload_n 1, 1) := by decide +kernel
theorem d_Mo_got_18 : decode M_Mo_got.2.1 18 = .ok (.iaload, 1) := by decide +kernel
theorem d_Mo_got_19 : decode M_Mo_got.2.1 19 = .ok (.ifCond .eq 15, 3) := by decide +kernel
theorem d_Mo_got_22 : decode M_Mo_got.2.1 22 = .ok (.iload_n 2, 1) := by decide +kernel
theorem d_Mo_got_23 : decode M_Mo_got.2.1 23 = .ok (.aload_n 0, 1) := by decide +kernel
theorem d_Mo_got_24 : decode M_Mo_got.2.1 24 = .ok (.getfield 75, 3) := by decide +kernel
theorem d_Mo_got_27 : decode M_Mo_got.2.1 27 = .ok (.iload_n 1, 1) := by decide +kernel
theorem d_Mo_got_28 : decode M_Mo_got.2.1 28 = .ok (.iconst 4, 1) := by decide +kernel
theorem d_Mo_got_29 : decode M_Mo_got.2.1 29 = .ok (.imul, 1) := by decide +kernel
theorem d_Mo_got_30 : decode M_Mo_got.2.1 30 = .ok (.iaload, 1) := by decide +kernel
theorem d_Mo_got_31 : decode M_Mo_got.2.1 31 = .ok (.if_icmp .lt 5, 3) := by decide +kernel
theorem d_Mo_got_34 : decode M_Mo_got.2.1 34 = .ok (.iconst (-1), 1) := by decide +kernel
theorem d_Mo_got_35 : decode M_Mo_got.2.1 35 = .ok (.ireturn, 1) := by decide +kernel
theorem d_Mo_got_36 : decode M_Mo_got.2.1 36 = .ok (.iload_n 2, 1) := by decide +kernel
theorem d_Mo_got_37 : decode M_Mo_got.2.1 37 = .ok (.ifCond .ge 14, 3) := by decide +kernel
theorem d_Mo_got_40 : decode M_Mo_got.2.1 40 = .ok (.aload_n 0, 1) := by decide +kernel
theorem d_Mo_got_41 : decode M_Mo_got.2.1 41 = .ok (.getfield 75, 3) := by decide +kernel
theorem d_Mo_got_44 : decode M_Mo_got.2.1 44 = .ok (.iload_n 1, 1) := by decide +kernel
theorem d_Mo_got_45 : decode M_Mo_got.2.1 45 = .ok (.iconst 4, 1) := by decide +kernel
theorem d_Mo_got_46 : decode M_Mo_got.2.1 46 = .ok (.imul, 1) := by decide +kernel
theorem d_Mo_got_47 : decode M_Mo_got.2.1 47 = .ok (.iaload, 1) := by decide +kernel
theorem d_Mo_got_48 : decode M_Mo_got.2.1 48 = .ok (.goto 14, 3) := by decide +kernel
theorem d_Mo_got_51 : decode M_Mo_got.2.1 51 = .ok (.aload_n 0, 1) := by decide +kernel
theorem d_Mo_got_52 : decode M_Mo_got.2.1 52 = .ok (.getfield 78, 3) := by decide +kernel
theorem d_Mo_got_55 : decode M_Mo_got.2.1 55 = .ok (.iload_n 1, 1) := by decide +kernel
theorem d_Mo_got_56 : decode M_Mo_got.2.1 56 = .ok (.bipush 64, 2) := by decide +kernel
theorem d_Mo_got_58 : decode M_Mo_got.2.1 58 = .ok (.imul, 1) := by decide +kernel
theorem d_Mo_got_59 : decode M_Mo_got.2.1 59 = .ok (.iload_n 2, 1) := by decide +kernel
theorem d_Mo_got_60 : decode M_Mo_got.2.1 60 = .ok (.iadd, 1) := by decide +kernel
theorem d_Mo_got_61 : decode M_Mo_got.2.1 61 = .ok (.iaload, 1) := by decide +kernel
theorem d_Mo_got_62 : decode M_Mo_got.2.1 62 = .ok (.ireturn, 1) := by decide +kernel
theorem d_Mo_next_0 : decode M_Mo_next.2.1 0 = .ok (.aload_n 0, 1) := by decide +kernel
theorem d_Mo_next_1 : decode M_Mo_next.2.1 1 = .ok (.iload_n 1, 1) := by decide +kernel
theorem d_Mo_next_2 : decode M_Mo_next.2.1 2 = .ok (.invokevirtual 126, 3) := by decide +kernel
theorem d_Mo_next_5 : decode M_Mo_next.2.1 5 = .ok (.ifCond .ne 12, 3) := by decide +kernel
theorem d_Mo_next_8 : decode M_Mo_next.2.1 8 = .ok (.aload_n 0, 1) := by decide +kernel
theorem d_Mo_next_9 : decode M_Mo_next.2.1 9 = .ok (.getfield 72, 3) := by decide +kernel
theorem d_Mo_next_12 : decode M_Mo_next.2.1 12 = .ok (.iload_n 1, 1) := by decide +kernel
theorem d_Mo_next_13 : decode M_Mo_next.2.1 13 = .ok (.iaload, 1) := by decide +kernel
theorem d_Mo_next_14 : decode M_Mo_next.2.1 14 = .ok (.ifCond .ne 5, 3) := by decide +kernel
theorem d_Mo_next_17 : decode M_Mo_next.2.1 17 = .ok (.iconst (-1), 1) := by decide +kernel
theorem d_Mo_next_18 : decode M_Mo_next.2.1 18 = .ok (.ireturn, 1) := by decide +kernel
theorem d_Mo_next_19 : decode M_Mo_next.2.1 19 = .ok (.iload_n 1, 1) := by decide +kernel
theorem d_Mo_next_20 : decode M_Mo_next.2.1 20 = .ok (.iconst 4, 1) := by decide +kernel
theorem d_Mo_next_21 : decode M_Mo_next.2.1 21 = .ok (.imul, 1) := by decide +kernel
theorem d_Mo_next_22 : decode M_Mo_next.2.1 22 = .ok (.istore_n 2, 1) := by decide +kernel
theorem d_Mo_next_23 : decode M_Mo_next.2.1 23 = .ok (.iload_n 2, 1) := by decide +kernel
theorem d_Mo_next_24 : decode M_Mo_next.2.1 24 = .ok (.iload_n 1, 1) := by decide +kernel
theorem d_Mo_next_25 : decode M_Mo_next.2.1 25 = .ok (.iconst 4, 1) := by decide +kernel
theorem d_Mo_next_26 : decode M_Mo_next.2.1 26 = .ok (.imul, 1) := by decide +kernel
theorem d_Mo_next_27 : decode M_Mo_next.2.1 27 = .ok (.iconst 3, 1) := by decide +kernel
theorem d_Mo_next_28 : decode M_Mo_next.2.1 28 = .ok (.iadd, 1) := by decide +kernel
theorem d_Mo_next_29 : decode M_Mo_next.2.1 29 = .ok (.if_icmp .ge 23, 3) := by decide +kernel
theorem d_Mo_next_32 : decode M_Mo_next.2.1 32 = .ok (.aload_n 0, 1) := by decide +kernel
theorem d_Mo_next_33 : decode M_Mo_next.2.1 33 = .ok (.getfield 75, 3) := by decide +kernel
theorem d_Mo_next_36 : decode M_Mo_next.2.1 36 = .ok (.iload_n 2, 1) := by decide +kernel
theorem d_Mo_next_37 : decode M_Mo_next.2.1 37 = .ok (.aload_n 0, 1) := by decide +kernel
theorem d_Mo_next_38 : decode M_Mo_next.2.1 38 = .ok (.getfield 75, 3) := by decide +kernel
theorem d_Mo_next_41 : decode M_Mo_next.2.1 41 = .ok (.iload_n 2, 1) := by decide +kernel
theorem d_Mo_next_42 : decode M_Mo_next.2.1 42 = .ok (.iconst 1, 1) := by decide +kernel
theorem d_Mo_next_43 : decode M_Mo_next.2.1 43 = .ok (.iadd, 1) := by decide +kernel
theorem d_Mo_next_44 : decode M_Mo_next.2.1 44 = .ok (.iaload, 1) := by decide +kernel
theorem d_Mo_next_45 : decode M_Mo_next.2.1 45 = .ok (.iastore, 1) := by decide +kernel
theorem d_Mo_next_46 : decode M_Mo_next.2.1 46 = .ok (.iinc 2 1, 3) := by decide +kernel
theorem d_Mo_next_49 : decode M_Mo_next.2.1 49 = .ok (.goto (-26), 3) := by decide +kernel
theorem d_Mo_next_52 : decode M_Mo_next.2.1 52 = .ok (.iload_n 1, 1) := by decide +kernel
theorem d_Mo_next_53 : decode M_Mo_next.2.1 53 = .ok (.bipush 64, 2) := by decide +kernel
theorem d_Mo_next_55 : decode M_Mo_next.2.1 55 = .ok (.imul, 1) := by decide +kernel
theorem d_Mo_next_56 : decode M_Mo_next.2.1 56 = .ok (.istore_n 2, 1) := by decide +kernel
theorem d_Mo_next_57 : decode M_Mo_next.2.1 57 = .ok (.iload_n 2, 1) := by decide +kernel
theorem d_Mo_next_58 : decode M_Mo_next.2.1 58 = .ok (.iload_n 1, 1) := by decide +kernel
theorem d_Mo_next_59 : decode M_Mo_next.2.1 59 = .ok (.bipush 64, 2) := by decide +kernel
theorem d_Mo_next_61 : decode M_Mo_next.2.1 61 = .ok (.imul, 1) := by decide +kernel
theorem d_Mo_next_62 : decode M_Mo_next.2.1 62 = .ok (.bipush 48, 2) := by decide +kernel
theorem d_Mo_next_64 : decode M_Mo_next.2.1 64 = .ok (.iadd, 1) := by decide +kernel
theorem d_Mo_next_65 : decode M_Mo_next.2.1 65 = .ok (.if_icmp .ge 24, 3) := by decide +kernel
theorem d_Mo_next_68 : decode M_Mo_next.2.1 68 = .ok (.aload_n 0, 1) := by decide +kernel
theorem d_Mo_next_69 : decode M_Mo_next.2.1 69 = .ok (.getfield 78, 3) := by decide +kernel
theorem d_Mo_next_72 : decode M_Mo_next.2.1 72 = .ok (.iload_n 2, 1) := by decide +kernel
theorem d_Mo_next_73 : decode M_Mo_next.2.1 73 = .ok (.aload_n 0, 1) := by decide +kernel
theorem d_Mo_next_74 : decode M_Mo_next.2.1 74 = .ok (.getfield 78, 3) := by decide +kernel
theorem d_Mo_next_77 : decode M_Mo_next.2.1 77 = .ok (.iload_n 2, 1) := by decide +kernel
theorem d_Mo_next_78 : decode M_Mo_next.2.1 78 = .ok (.bipush 16, 2) := by decide +kernel
theorem d_Mo_next_80 : decode M_Mo_next.2.1 80 = .ok (.iadd, 1) := by decide +kernel
theorem d_Mo_next_81 : decode M_Mo_next.2.1 81 = .ok (.iaload, 1) := by decide +kernel
theorem d_Mo_next_82 : decode M_Mo_next.2.1 82 = .ok (.iastore, 1) := by decide +kernel
theorem d_Mo_next_83 : decode M_Mo_next.2.1 83 = .ok (.iinc 2 1, 3) := by decide +kernel
theorem d_Mo_next_86 : decode M_Mo_next.2.1 86 = .ok (.goto (-29), 3) := by decide +kernel
theorem d_Mo_next_89 : decode M_Mo_next.2.1 89 = .ok (.aload_n 0, 1) := by decide +kernel
theorem d_Mo_next_90 : decode M_Mo_next.2.1 90 = .ok (.getfield 72, 3) := by decide +kernel
theorem d_Mo_next_93 : decode M_Mo_next.2.1 93 = .ok (.iload_n 1, 1) := by decide +kernel
theorem d_Mo_next_94 : decode M_Mo_next.2.1 94 = .ok (.dup2, 1) := by decide +kernel
theorem d_Mo_next_95 : decode M_Mo_next.2.1 95 = .ok (.iaload, 1) := by decide +kernel
theorem d_Mo_next_96 : decode M_Mo_next.2.1 96 = .ok (.iconst 1, 1) := by decide +kernel
theorem d_Mo_next_97 : decode M_Mo_next.2.1 97 = .ok (.isub, 1) := by decide +kernel
theorem d_Mo_next_98 : decode M_Mo_next.2.1 98 = .ok (.iastore, 1) := by decide +kernel
theorem d_Mo_next_99 : decode M_Mo_next.2.1 99 = .ok (.aload_n 0, 1) := by decide +kernel
theorem d_Mo_next_100 : decode M_Mo_next.2.1 100 = .ok (.getfield 72, 3) := by decide +kernel
theorem d_Mo_next_103 : decode M_Mo_next.2.1 103 = .ok (.iload_n 1, 1) := by decide +kernel
theorem d_Mo_next_104 : decode M_Mo_next.2.1 104 = .ok (.iaload, 1) := by decide +kernel
theorem d_Mo_next_105 : decode M_Mo_next.2.1 105 = .ok (.ireturn, 1) := by decide +kernel
theorem d_Mo_write_0 : decode M_Mo_write.2.1 0 = .ok (.aload_n 0, 1) := by decide +kernel
theorem d_Mo_write_1 : decode M_Mo_write.2.1 1 = .ok (.iload_n 2, 1) := by decide +kernel
theorem d_Mo_write_2 : decode M_Mo_write.2.1 2 = .ok (.aload_n 0, 1) := by decide +kernel
theorem d_Mo_write_3 : decode M_Mo_write.2.1 3 = .ok (.getfield 108, 3) := by decide +kernel
theorem d_Mo_write_6 : decode M_Mo_write.2.1 6 = .ok (.invokevirtual 111, 3) := by decide +kernel
theorem d_Mo_write_9 : decode M_Mo_write.2.1 9 = .ok (.ifCond .ne 40, 3) := by decide +kernel
theorem d_Mo_write_12 : decode M_Mo_write.2.1 12 = .ok (.aload_n 0, 1) := by decide +kernel
theorem d_Mo_write_13 : decode M_Mo_write.2.1 13 = .ok (.iload_n 3, 1) := by decide +kernel
theorem d_Mo_write_14 : decode M_Mo_write.2.1 14 = .ok (.bipush 8, 2) := by decide +kernel
theorem d_Mo_write_16 : decode M_Mo_write.2.1 16 = .ok (.invokevirtual 111, 3) := by decide +kernel
theorem d_Mo_write_19 : decode M_Mo_write.2.1 19 = .ok (.ifCond .ne 30, 3) := by decide +kernel
theorem d_Mo_write_22 : decode M_Mo_write.2.1 22 = .ok (.aload_n 0, 1) := by decide +kernel
theorem d_Mo_write_23 : decode M_Mo_write.2.1 23 = .ok (.iload_n 1, 1) := by decide +kernel
theorem d_Mo_write_24 : decode M_Mo_write.2.1 24 = .ok (.invokevirtual 126, 3) := by decide +kernel
theorem d_Mo_write_27 : decode M_Mo_write.2.1 27 = .ok (.ifCond .ne 22, 3) := by decide +kernel
theorem d_Mo_write_30 : decode M_Mo_write.2.1 30 = .ok (.aload_n 0, 1) := by decide +kernel
theorem d_Mo_write_31 : decode M_Mo_write.2.1 31 = .ok (.getfield 13, 3) := by decide +kernel
theorem d_Mo_write_34 : decode M_Mo_write.2.1 34 = .ok (.iload_n 1, 1) := by decide +kernel
theorem d_Mo_write_35 : decode M_Mo_write.2.1 35 = .ok (.baload, 1) := by decide +kernel
theorem d_Mo_write_36 : decode M_Mo_write.2.1 36 = .ok (.ifCond .ne 13, 3) := by decide +kernel
theorem d_Mo_write_39 : decode M_Mo_write.2.1 39 = .ok (.aload_n 0, 1) := by decide +kernel
theorem d_Mo_write_40 : decode M_Mo_write.2.1 40 = .ok (.getfield 87, 3) := by decide +kernel
theorem d_Mo_write_43 : decode M_Mo_write.2.1 43 = .ok (.iload_n 2, 1) := by decide +kernel
theorem d_Mo_write_44 : decode M_Mo_write.2.1 44 = .ok (.iaload, 1) := by decide +kernel
theorem d_Mo_write_45 : decode M_Mo_write.2.1 45 = .ok (.iload_n 1, 1) := by decide +kernel
theorem d_Mo_write_46 : decode M_Mo_write.2.1 46 = .ok (.if_icmp .eq 5, 3) := by decide +kernel
theorem d_Mo_write_49 : decode M_Mo_write.2.1 49 = .ok (.iconst (-1), 1) := by decide +kernel
theorem d_Mo_write_50 : decode M_Mo_write.2.1 50 = .ok (.ireturn, 1) := by decide +kernel
theorem d_Mo_write_51 : decode M_Mo_write.2.1 51 = .ok (.iload_n 2, 1) := by decide +kernel
theorem d_Mo_write_52 : decode M_Mo_write.2.1 52 = .ok (.bipush 8, 2) := by decide +kernel
theorem d_Mo_write_54 : decode M_Mo_write.2.1 54 = .ok (.imul, 1) := by decide +kernel
theorem d_Mo_write_55 : decode M_Mo_write.2.1 55 = .ok (.iload_n 3, 1) := by decide +kernel
theorem d_Mo_write_56 : decode M_Mo_write.2.1 56 = .ok (.iadd, 1) := by decide +kernel
theorem d_Mo_write_57 : decode M_Mo_write.2.1 57 = .ok (.istore 5, 2) := by decide +kernel
theorem d_Mo_write_59 : decode M_Mo_write.2.1 59 = .ok (.aload_n 0, 1) := by decide +kernel
theorem d_Mo_write_60 : decode M_Mo_write.2.1 60 = .ok (.iload_n 1, 1) := by decide +kernel
theorem d_Mo_write_61 : decode M_Mo_write.2.1 61 = .ok (.iload_n 3, 1) := by decide +kernel
theorem d_Mo_write_62 : decode M_Mo_write.2.1 62 = .ok (.invokevirtual 115, 3) := by decide +kernel
theorem d_Mo_write_65 : decode M_Mo_write.2.1 65 = .ok (.ifCond .eq 99, 3) := by decide +kernel
theorem d_Mo_write_68 : decode M_Mo_write.2.1 68 = .ok (.iload 4, 2) := by decide +kernel
theorem d_Mo_write_70 : decode M_Mo_write.2.1 70 = .ok (.iconst (-1), 1) := by decide +kernel
theorem d_Mo_write_71 : decode M_Mo_write.2.1 71 = .ok (.if_icmp .lt 12, 3) := by decide +kernel
theorem d_Mo_write_74 : decode M_Mo_write.2.1 74 = .ok (.iload 4, 2) := by decide +kernel
theorem d_Mo_write_76 : decode M_Mo_write.2.1 76 = .ok (.aload_n 0, 1) := by decide +kernel
theorem d_Mo_write_77 : decode M_Mo_write.2.1 77 = .ok (.getfield 108, 3) := by decide +kernel
theorem d_Mo_write_80 : decode M_Mo_write.2.1 80 = .ok (.if_icmp .lt 5, 3) := by decide +kernel
theorem d_Mo_write_83 : decode M_Mo_write.2.1 83 = .ok (.iconst (-1), 1) := by decide +kernel
theorem d_Mo_write_84 : decode M_Mo_write.2.1 84 = .ok (.ireturn, 1) := by decide +kernel
theorem d_Mo_write_85 : decode M_Mo_write.2.1 85 = .ok (.aload_n 0, 1) := by decide +kernel
theorem d_Mo_write_86 : decode M_Mo_write.2.1 86 = .ok (.getfield 90, 3) := by decide +kernel
theorem d_Mo_write_89 : decode M_Mo_write.2.1 89 = .ok (.iload 5, 2) := by decide +kernel
theorem d_Mo_write_91 : decode M_Mo_write.2.1 91 = .ok (.iaload, 1) := by decide +kernel
theorem d_Mo_write_92 : decode M_Mo_write.2.1 92 = .ok (.istore 6, 2) := by decide +kernel
theorem d_Mo_write_94 : decode M_Mo_write.2.1 94 = .ok (.iload 6, 2) := by decide +kernel
theorem d_Mo_write_96 : decode M_Mo_write.2.1 96 = .ok (.iload 4, 2) := by decide +kernel
theorem d_Mo_write_98 : decode M_Mo_write.2.1 98 = .ok (.if_icmp .ne 5, 3) := by decide +kernel
theorem d_Mo_write_101 : decode M_Mo_write.2.1 101 = .ok (.iconst 0, 1) := by decide +kernel
theorem d_Mo_write_102 : decode M_Mo_write.2.1 102 = .ok (.ireturn, 1) := by decide +kernel
theorem d_Mo_write_103 : decode M_Mo_write.2.1 103 = .ok (.iload 6, 2) := by decide +kernel
theorem d_Mo_write_105 : decode M_Mo_write.2.1 105 = .ok (.ifCond .lt 16, 3) := by decide +kernel
theorem d_Mo_write_108 : decode M_Mo_write.2.1 108 = .ok (.aload_n 0, 1) := by decide +kernel
theorem d_Mo_write_109 : decode M_Mo_write.2.1 109 = .ok (.iload_n 1, 1) := by decide +kernel
theorem d_Mo_write_110 : decode M_Mo_write.2.1 110 = .ok (.iload 6, 2) := by decide +kernel
theorem d_Mo_write_112 : decode M_Mo_write.2.1 112 = .ok (.invokevirtual 148, 3) := by decide +kernel
theorem d_Mo_write_115 : decode M_Mo_write.2.1 115 = .ok (.ifCond .eq 6, 3) := by decide +kernel
theorem d_Mo_write_118 : decode M_Mo_write.2.1 118 = .ok (.bipush (-3), 2) := by decide +kernel
theorem d_Mo_write_120 : decode M_Mo_write.2.1 120 = .ok (.ireturn, 1) := by decide +kernel
theorem d_Mo_write_121 : decode M_Mo_write.2.1 121 = .ok (.iload 4, 2) := by decide +kernel
theorem d_Mo_write_123 : decode M_Mo_write.2.1 123 = .ok (.ifCond .lt 16, 3) := by decide +kernel
theorem d_Mo_write_126 : decode M_Mo_write.2.1 126 = .ok (.aload_n 0, 1) := by decide +kernel
theorem d_Mo_write_127 : decode M_Mo_write.2.1 127 = .ok (.getfield 87, 3) := by decide +kernel
theorem d_Mo_write_130 : decode M_Mo_write.2.1 130 = .ok (.iload 4, 2) := by decide +kernel
theorem d_Mo_write_132 : decode M_Mo_write.2.1 132 = .ok (.iaload, 1) := by decide +kernel
theorem d_Mo_write_133 : decode M_Mo_write.2.1 133 = .ok (.ifCond .lt 6, 3) := by decide +kernel
theorem d_Mo_write_136 : decode M_Mo_write.2.1 136 = .ok (.bipush (-4), 2) := by decide +kernel
theorem d_Mo_write_138 : decode M_Mo_write.2.1 138 = .ok (.ireturn, 1) := by decide +kernel
theorem d_Mo_write_139 : decode M_Mo_write.2.1 139 = .ok (.iload 6, 2) := by decide +kernel
theorem d_Mo_write_141 : decode M_Mo_write.2.1 141 = .ok (.ifCond .lt 11, 3) := by decide +kernel
theorem d_Mo_write_144 : decode M_Mo_write.2.1 144 = .ok (.aload_n 0, 1) := by decide +kernel
theorem d_Mo_write_145 : decode M_Mo_write.2.1 145 = .ok (.getfield 87, 3) := by decide +kernel
theorem d_Mo_write_148 : decode M_Mo_write.2.1 148 = .ok (.iload 6, 2) := by decide +kernel
theorem d_Mo_write_150 : decode M_Mo_write.2.1 150 = .ok (.iconst (-1), 1) := by decide +kernel
theorem d_Mo_write_151 : decode M_Mo_write.2.1 151 = .ok (.iastore, 1) := by decide +kernel
theorem d_Mo_write_152 : decode M_Mo_write.2.1 152 = .ok (.iload 4, 2) := by decide +kernel
theorem d_Mo_write_154 : decode M_Mo_write.2.1 154 = .ok (.ifCond .lt 10, 3) := by decide +kernel
theorem d_Mo_write_157 : decode M_Mo_write.2.1 157 = .ok (.aload_n 0, 1) := by decide +kernel
theorem d_Mo_write_158 : decode M_Mo_write.2.1 158 = .ok (.iload_n 1, 1) := by decide +kernel
theorem d_Mo_write_159 : decode M_Mo_write.2.1 159 = .ok (.iload 4, 2) := by decide +kernel
theorem d_Mo_write_161 : decode M_Mo_write.2.1 161 = .ok (.invokevirtual 122, 3) := by decide +kernel
theorem d_Mo_write_164 : decode M_Mo_write.2.1 164 = .ok (.aload_n 0, 1) := by decide +kernel
theorem d_Mo_write_165 : decode M_Mo_write.2.1 165 = .ok (.getfield 90, 3) := by decide +kernel
theorem d_Mo_write_168 : decode M_Mo_write.2.1 168 = .ok (.iload 5, 2) := by decide +kernel
theorem d_Mo_write_170 : decode M_Mo_write.2.1 170 = .ok (.iload 4, 2) := by decide +kernel
theorem d_Mo_write_172 : decode M_Mo_write.2.1 172 = .ok (.iastore, 1) := by decide +kernel
theorem d_Mo_write_173 : decode M_Mo_write.2.1 173 = .ok (.iconst 0, 1) := by decide +kernel
theorem d_Mo_write_174 : decode M_Mo_write.2.1 174 = .ok (.ireturn, 1) := by decide +kernel
theorem d_Mo_hasLinks_0 : decode M_Mo_hasLinks.2.1 0 = .ok (.iconst 0, 1) := by decide +kernel
theorem d_Mo_hasLinks_1 : decode M_Mo_hasLinks.2.1 1 = .ok (.istore_n 3, 1) := by decide +kernel
theorem d_Mo_hasLinks_2 : decode M_Mo_hasLinks.2.1 2 = .ok (.iload_n 3, 1) := by decide +kernel
theorem d_Mo_hasLinks_3 : decode M_Mo_hasLinks.2.1 3 = .ok (.bipush 8, 2) := by decide +kernel
theorem d_Mo_hasLinks_5 : decode M_Mo_hasLinks.2.1 5 = .ok (.if_icmp .ge 35, 3) := by decide +kernel
theorem d_Mo_hasLinks_8 : decode M_Mo_hasLinks.2.1 8 = .ok (.aload_n 0, 1) := by decide +kernel
theorem d_Mo_hasLinks_9 : decode M_Mo_hasLinks.2.1 9 = .ok (.iload_n 1, 1) := by decide +kernel
theorem d_Mo_hasLinks_10 : decode M_Mo_hasLinks.2.1 10 = .ok (.iload_n 3, 1) := by decide +kernel
theorem d_Mo_hasLinks_11 : decode M_Mo_hasLinks.2.1 11 = .ok (.invokevirtual 115, 3) := by decide +kernel
theorem d_Mo_hasLinks_14 : decode M_Mo_hasLinks.2.1 14 = .ok (.ifCond .eq 20, 3) := by decide +kernel
theorem d_Mo_hasLinks_17 : decode M_Mo_hasLinks.2.1 17 = .ok (.aload_n 0, 1) := by decide +kernel
theorem d_Mo_hasLinks_18 : decode M_Mo_hasLinks.2.1 18 = .ok (.getfield 90, 3) := by decide +kernel
theorem d_Mo_hasLinks_21 : decode M_Mo_hasLinks.2.1 21 = .ok (.iload_n 2, 1) := by decide +kernel
theorem d_Mo_hasLinks_22 : decode M_Mo_hasLinks.2.1 22 = .ok (.bipush 8, 2) := by decide +kernel
theorem d_Mo_hasLinks_24 : decode M_Mo_hasLinks.2.1 24 = .ok (.imul, 1) := by decide +kernel
theorem d_Mo_hasLinks_25 : decode M_Mo_hasLinks.2.1 25 = .ok (.iload_n 3, 1) := by decide +kernel
theorem d_Mo_hasLinks_26 : decode M_Mo_hasLinks.2.1 26 = .ok (.iadd, 1) := by decide +kernel
theorem d_Mo_hasLinks_27 : decode M_Mo_hasLinks.2.1 27 = .ok (.iaload, 1) := by decide +kernel
theorem d_Mo_hasLinks_28 : decode M_Mo_hasLinks.2.1 28 = .ok (.iconst (-1), 1) := by decide +kernel
theorem d_Mo_hasLinks_29 : decode M_Mo_hasLinks.2.1 29 = .ok (.if_icmp .eq 5, 3) := by decide +kernel
theorem d_Mo_hasLinks_32 : decode M_Mo_hasLinks.2.1 32 = .ok (.iconst 1, 1) := by decide +kernel
theorem d_Mo_hasLinks_33 : decode M_Mo_hasLinks.2.1 33 = .ok (.ireturn, 1) := by decide +kernel
theorem d_Mo_hasLinks_34 : decode M_Mo_hasLinks.2.1 34 = .ok (.iinc 3 1, 3) := by decide +kernel
theorem d_Mo_hasLinks_37 : decode M_Mo_hasLinks.2.1 37 = .ok (.goto (-35), 3) := by decide +kernel
theorem d_Mo_hasLinks_40 : decode M_Mo_hasLinks.2.1 40 = .ok (.iconst 0, 1) := by decide +kernel
theorem d_Mo_hasLinks_41 : decode M_Mo_hasLinks.2.1 41 = .ok (.ireturn, 1) := by decide +kernel
theorem d_Mo_put_0 : decode M_Mo_put.2.1 0 = .ok (.aload_n 0, 1) := by decide +kernel
theorem d_Mo_put_1 : decode M_Mo_put.2.1 1 = .ok (.iload_n 1, 1) := by decide +kernel
theorem d_Mo_put_2 : decode M_Mo_put.2.1 2 = .ok (.invokevirtual 126, 3) := by decide +kernel
theorem d_Mo_put_5 : decode M_Mo_put.2.1 5 = .ok (.ifCond .ne 12, 3) := by decide +kernel
theorem d_Mo_put_8 : decode M_Mo_put.2.1 8 = .ok (.aload_n 0, 1) := by decide +kernel
theorem d_Mo_put_9 : decode M_Mo_put.2.1 9 = .ok (.getfield 13, 3) := by decide +kernel
theorem d_Mo_put_12 : decode M_Mo_put.2.1 12 = .ok (.iload_n 1, 1) := by decide +kernel
theorem d_Mo_put_13 : decode M_Mo_put.2.1 13 = .ok (.baload, 1) := by decide +kernel
theorem d_Mo_put_14 : decode M_Mo_put.2.1 14 = .ok (.ifCond .ne 5, 3) := by decide +kernel
theorem d_Mo_put_17 : decode M_Mo_put.2.1 17 = .ok (.iconst (-1), 1) := by decide +kernel
theorem d_Mo_put_18 : decode M_Mo_put.2.1 18 = .ok (.ireturn, 1) := by decide +kernel
theorem d_Mo_put_19 : decode M_Mo_put.2.1 19 = .ok (.aload_n 0, 1) := by decide +kernel
theorem d_Mo_put_20 : decode M_Mo_put.2.1 20 = .ok (.iload_n 1, 1) := by decide +kernel
theorem d_Mo_put_21 : decode M_Mo_put.2.1 21 = .ok (.iload_n 2, 1) := by decide +kernel
theorem d_Mo_put_22 : decode M_Mo_put.2.1 22 = .ok (.invokevirtual 151, 3) := by decide +kernel
theorem d_Mo_put_25 : decode M_Mo_put.2.1 25 = .ok (.istore 5, 2) := by decide +kernel
theorem d_Mo_put_27 : decode M_Mo_put.2.1 27 = .ok (.aload_n 0, 1) := by decide +kernel
theorem d_Mo_put_28 : decode M_Mo_put.2.1 28 = .ok (.getfield 96, 3) := by decide +kernel
theorem d_Mo_put_31 : decode M_Mo_put.2.1 31 = .ok (.iload_n 1, 1) := by decide +kernel
theorem d_Mo_put_32 : decode M_Mo_put.2.1 32 = .ok (.iaload, 1) := by decide +kernel
theorem d_Mo_put_33 : decode M_Mo_put.2.1 33 = .ok (.istore 6, 2) := by decide +kernel
theorem d_Mo_put_35 : decode M_Mo_put.2.1 35 = .ok (.iload 4, 2) := by decide +kernel
theorem d_Mo_put_37 : decode M_Mo_put.2.1 37 = .ok (.ifCond .eq 18, 3) := by decide +kernel
theorem d_Mo_put_40 : decode M_Mo_put.2.1 40 = .ok (.iload 5, 2) := by decide +kernel
theorem d_Mo_put_42 : decode M_Mo_put.2.1 42 = .ok (.ifCond .lt 13, 3) := by decide +kernel
theorem d_Mo_put_45 : decode M_Mo_put.2.1 45 = .ok (.aload_n 0, 1) := by decide +kernel
theorem d_Mo_put_46 : decode M_Mo_put.2.1 46 = .ok (.getfield 102, 3) := by decide +kernel
theorem d_Mo_put_49 : decode M_Mo_put.2.1 49 = .ok (.iload 5, 2) := by decide +kernel
theorem d_Mo_put_51 : decode M_Mo_put.2.1 51 = .ok (.iload_n 3, 1) := by decide +kernel
theorem d_Mo_put_52 : decode M_Mo_put.2.1 52 = .ok (.iastore, 1) := by decide +kernel
theorem d_Mo_put_53 : decode M_Mo_put.2.1 53 = .ok (.iconst 0, 1) := by decide +kernel
theorem d_Mo_put_54 : decode M_Mo_put.2.1 54 = .ok (.ireturn, 1) := by decide +kernel
theorem d_Mo_put_55 : decode M_Mo_put.2.1 55 = .ok (.iload 4, 2) := by decide +kernel
