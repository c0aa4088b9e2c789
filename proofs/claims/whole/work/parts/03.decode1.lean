/-! decode rows -/
theorem d_K_arrive_16 : decode M_K_arrive.2.1 16 = .ok (.invokevirtual 190, 3) := by decide +kernel
theorem d_K_arrive_19 : decode M_K_arrive.2.1 19 = .ok (.istore_n 2, 1) := by decide +kernel
theorem d_K_arrive_20 : decode M_K_arrive.2.1 20 = .ok (.aload_n 0, 1) := by decide +kernel
theorem d_K_arrive_21 : decode M_K_arrive.2.1 21 = .ok (.getfield 39, 3) := by decide +kernel
theorem d_K_arrive_24 : decode M_K_arrive.2.1 24 = .ok (.invokevirtual 193, 3) := by decide +kernel
theorem d_K_arrive_27 : decode M_K_arrive.2.1 27 = .ok (.iload_n 2, 1) := by decide +kernel
theorem d_K_arrive_28 : decode M_K_arrive.2.1 28 = .ok (.ireturn, 1) := by decide +kernel
theorem d_K_firstAccepting_0 : decode M_K_firstAccepting.2.1 0 = .ok (.iconst 0, 1) := by decide +kernel
theorem d_K_firstAccepting_1 : decode M_K_firstAccepting.2.1 1 = .ok (.istore_n 1, 1) := by decide +kernel
theorem d_K_firstAccepting_2 : decode M_K_firstAccepting.2.1 2 = .ok (.iload_n 1, 1) := by decide +kernel
theorem d_K_firstAccepting_3 : decode M_K_firstAccepting.2.1 3 = .ok (.aload_n 0, 1) := by decide +kernel
theorem d_K_firstAccepting_4 : decode M_K_firstAccepting.2.1 4 = .ok (.getfield 32, 3) := by decide +kernel
theorem d_K_firstAccepting_7 : decode M_K_firstAccepting.2.1 7 = .ok (.getfield 296, 3) := by decide +kernel
theorem d_K_firstAccepting_10 : decode M_K_firstAccepting.2.1 10 = .ok (.if_icmp .ge 39, 3) := by decide +kernel
theorem d_K_firstAccepting_13 : decode M_K_firstAccepting.2.1 13 = .ok (.aload_n 0, 1) := by decide +kernel
theorem d_K_firstAccepting_14 : decode M_K_firstAccepting.2.1 14 = .ok (.getfield 32, 3) := by decide +kernel
theorem d_K_firstAccepting_17 : decode M_K_firstAccepting.2.1 17 = .ok (.iload_n 1, 1) := by decide +kernel
theorem d_K_firstAccepting_18 : decode M_K_firstAccepting.2.1 18 = .ok (.invokevirtual 297, 3) := by decide +kernel
theorem d_K_firstAccepting_21 : decode M_K_firstAccepting.2.1 21 = .ok (.istore_n 2, 1) := by decide +kernel
theorem d_K_firstAccepting_22 : decode M_K_firstAccepting.2.1 22 = .ok (.aload_n 0, 1) := by decide +kernel
theorem d_K_firstAccepting_23 : decode M_K_firstAccepting.2.1 23 = .ok (.getfield 49, 3) := by decide +kernel
theorem d_K_firstAccepting_26 : decode M_K_firstAccepting.2.1 26 = .ok (.iload_n 2, 1) := by decide +kernel
theorem d_K_firstAccepting_27 : decode M_K_firstAccepting.2.1 27 = .ok (.aaload, 1) := by decide +kernel
theorem d_K_firstAccepting_28 : decode M_K_firstAccepting.2.1 28 = .ok (.getfield 300, 3) := by decide +kernel
theorem d_K_firstAccepting_31 : decode M_K_firstAccepting.2.1 31 = .ok (.aload_n 0, 1) := by decide +kernel
theorem d_K_firstAccepting_32 : decode M_K_firstAccepting.2.1 32 = .ok (.getfield 39, 3) := by decide +kernel
theorem d_K_firstAccepting_35 : decode M_K_firstAccepting.2.1 35 = .ok (.invokevirtual 303, 3) := by decide +kernel
theorem d_K_firstAccepting_38 : decode M_K_firstAccepting.2.1 38 = .ok (.ifCond .eq 5, 3) := by decide +kernel
theorem d_K_firstAccepting_41 : decode M_K_firstAccepting.2.1 41 = .ok (.iload_n 2, 1) := by decide +kernel
theorem d_K_firstAccepting_42 : decode M_K_firstAccepting.2.1 42 = .ok (.ireturn, 1) := by decide +kernel
theorem d_K_firstAccepting_43 : decode M_K_firstAccepting.2.1 43 = .ok (.iinc 1 1, 3) := by decide +kernel
theorem d_K_firstAccepting_46 : decode M_K_firstAccepting.2.1 46 = .ok (.goto (-44), 3) := by decide +kernel
theorem d_K_firstAccepting_49 : decode M_K_firstAccepting.2.1 49 = .ok (.iconst (-1), 1) := by decide +kernel
theorem d_K_firstAccepting_50 : decode M_K_firstAccepting.2.1 50 = .ok (.ireturn, 1) := by decide +kernel
theorem d_FilterOrder_appAt_0 : decode M_FilterOrder_appAt.2.1 0 = .ok (.aload_n 0, 1) := by decide +kernel
theorem d_FilterOrder_appAt_1 : decode M_FilterOrder_appAt.2.1 1 = .ok (.getfield 9, 3) := by decide +kernel
theorem d_FilterOrder_appAt_4 : decode M_FilterOrder_appAt.2.1 4 = .ok (.iload_n 1, 1) := by decide +kernel
theorem d_FilterOrder_appAt_5 : decode M_FilterOrder_appAt.2.1 5 = .ok (.iaload, 1) := by decide +kernel
theorem d_FilterOrder_appAt_6 : decode M_FilterOrder_appAt.2.1 6 = .ok (.ireturn, 1) := by decide +kernel
theorem d_Program_accepts_0 : decode M_Program_accepts.2.1 0 = .ok (.iconst 0, 1) := by decide +kernel
theorem d_Program_accepts_1 : decode M_Program_accepts.2.1 1 = .ok (.istore_n 2, 1) := by decide +kernel
theorem d_Program_accepts_2 : decode M_Program_accepts.2.1 2 = .ok (.iconst 0, 1) := by decide +kernel
theorem d_Program_accepts_3 : decode M_Program_accepts.2.1 3 = .ok (.istore_n 3, 1) := by decide +kernel
theorem d_Program_accepts_4 : decode M_Program_accepts.2.1 4 = .ok (.iconst 0, 1) := by decide +kernel
theorem d_Program_accepts_5 : decode M_Program_accepts.2.1 5 = .ok (.istore 4, 2) := by decide +kernel
theorem d_Program_accepts_7 : decode M_Program_accepts.2.1 7 = .ok (.iconst 0, 1) := by decide +kernel
theorem d_Program_accepts_8 : decode M_Program_accepts.2.1 8 = .ok (.istore 5, 2) := by decide +kernel
theorem d_Program_accepts_10 : decode M_Program_accepts.2.1 10 = .ok (.iload 5, 2) := by decide +kernel
theorem d_Program_accepts_12 : decode M_Program_accepts.2.1 12 = .ok (.bipush 16, 2) := by decide +kernel
theorem d_Program_accepts_14 : decode M_Program_accepts.2.1 14 = .ok (.if_icmp .ge 192, 3) := by decide +kernel
theorem d_Program_accepts_17 : decode M_Program_accepts.2.1 17 = .ok (.iload 4, 2) := by decide +kernel
theorem d_Program_accepts_19 : decode M_Program_accepts.2.1 19 = .ok (.aload_n 0, 1) := by decide +kernel
theorem d_Program_accepts_20 : decode M_Program_accepts.2.1 20 = .ok (.getfield 22, 3) := by decide +kernel
theorem d_Program_accepts_23 : decode M_Program_accepts.2.1 23 = .ok (.if_icmp .ge 183, 3) := by decide +kernel
theorem d_Program_accepts_26 : decode M_Program_accepts.2.1 26 = .ok (.aload_n 0, 1) := by decide +kernel
theorem d_Program_accepts_27 : decode M_Program_accepts.2.1 27 = .ok (.getfield 9, 3) := by decide +kernel
theorem d_Program_accepts_30 : decode M_Program_accepts.2.1 30 = .ok (.iload 4, 2) := by decide +kernel
theorem d_Program_accepts_32 : decode M_Program_accepts.2.1 32 = .ok (.iaload, 1) := by decide +kernel
theorem d_Program_accepts_33 : decode M_Program_accepts.2.1 33 = .ok (.istore 6, 2) := by decide +kernel
theorem d_Program_accepts_35 : decode M_Program_accepts.2.1 35 = .ok (.aload_n 0, 1) := by decide +kernel
theorem d_Program_accepts_36 : decode M_Program_accepts.2.1 36 = .ok (.getfield 13, 3) := by decide +kernel
theorem d_Program_accepts_39 : decode M_Program_accepts.2.1 39 = .ok (.iload 4, 2) := by decide +kernel
theorem d_Program_accepts_41 : decode M_Program_accepts.2.1 41 = .ok (.iaload, 1) := by decide +kernel
theorem d_Program_accepts_42 : decode M_Program_accepts.2.1 42 = .ok (.istore 7, 2) := by decide +kernel
theorem d_Program_accepts_44 : decode M_Program_accepts.2.1 44 = .ok (.iload 6, 2) := by decide +kernel
theorem d_Program_accepts_46 : decode M_Program_accepts.2.1 46 = .ok (.bipush 10, 2) := by decide +kernel
theorem d_Program_accepts_48 : decode M_Program_accepts.2.1 48 = .ok (.if_icmp .ne 14, 3) := by decide +kernel
theorem d_Program_accepts_51 : decode M_Program_accepts.2.1 51 = .ok (.iload 7, 2) := by decide +kernel
theorem d_Program_accepts_53 : decode M_Program_accepts.2.1 53 = .ok (.ifCond .eq 7, 3) := by decide +kernel
theorem d_Program_accepts_56 : decode M_Program_accepts.2.1 56 = .ok (.iconst 1, 1) := by decide +kernel
theorem d_Program_accepts_57 : decode M_Program_accepts.2.1 57 = .ok (.goto 4, 3) := by decide +kernel
theorem d_Program_accepts_60 : decode M_Program_accepts.2.1 60 = .ok (.iconst 0, 1) := by decide +kernel
theorem d_Program_accepts_61 : decode M_Program_accepts.2.1 61 = .ok (.ireturn, 1) := by decide +kernel
theorem d_Program_accepts_62 : decode M_Program_accepts.2.1 62 = .ok (.iload 6, 2) := by decide +kernel
theorem d_Program_accepts_64 : decode M_Program_accepts.2.1 64 = .ok (.bipush 11, 2) := by decide +kernel
theorem d_Program_accepts_66 : decode M_Program_accepts.2.1 66 = .ok (.if_icmp .ne 13, 3) := by decide +kernel
theorem d_Program_accepts_69 : decode M_Program_accepts.2.1 69 = .ok (.iload_n 2, 1) := by decide +kernel
theorem d_Program_accepts_70 : decode M_Program_accepts.2.1 70 = .ok (.ifCond .eq 7, 3) := by decide +kernel
theorem d_Program_accepts_73 : decode M_Program_accepts.2.1 73 = .ok (.iconst 1, 1) := by decide +kernel
theorem d_Program_accepts_74 : decode M_Program_accepts.2.1 74 = .ok (.goto 4, 3) := by decide +kernel
theorem d_Program_accepts_77 : decode M_Program_accepts.2.1 77 = .ok (.iconst 0, 1) := by decide +kernel
theorem d_Program_accepts_78 : decode M_Program_accepts.2.1 78 = .ok (.ireturn, 1) := by decide +kernel
theorem d_Program_accepts_79 : decode M_Program_accepts.2.1 79 = .ok (.iload 6, 2) := by decide +kernel
theorem d_Program_accepts_81 : decode M_Program_accepts.2.1 81 = .ok (.ifCond .eq 9, 3) := by decide +kernel
theorem d_Program_accepts_84 : decode M_Program_accepts.2.1 84 = .ok (.iload 6, 2) := by decide +kernel
theorem d_Program_accepts_86 : decode M_Program_accepts.2.1 86 = .ok (.iconst 1, 1) := by decide +kernel
theorem d_Program_accepts_87 : decode M_Program_accepts.2.1 87 = .ok (.if_icmp .ne 44, 3) := by decide +kernel
theorem d_Program_accepts_90 : decode M_Program_accepts.2.1 90 = .ok (.iload 6, 2) := by decide +kernel
theorem d_Program_accepts_92 : decode M_Program_accepts.2.1 92 = .ok (.ifCond .ne 9, 3) := by decide +kernel
theorem d_Program_accepts_95 : decode M_Program_accepts.2.1 95 = .ok (.iload 7, 2) := by decide +kernel
theorem d_Program_accepts_97 : decode M_Program_accepts.2.1 97 = .ok (.i2l, 1) := by decide +kernel
theorem d_Program_accepts_98 : decode M_Program_accepts.2.1 98 = .ok (.goto 9, 3) := by decide +kernel
theorem d_Program_accepts_101 : decode M_Program_accepts.2.1 101 = .ok (.iload_n 3, 1) := by decide +kernel
theorem d_Program_accepts_102 : decode M_Program_accepts.2.1 102 = .ok (.i2l, 1) := by decide +kernel
theorem d_Program_accepts_103 : decode M_Program_accepts.2.1 103 = .ok (.iload 7, 2) := by decide +kernel
theorem d_Program_accepts_105 : decode M_Program_accepts.2.1 105 = .ok (.i2l, 1) := by decide +kernel
theorem d_Program_accepts_106 : decode M_Program_accepts.2.1 106 = .ok (.ladd, 1) := by decide +kernel
theorem d_Program_accepts_107 : decode M_Program_accepts.2.1 107 = .ok (.lstore 8, 2) := by decide +kernel
theorem d_Program_accepts_109 : decode M_Program_accepts.2.1 109 = .ok (.aload_n 1, 1) := by decide +kernel
theorem d_Program_accepts_110 : decode M_Program_accepts.2.1 110 = .ok (.lload 8, 2) := by decide +kernel
theorem d_Program_accepts_112 : decode M_Program_accepts.2.1 112 = .ok (.invokevirtual 42, 3) := by decide +kernel
theorem d_Program_accepts_115 : decode M_Program_accepts.2.1 115 = .ok (.ifCond .ne 5, 3) := by decide +kernel
theorem d_Program_accepts_118 : decode M_Program_accepts.2.1 118 = .ok (.iconst 0, 1) := by decide +kernel
theorem d_Program_accepts_119 : decode M_Program_accepts.2.1 119 = .ok (.ireturn, 1) := by decide +kernel
theorem d_Program_accepts_120 : decode M_Program_accepts.2.1 120 = .ok (.aload_n 1, 1) := by decide +kernel
theorem d_Program_accepts_121 : decode M_Program_accepts.2.1 121 = .ok (.lload 8, 2) := by decide +kernel
theorem d_Program_accepts_123 : decode M_Program_accepts.2.1 123 = .ok (.l2i, 1) := by decide +kernel
theorem d_Program_accepts_124 : decode M_Program_accepts.2.1 124 = .ok (.invokevirtual 48, 3) := by decide +kernel
theorem d_Program_accepts_127 : decode M_Program_accepts.2.1 127 = .ok (.istore_n 2, 1) := by decide +kernel
theorem d_Program_accepts_128 : decode M_Program_accepts.2.1 128 = .ok (.goto 37, 3) := by decide +kernel
theorem d_Program_accepts_131 : decode M_Program_accepts.2.1 131 = .ok (.iload 6, 2) := by decide +kernel
theorem d_Program_accepts_133 : decode M_Program_accepts.2.1 133 = .ok (.iconst 2, 1) := by decide +kernel
theorem d_Program_accepts_134 : decode M_Program_accepts.2.1 134 = .ok (.if_icmp .ne 11, 3) := by decide +kernel
theorem d_Program_accepts_137 : decode M_Program_accepts.2.1 137 = .ok (.aload_n 1, 1) := by decide +kernel
theorem d_Program_accepts_138 : decode M_Program_accepts.2.1 138 = .ok (.getfield 52, 3) := by decide +kernel
theorem d_Program_accepts_141 : decode M_Program_accepts.2.1 141 = .ok (.istore_n 2, 1) := by decide +kernel
theorem d_Program_accepts_142 : decode M_Program_accepts.2.1 142 = .ok (.goto 23, 3) := by decide +kernel
theorem d_Program_accepts_145 : decode M_Program_accepts.2.1 145 = .ok (.iload 6, 2) := by decide +kernel
theorem d_Program_accepts_147 : decode M_Program_accepts.2.1 147 = .ok (.iconst 3, 1) := by decide +kernel
theorem d_Program_accepts_148 : decode M_Program_accepts.2.1 148 = .ok (.if_icmp .ne 8, 3) := by decide +kernel
theorem d_Program_accepts_151 : decode M_Program_accepts.2.1 151 = .ok (.iload_n 2, 1) := by decide +kernel
theorem d_Program_accepts_152 : decode M_Program_accepts.2.1 152 = .ok (.istore_n 3, 1) := by decide +kernel
theorem d_Program_accepts_153 : decode M_Program_accepts.2.1 153 = .ok (.goto 12, 3) := by decide +kernel
theorem d_Program_accepts_156 : decode M_Program_accepts.2.1 156 = .ok (.iload 6, 2) := by decide +kernel
theorem d_Program_accepts_158 : decode M_Program_accepts.2.1 158 = .ok (.iload_n 2, 1) := by decide +kernel
theorem d_Program_accepts_159 : decode M_Program_accepts.2.1 159 = .ok (.iload 7, 2) := by decide +kernel
theorem d_Program_accepts_161 : decode M_Program_accepts.2.1 161 = .ok (.invokestatic 53, 3) := by decide +kernel
theorem d_Program_accepts_164 : decode M_Program_accepts.2.1 164 = .ok (.istore_n 2, 1) := by decide +kernel
theorem d_Program_accepts_165 : decode M_Program_accepts.2.1 165 = .ok (.iload 4, 2) := by decide +kernel
theorem d_Program_accepts_167 : decode M_Program_accepts.2.1 167 = .ok (.iconst 1, 1) := by decide +kernel
theorem d_Program_accepts_168 : decode M_Program_accepts.2.1 168 = .ok (.iload 6, 2) := by decide +kernel
theorem d_Program_accepts_170 : decode M_Program_accepts.2.1 170 = .ok (.iload_n 2, 1) := by decide +kernel
theorem d_Program_accepts_171 : decode M_Program_accepts.2.1 171 = .ok (.iload 7, 2) := by decide +kernel
theorem d_Program_accepts_173 : decode M_Program_accepts.2.1 173 = .ok (.invokestatic 57, 3) := by decide +kernel
theorem d_Program_accepts_176 : decode M_Program_accepts.2.1 176 = .ok (.ifCond .eq 13, 3) := by decide +kernel
theorem d_Program_accepts_179 : decode M_Program_accepts.2.1 179 = .ok (.aload_n 0, 1) := by decide +kernel
theorem d_Program_accepts_180 : decode M_Program_accepts.2.1 180 = .ok (.getfield 16, 3) := by decide +kernel
theorem d_Program_accepts_183 : decode M_Program_accepts.2.1 183 = .ok (.iload 4, 2) := by decide +kernel
theorem d_Program_accepts_185 : decode M_Program_accepts.2.1 185 = .ok (.iaload, 1) := by decide +kernel
theorem d_Program_accepts_186 : decode M_Program_accepts.2.1 186 = .ok (.goto 10, 3) := by decide +kernel
theorem d_Program_accepts_189 : decode M_Program_accepts.2.1 189 = .ok (.aload_n 0, 1) := by decide +kernel
theorem d_Program_accepts_190 : decode M_Program_accepts.2.1 190 = .ok (.getfield 19, 3) := by decide +kernel
theorem d_Program_accepts_193 : decode M_Program_accepts.2.1 193 = .ok (.iload 4, 2) := by decide +kernel
theorem d_Program_accepts_195 : decode M_Program_accepts.2.1 195 = .ok (.iaload, 1) := by decide +kernel
theorem d_Program_accepts_196 : decode M_Program_accepts.2.1 196 = .ok (.iadd, 1) := by decide +kernel
theorem d_Program_accepts_197 : decode M_Program_accepts.2.1 197 = .ok (.iadd, 1) := by decide +kernel
theorem d_Program_accepts_198 : decode M_Program_accepts.2.1 198 = .ok (.istore 4, 2) := by decide +kernel
theorem d_Program_accepts_200 : decode M_Program_accepts.2.1 200 = .ok (.iinc 5 1, 3) := by decide +kernel
theorem d_Program_accepts_203 : decode M_Program_accepts.2.1 203 = .ok (.goto (-193), 3) := by decide +kernel
theorem d_Program_accepts_206 : decode M_Program_accepts.2.1 206 = .ok (.iconst 0, 1) := by decide +kernel
theorem d_Program_accepts_207 : decode M_Program_accepts.2.1 207 = .ok (.ireturn, 1) := by decide +kernel
theorem d_Frame_hasByte_0 : decode M_Frame_hasByte.2.1 0 = .ok (.lload_n 1, 1) := by decide +kernel
theorem d_Frame_hasByte_1 : decode M_Frame_hasByte.2.1 1 = .ok (.lconst 0, 1) := by decide +kernel
theorem d_Frame_hasByte_2 : decode M_Frame_hasByte.2.1 2 = .ok (.lcmp, 1) := by decide +kernel
theorem d_Frame_hasByte_3 : decode M_Frame_hasByte.2.1 3 = .ok (.ifCond .lt 17, 3) := by decide +kernel
theorem d_Frame_hasByte_6 : decode M_Frame_hasByte.2.1 6 = .ok (.lload_n 1, 1) := by decide +kernel
theorem d_Frame_hasByte_7 : decode M_Frame_hasByte.2.1 7 = .ok (.aload_n 0, 1) := by decide +kernel
theorem d_Frame_hasByte_8 : decode M_Frame_hasByte.2.1 8 = .ok (.getfield 13, 3) := by decide +kernel
theorem d_Frame_hasByte_11 : decode M_Frame_hasByte.2.1 11 = .ok (.i2l, 1) := by decide +kernel
theorem d_Frame_hasByte_12 : decode M_Frame_hasByte.2.1 12 = .ok (.lcmp, 1) := by decide +kernel
theorem d_Frame_hasByte_13 : decode M_Frame_hasByte.2.1 13 = .ok (.ifCond .ge 7, 3) := by decide +kernel
theorem d_Frame_hasByte_16 : decode M_Frame_hasByte.2.1 16 = .ok (.iconst 1, 1) := by decide +kernel
theorem d_Frame_hasByte_17 : decode M_Frame_hasByte.2.1 17 = .ok (.goto 4, 3) := by decide +kernel
theorem d_Frame_hasByte_20 : decode M_Frame_hasByte.2.1 20 = .ok (.iconst 0, 1) := by decide +kernel
theorem d_Frame_hasByte_21 : decode M_Frame_hasByte.2.1 21 = .ok (.ireturn, 1) := by decide +kernel
theorem d_Frame_byteAt_0 : decode M_Frame_byteAt.2.1 0 = .ok (.aload_n 0, 1) := by decide +kernel
theorem d_Frame_byteAt_1 : decode M_Frame_byteAt.2.1 1 = .ok (.getfield 9, 3) := by decide +kernel
theorem d_Frame_byteAt_4 : decode M_Frame_byteAt.2.1 4 = .ok (.iload_n 1, 1) := by decide +kernel
theorem d_Frame_byteAt_5 : decode M_Frame_byteAt.2.1 5 = .ok (.iaload, 1) := by decide +kernel
theorem d_Frame_byteAt_6 : decode M_Frame_byteAt.2.1 6 = .ok (.ireturn, 1) := by decide +kernel
theorem d_Program_reckon_0 : decode M_Program_reckon.2.1 0 = .ok (.iload_n 0, 1) := by decide +kernel
theorem d_Program_reckon_1 : decode M_Program_reckon.2.1 1 = .ok (.tableswitch 39 4 6 #[27, 31, 35], 27) := by decide +kernel
theorem d_Program_reckon_28 : decode M_Program_reckon.2.1 28 = .ok (.iload_n 1, 1) := by decide +kernel
theorem d_Program_reckon_29 : decode M_Program_reckon.2.1 29 = .ok (.iload_n 2, 1) := by decide +kernel
theorem d_Program_reckon_30 : decode M_Program_reckon.2.1 30 = .ok (.iadd, 1) := by decide +kernel
theorem d_Program_reckon_31 : decode M_Program_reckon.2.1 31 = .ok (.ireturn, 1) := by decide +kernel
theorem d_Program_reckon_32 : decode M_Program_reckon.2.1 32 = .ok (.iload_n 1, 1) := by decide +kernel
theorem d_Program_reckon_33 : decode M_Program_reckon.2.1 33 = .ok (.iload_n 2, 1) := by decide +kernel
theorem d_Program_reckon_34 : decode M_Program_reckon.2.1 34 = .ok (.iand, 1) := by decide +kernel
theorem d_Program_reckon_35 : decode M_Program_reckon.2.1 35 = .ok (.ireturn, 1) := by decide +kernel
theorem d_Program_reckon_36 : decode M_Program_reckon.2.1 36 = .ok (.iload_n 1, 1) := by decide +kernel
theorem d_Program_reckon_37 : decode M_Program_reckon.2.1 37 = .ok (.iload_n 2, 1) := by decide +kernel
theorem d_Program_reckon_38 : decode M_Program_reckon.2.1 38 = .ok (.iushr, 1) := by decide +kernel
theorem d_Program_reckon_39 : decode M_Program_reckon.2.1 39 = .ok (.ireturn, 1) := by decide +kernel
theorem d_Program_reckon_40 : decode M_Program_reckon.2.1 40 = .ok (.iload_n 1, 1) := by decide +kernel
theorem d_Program_reckon_41 : decode M_Program_reckon.2.1 41 = .ok (.ireturn, 1) := by decide +kernel
theorem d_Program_holds_0 : decode M_Program_holds.2.1 0 = .ok (.iload_n 0, 1) := by decide +kernel
theorem d_Program_holds_1 : decode M_Program_holds.2.1 1 = .ok (.tableswitch 61 7 9 #[27, 38, 49], 27) := by decide +kernel
theorem d_Program_holds_28 : decode M_Program_holds.2.1 28 = .ok (.iload_n 1, 1) := by decide +kernel
theorem d_Program_holds_29 : decode M_Program_holds.2.1 29 = .ok (.iload_n 2, 1) := by decide +kernel
theorem d_Program_holds_30 : decode M_Program_holds.2.1 30 = .ok (.if_icmp .ne 7, 3) := by decide +kernel
theorem d_Program_holds_33 : decode M_Program_holds.2.1 33 = .ok (.iconst 1, 1) := by decide +kernel
theorem d_Program_holds_34 : decode M_Program_holds.2.1 34 = .ok (.goto 4, 3) := by decide +kernel
theorem d_Program_holds_37 : decode M_Program_holds.2.1 37 = .ok (.iconst 0, 1) := by decide +kernel
theorem d_Program_holds_38 : decode M_Program_holds.2.1 38 = .ok (.ireturn, 1) := by decide +kernel
theorem d_Program_holds_39 : decode M_Program_holds.2.1 39 = .ok (.iload_n 1, 1) := by decide +kernel
theorem d_Program_holds_40 : decode M_Program_holds.2.1 40 = .ok (.iload_n 2, 1) := by decide +kernel
theorem d_Program_holds_41 : decode M_Program_holds.2.1 41 = .ok (.if_icmp .le 7, 3) := by decide +kernel
theorem d_Program_holds_44 : decode M_Program_holds.2.1 44 = .ok (.iconst 1, 1) := by decide +kernel
theorem d_Program_holds_45 : decode M_Program_holds.2.1 45 = .ok (.goto 4, 3) := by decide +kernel
theorem d_Program_holds_48 : decode M_Program_holds.2.1 48 = .ok (.iconst 0, 1) := by decide +kernel
theorem d_Program_holds_49 : decode M_Program_holds.2.1 49 = .ok (.ireturn, 1) := by decide +kernel
theorem d_Program_holds_50 : decode M_Program_holds.2.1 50 = .ok (.iload_n 1, 1) := by decide +kernel
theorem d_Program_holds_51 : decode M_Program_holds.2.1 51 = .ok (.iload_n 2, 1) := by decide +kernel
theorem d_Program_holds_52 : decode M_Program_holds.2.1 52 = .ok (.iand, 1) := by decide +kernel
theorem d_Program_holds_53 : decode M_Program_holds.2.1 53 = .ok (.ifCond .eq 7, 3) := by decide +kernel
theorem d_Program_holds_56 : decode M_Program_holds.2.1 56 = .ok (.iconst 1, 1) := by decide +kernel
theorem d_Program_holds_57 : decode M_Program_holds.2.1 57 = .ok (.goto 4, 3) := by decide +kernel
theorem d_Program_holds_60 : decode M_Program_holds.2.1 60 = .ok (.iconst 0, 1) := by decide +kernel
theorem d_Program_holds_61 : decode M_Program_holds.2.1 61 = .ok (.ireturn, 1) := by decide +kernel
theorem d_Program_holds_62 : decode M_Program_holds.2.1 62 = .ok (.iconst 0, 1) := by decide +kernel
theorem d_Program_holds_63 : decode M_Program_holds.2.1 63 = .ok (.ireturn, 1) := by decide +kernel
theorem d_K_deliver_0 : decode M_K_deliver.2.1 0 = .ok (.aload_n 0, 1) := by decide +kernel
theorem d_K_deliver_1 : decode M_K_deliver.2.1 1 = .ok (.getfield 49, 3) := by decide +kernel
theorem d_K_deliver_4 : decode M_K_deliver.2.1 4 = .ok (.iload_n 1, 1) := by decide +kernel
theorem d_K_deliver_5 : decode M_K_deliver.2.1 5 = .ok (.aaload, 1) := by decide +kernel
theorem d_K_deliver_6 : decode M_K_deliver.2.1 6 = .ok (.getfield 194, 3) := by decide +kernel
theorem d_K_deliver_9 : decode M_K_deliver.2.1 9 = .ok (.invokevirtual 307, 3) := by decide +kernel
theorem d_K_deliver_12 : decode M_K_deliver.2.1 12 = .ok (.ifCond .eq 16, 3) := by decide +kernel
theorem d_K_deliver_15 : decode M_K_deliver.2.1 15 = .ok (.aload_n 0, 1) := by decide +kernel
theorem d_K_deliver_16 : decode M_K_deliver.2.1 16 = .ok (.dup, 1) := by decide +kernel
theorem d_K_deliver_17 : decode M_K_deliver.2.1 17 = .ok (.getfield 43, 3) := by decide +kernel
theorem d_K_deliver_20 : decode M_K_deliver.2.1 20 = .ok (.iconst 1, 1) := by decide +kernel
theorem d_K_deliver_21 : decode M_K_deliver.2.1 21 = .ok (.iadd, 1) := by decide +kernel
theorem d_K_deliver_22 : decode M_K_deliver.2.1 22 = .ok (.putfield 43, 3) := by decide +kernel
theorem d_K_deliver_25 : decode M_K_deliver.2.1 25 = .ok (.bipush (-6), 2) := by decide +kernel
theorem d_K_deliver_27 : decode M_K_deliver.2.1 27 = .ok (.ireturn, 1) := by decide +kernel
theorem d_K_deliver_28 : decode M_K_deliver.2.1 28 = .ok (.aload_n 0, 1) := by decide +kernel
theorem d_K_deliver_29 : decode M_K_deliver.2.1 29 = .ok (.getfield 49, 3) := by decide +kernel
theorem d_K_deliver_32 : decode M_K_deliver.2.1 32 = .ok (.iload_n 1, 1) := by decide +kernel
theorem d_K_deliver_33 : decode M_K_deliver.2.1 33 = .ok (.aaload, 1) := by decide +kernel
theorem d_K_deliver_34 : decode M_K_deliver.2.1 34 = .ok (.getfield 194, 3) := by decide +kernel
theorem d_K_deliver_37 : decode M_K_deliver.2.1 37 = .ok (.aload_n 0, 1) := by decide +kernel
theorem d_K_deliver_38 : decode M_K_deliver.2.1 38 = .ok (.getfield 39, 3) := by decide +kernel
theorem d_K_deliver_41 : decode M_K_deliver.2.1 41 = .ok (.invokevirtual 308, 3) := by decide +kernel
theorem d_K_deliver_44 : decode M_K_deliver.2.1 44 = .ok (.iload_n 1, 1) := by decide +kernel
theorem d_K_deliver_45 : decode M_K_deliver.2.1 45 = .ok (.ireturn, 1) := by decide +kernel
theorem d_FrameQueue_isFull_0 : decode M_FrameQueue_isFull.2.1 0 = .ok (.aload_n 0, 1) := by decide +kernel
theorem d_FrameQueue_isFull_1 : decode M_FrameQueue_isFull.2.1 1 = .ok (.getfield 19, 3) := by decide +kernel
theorem d_FrameQueue_isFull_4 : decode M_FrameQueue_isFull.2.1 4 = .ok (.iconst 4, 1) := by decide +kernel
theorem d_FrameQueue_isFull_5 : decode M_FrameQueue_isFull.2.1 5 = .ok (.if_icmp .ne 7, 3) := by decide +kernel
theorem d_FrameQueue_isFull_8 : decode M_FrameQueue_isFull.2.1 8 = .ok (.iconst 1, 1) := by decide +kernel
theorem d_FrameQueue_isFull_9 : decode M_FrameQueue_isFull.2.1 9 = .ok (.goto 4, 3) := by decide +kernel
theorem d_FrameQueue_isFull_12 : decode M_FrameQueue_isFull.2.1 12 = .ok (.iconst 0, 1) := by decide +kernel
theorem d_FrameQueue_isFull_13 : decode M_FrameQueue_isFull.2.1 13 = .ok (.ireturn, 1) := by decide +kernel
theorem d_FrameQueue_append_0 : decode M_FrameQueue_append.2.1 0 = .ok (.aload_n 0, 1) := by decide +kernel
theorem d_FrameQueue_append_1 : decode M_FrameQueue_append.2.1 1 = .ok (.getfield 11, 3) := by decide +kernel
theorem d_FrameQueue_append_4 : decode M_FrameQueue_append.2.1 4 = .ok (.aload_n 0, 1) := by decide +kernel
theorem d_FrameQueue_append_5 : decode M_FrameQueue_append.2.1 5 = .ok (.getfield 15, 3) := by decide +kernel
theorem d_FrameQueue_append_8 : decode M_FrameQueue_append.2.1 8 = .ok (.aload_n 0, 1) := by decide +kernel
theorem d_FrameQueue_append_9 : decode M_FrameQueue_append.2.1 9 = .ok (.getfield 19, 3) := by decide +kernel
theorem d_FrameQueue_append_12 : decode M_FrameQueue_append.2.1 12 = .ok (.iadd, 1) := by decide +kernel
theorem d_FrameQueue_append_13 : decode M_FrameQueue_append.2.1 13 = .ok (.iconst 4, 1) := by decide +kernel
theorem d_FrameQueue_append_14 : decode M_FrameQueue_append.2.1 14 = .ok (.irem, 1) := by decide +kernel
theorem d_FrameQueue_append_15 : decode M_FrameQueue_append.2.1 15 = .ok (.aaload, 1) := by decide +kernel
theorem d_FrameQueue_append_16 : decode M_FrameQueue_append.2.1 16 = .ok (.aload_n 1, 1) := by decide +kernel
theorem d_FrameQueue_append_17 : decode M_FrameQueue_append.2.1 17 = .ok (.invokevirtual 23, 3) := by decide +kernel
theorem d_FrameQueue_append_20 : decode M_FrameQueue_append.2.1 20 = .ok (.aload_n 0, 1) := by decide +kernel
theorem d_FrameQueue_append_21 : decode M_FrameQueue_append.2.1 21 = .ok (.dup, 1) := by decide +kernel
theorem d_FrameQueue_append_22 : decode M_FrameQueue_append.2.1 22 = .ok (.getfield 19, 3) := by decide +kernel
theorem d_FrameQueue_append_25 : decode M_FrameQueue_append.2.1 25 = .ok (.iconst 1, 1) := by decide +kernel
theorem d_FrameQueue_append_26 : decode M_FrameQueue_append.2.1 26 = .ok (.iadd, 1) := by decide +kernel
theorem d_FrameQueue_append_27 : decode M_FrameQueue_append.2.1 27 = .ok (.putfield 19, 3) := by decide +kernel
theorem d_FrameQueue_append_30 : decode M_FrameQueue_append.2.1 30 = .ok (.return_, 1) := by decide +kernel
theorem d_Frame_copyFrom_0 : decode M_Frame_copyFrom.2.1 0 = .ok (.aload_n 1, 1) := by decide +kernel
theorem d_Frame_copyFrom_1 : decode M_Frame_copyFrom.2.1 1 = .ok (.getfield 9, 3) := by decide +kernel
theorem d_Frame_copyFrom_4 : decode M_Frame_copyFrom.2.1 4 = .ok (.iconst 0, 1) := by decide +kernel
theorem d_Frame_copyFrom_5 : decode M_Frame_copyFrom.2.1 5 = .ok (.aload_n 0, 1) := by decide +kernel
theorem d_Frame_copyFrom_6 : decode M_Frame_copyFrom.2.1 6 = .ok (.getfield 9, 3) := by decide +kernel
theorem d_Frame_copyFrom_9 : decode M_Frame_copyFrom.2.1 9 = .ok (.iconst 0, 1) := by decide +kernel
theorem d_Frame_copyFrom_10 : decode M_Frame_copyFrom.2.1 10 = .ok (.aload_n 1, 1) := by decide +kernel
theorem d_Frame_copyFrom_11 : decode M_Frame_copyFrom.2.1 11 = .ok (.getfield 13, 3) := by decide +kernel
theorem d_Frame_copyFrom_14 : decode M_Frame_copyFrom.2.1 14 = .ok (.invokestatic 17, 3) := by decide +kernel
theorem d_Frame_copyFrom_17 : decode M_Frame_copyFrom.2.1 17 = .ok (.aload_n 0, 1) := by decide +kernel
theorem d_Frame_copyFrom_18 : decode M_Frame_copyFrom.2.1 18 = .ok (.aload_n 1, 1) := by decide +kernel
theorem d_Frame_copyFrom_19 : decode M_Frame_copyFrom.2.1 19 = .ok (.getfield 13, 3) := by decide +kernel
theorem d_Frame_copyFrom_22 : decode M_Frame_copyFrom.2.1 22 = .ok (.putfield 13, 3) := by decide +kernel
theorem d_Frame_copyFrom_25 : decode M_Frame_copyFrom.2.1 25 = .ok (.return_, 1) := by decide +kernel
theorem d_Frame_clear_0 : decode M_Frame_clear.2.1 0 = .ok (.aload_n 0, 1) := by decide +kernel
theorem d_Frame_clear_1 : decode M_Frame_clear.2.1 1 = .ok (.iconst 0, 1) := by decide +kernel
theorem d_Frame_clear_2 : decode M_Frame_clear.2.1 2 = .ok (.putfield 13, 3) := by decide +kernel
theorem d_Frame_clear_5 : decode M_Frame_clear.2.1 5 = .ok (.return_, 1) := by decide +kernel
theorem d_K_got_0 : decode M_K_got.2.1 0 = .ok (.aload_n 0, 1) := by decide +kernel
theorem d_K_got_1 : decode M_K_got.2.1 1 = .ok (.iload_n 1, 1) := by decide +kernel
theorem d_K_got_2 : decode M_K_got.2.1 2 = .ok (.invokevirtual 84, 3) := by decide +kernel
theorem d_K_got_5 : decode M_K_got.2.1 5 = .ok (.ifCond .eq 18, 3) := by decide +kernel
theorem d_K_got_8 : decode M_K_got.2.1 8 = .ok (.aload_n 0, 1) := by decide +kernel
theorem d_K_got_9 : decode M_K_got.2.1 9 = .ok (.getfield 49, 3) := by decide +kernel
theorem d_K_got_12 : decode M_K_got.2.1 12 = .ok (.iload_n 1, 1) := by decide +kernel
theorem d_K_got_13 : decode M_K_got.2.1 13 = .ok (.aaload, 1) := by decide +kernel
theorem d_K_got_14 : decode M_K_got.2.1 14 = .ok (.getfield 194, 3) := by decide +kernel
theorem d_K_got_17 : decode M_K_got.2.1 17 = .ok (.getfield 198, 3) := by decide +kernel
theorem d_K_got_20 : decode M_K_got.2.1 20 = .ok (.ifCond .ne 5, 3) := by decide +kernel
theorem d_K_got_23 : decode M_K_got.2.1 23 = .ok (.iconst (-1), 1) := by decide +kernel
theorem d_K_got_24 : decode M_K_got.2.1 24 = .ok (.ireturn, 1) := by decide +kernel
theorem d_K_got_25 : decode M_K_got.2.1 25 = .ok (.aload_n 0, 1) := by decide +kernel
theorem d_K_got_26 : decode M_K_got.2.1 26 = .ok (.getfield 49, 3) := by decide +kernel
theorem d_K_got_29 : decode M_K_got.2.1 29 = .ok (.iload_n 1, 1) := by decide +kernel
theorem d_K_got_30 : decode M_K_got.2.1 30 = .ok (.aaload, 1) := by decide +kernel
theorem d_K_got_31 : decode M_K_got.2.1 31 = .ok (.getfield 194, 3) := by decide +kernel
theorem d_K_got_34 : decode M_K_got.2.1 34 = .ok (.invokevirtual 201, 3) := by decide +kernel
theorem d_K_got_37 : decode M_K_got.2.1 37 = .ok (.astore_n 3, 1) := by decide +kernel
theorem d_K_got_38 : decode M_K_got.2.1 38 = .ok (.iload_n 2, 1) := by decide +kernel
theorem d_K_got_39 : decode M_K_got.2.1 39 = .ok (.iconst (-1), 1) := by decide +kernel
theorem d_K_got_40 : decode M_K_got.2.1 40 = .ok (.if_icmp .ne 8, 3) := by decide +kernel
theorem d_K_got_43 : decode M_K_got.2.1 43 = .ok (.aload_n 3, 1) := by decide +kernel
theorem d_K_got_44 : decode M_K_got.2.1 44 = .ok (.getfield 186, 3) := by decide +kernel
theorem d_K_got_47 : decode M_K_got.2.1 47 = .ok (.ireturn, 1) := by decide +kernel
theorem d_K_got_48 : decode M_K_got.2.1 48 = .ok (.aload_n 3, 1) := by decide +kernel
theorem d_K_got_49 : decode M_K_got.2.1 49 = .ok (.iload_n 2, 1) := by decide +kernel
theorem d_K_got_50 : decode M_K_got.2.1 50 = .ok (.i2l, 1) := by decide +kernel
theorem d_K_got_51 : decode M_K_got.2.1 51 = .ok (.invokevirtual 205, 3) := by decide +kernel
theorem d_K_got_54 : decode M_K_got.2.1 54 = .ok (.ifCond .eq 11, 3) := by decide +kernel
theorem d_K_got_57 : decode M_K_got.2.1 57 = .ok (.aload_n 3, 1) := by decide +kernel
theorem d_K_got_58 : decode M_K_got.2.1 58 = .ok (.iload_n 2, 1) := by decide +kernel
theorem d_K_got_59 : decode M_K_got.2.1 59 = .ok (.invokevirtual 209, 3) := by decide +kernel
theorem d_K_got_62 : decode M_K_got.2.1 62 = .ok (.goto 4, 3) := by decide +kernel
theorem d_K_got_65 : decode M_K_got.2.1 65 = .ok (.iconst (-1), 1) := by decide +kernel
theorem d_K_got_66 : decode M_K_got.2.1 66 = .ok (.ireturn, 1) := by decide +kernel
theorem d_FrameQueue_oldest_0 : decode M_FrameQueue_oldest.2.1 0 = .ok (.aload_n 0, 1) := by decide +kernel
theorem d_FrameQueue_oldest_1 : decode M_FrameQueue_oldest.2.1 1 = .ok (.getfield 11, 3) := by decide +kernel
theorem d_FrameQueue_oldest_4 : decode M_FrameQueue_oldest.2.1 4 = .ok (.aload_n 0, 1) := by decide +kernel
theorem d_FrameQueue_oldest_5 : decode M_FrameQueue_oldest.2.1 5 = .ok (.getfield 15, 3) := by decide +kernel
theorem d_FrameQueue_oldest_8 : decode M_FrameQueue_oldest.2.1 8 = .ok (.aaload, 1) := by decide +kernel
theorem d_FrameQueue_oldest_9 : decode M_FrameQueue_oldest.2.1 9 = .ok (.areturn, 1) := by decide +kernel
theorem d_K_next_0 : decode M_K_next.2.1 0 = .ok (.aload_n 0, 1) := by decide +kernel
theorem d_K_next_1 : decode M_K_next.2.1 1 = .ok (.iload_n 1, 1) := by decide +kernel
theorem d_K_next_2 : decode M_K_next.2.1 2 = .ok (.invokevirtual 84, 3) := by decide +kernel
theorem d_K_next_5 : decode M_K_next.2.1 5 = .ok (.ifCond .eq 18, 3) := by decide +kernel
theorem d_K_next_8 : decode M_K_next.2.1 8 = .ok (.aload_n 0, 1) := by decide +kernel
theorem d_K_next_9 : decode M_K_next.2.1 9 = .ok (.getfield 49, 3) := by decide +kernel
theorem d_K_next_12 : decode M_K_next.2.1 12 = .ok (.iload_n 1, 1) := by decide +kernel
theorem d_K_next_13 : decode M_K_next.2.1 13 = .ok (.aaload, 1) := by decide +kernel
theorem d_K_next_14 : decode M_K_next.2.1 14 = .ok (.getfield 194, 3) := by decide +kernel
theorem d_K_next_17 : decode M_K_next.2.1 17 = .ok (.getfield 198, 3) := by decide +kernel
theorem d_K_next_20 : decode M_K_next.2.1 20 = .ok (.ifCond .ne 5, 3) := by decide +kernel
theorem d_K_next_23 : decode M_K_next.2.1 23 = .ok (.iconst (-1), 1) := by decide +kernel
theorem d_K_next_24 : decode M_K_next.2.1 24 = .ok (.ireturn, 1) := by decide +kernel
theorem d_K_next_25 : decode M_K_next.2.1 25 = .ok (.aload_n 0, 1) := by decide +kernel
theorem d_K_next_26 : decode M_K_next.2.1 26 = .ok (.getfield 49, 3) := by decide +kernel
theorem d_K_next_29 : decode M_K_next.2.1 29 = .ok (.iload_n 1, 1) := by decide +kernel
theorem d_K_next_30 : decode M_K_next.2.1 30 = .ok (.aaload, 1) := by decide +kernel
theorem d_K_next_31 : decode M_K_next.2.1 31 = .ok (.getfield 194, 3) := by decide +kernel
theorem d_K_next_34 : decode M_K_next.2.1 34 = .ok (.invokevirtual 212, 3) := by decide +kernel
theorem d_K_next_37 : decode M_K_next.2.1 37 = .ok (.aload_n 0, 1) := by decide +kernel
theorem d_K_next_38 : decode M_K_next.2.1 38 = .ok (.getfield 49, 3) := by decide +kernel
theorem d_K_next_41 : decode M_K_next.2.1 41 = .ok (.iload_n 1, 1) := by decide +kernel
theorem d_K_next_42 : decode M_K_next.2.1 42 = .ok (.aaload, 1) := by decide +kernel
theorem d_K_next_43 : decode M_K_next.2.1 43 = .ok (.getfield 194, 3) := by decide +kernel
theorem d_K_next_46 : decode M_K_next.2.1 46 = .ok (.getfield 198, 3) := by decide +kernel
theorem d_K_next_49 : decode M_K_next.2.1 49 = .ok (.ireturn, 1) := by decide +kernel
theorem d_FrameQueue_dropOldest_0 : decode M_FrameQueue_dropOldest.2.1 0 = .ok (.aload_n 0, 1) := by decide +kernel
theorem d_FrameQueue_dropOldest_1 : decode M_FrameQueue_dropOldest.2.1 1 = .ok (.aload_n 0, 1) := by decide +kernel
theorem d_FrameQueue_dropOldest_2 : decode M_FrameQueue_dropOldest.2.1 2 = .ok (.getfield 15, 3) := by decide +kernel
theorem d_FrameQueue_dropOldest_5 : decode M_FrameQueue_dropOldest.2.1 5 = .ok (.iconst 1, 1) := by decide +kernel
theorem d_FrameQueue_dropOldest_6 : decode M_FrameQueue_dropOldest.2.1 6 = .ok (.iadd, 1) := by decide +kernel
theorem d_FrameQueue_dropOldest_7 : decode M_FrameQueue_dropOldest.2.1 7 = .ok (.iconst 4, 1) := by decide +kernel
theorem d_FrameQueue_dropOldest_8 : decode M_FrameQueue_dropOldest.2.1 8 = .ok (.irem, 1) := by decide +kernel
theorem d_FrameQueue_dropOldest_9 : decode M_FrameQueue_dropOldest.2.1 9 = .ok (.putfield 15, 3) := by decide +kernel
theorem d_FrameQueue_dropOldest_12 : decode M_FrameQueue_dropOldest.2.1 12 = .ok (.aload_n 0, 1) := by decide +kernel
theorem d_FrameQueue_dropOldest_13 : decode M_FrameQueue_dropOldest.2.1 13 = .ok (.dup, 1) := by decide +kernel
theorem d_FrameQueue_dropOldest_14 : decode M_FrameQueue_dropOldest.2.1 14 = .ok (.getfield 19, 3) := by decide +kernel
theorem d_FrameQueue_dropOldest_17 : decode M_FrameQueue_dropOldest.2.1 17 = .ok (.iconst 1, 1) := by decide +kernel
theorem d_FrameQueue_dropOldest_18 : decode M_FrameQueue_dropOldest.2.1 18 = .ok (.isub, 1) := by decide +kernel
theorem d_FrameQueue_dropOldest_19 : decode M_FrameQueue_dropOldest.2.1 19 = .ok (.putfield 19, 3) := by decide +kernel
theorem d_FrameQueue_dropOldest_22 : decode M_FrameQueue_dropOldest.2.1 22 = .ok (.return_, 1) := by decide +kernel
theorem d_K_write_0 : decode M_K_write.2.1 0 = .ok (.aload_n 0, 1) := by decide +kernel
theorem d_K_write_1 : decode M_K_write.2.1 1 = .ok (.iload_n 1, 1) := by decide +kernel
theorem d_K_write_2 : decode M_K_write.2.1 2 = .ok (.invokevirtual 84, 3) := by decide +kernel
theorem d_K_write_5 : decode M_K_write.2.1 5 = .ok (.ifCond .eq 24, 3) := by decide +kernel
theorem d_K_write_8 : decode M_K_write.2.1 8 = .ok (.aload_n 0, 1) := by decide +kernel
theorem d_K_write_9 : decode M_K_write.2.1 9 = .ok (.getfield 25, 3) := by decide +kernel
theorem d_K_write_12 : decode M_K_write.2.1 12 = .ok (.iload_n 2, 1) := by decide +kernel
theorem d_K_write_13 : decode M_K_write.2.1 13 = .ok (.invokevirtual 215, 3) := by decide +kernel
theorem d_K_write_16 : decode M_K_write.2.1 16 = .ok (.ifCond .eq 13, 3) := by decide +kernel
theorem d_K_write_19 : decode M_K_write.2.1 19 = .ok (.iload_n 3, 1) := by decide +kernel
theorem d_K_write_20 : decode M_K_write.2.1 20 = .ok (.iconst 0, 1) := by decide +kernel
theorem d_K_write_21 : decode M_K_write.2.1 21 = .ok (.bipush 7, 2) := by decide +kernel
theorem d_K_write_23 : decode M_K_write.2.1 23 = .ok (.invokestatic 108, 3) := by decide +kernel
theorem d_K_write_26 : decode M_K_write.2.1 26 = .ok (.ifCond .ne 5, 3) := by decide +kernel
theorem d_K_write_29 : decode M_K_write.2.1 29 = .ok (.iconst (-1), 1) := by decide +kernel
theorem d_K_write_30 : decode M_K_write.2.1 30 = .ok (.ireturn, 1) := by decide +kernel
theorem d_K_write_31 : decode M_K_write.2.1 31 = .ok (.aload_n 0, 1) := by decide +kernel
theorem d_K_write_32 : decode M_K_write.2.1 32 = .ok (.getfield 49, 3) := by decide +kernel
theorem d_K_write_35 : decode M_K_write.2.1 35 = .ok (.iload_n 1, 1) := by decide +kernel
theorem d_K_write_36 : decode M_K_write.2.1 36 = .ok (.aaload, 1) := by decide +kernel
theorem d_K_write_37 : decode M_K_write.2.1 37 = .ok (.getfield 218, 3) := by decide +kernel
theorem d_K_write_40 : decode M_K_write.2.1 40 = .ok (.ifCond .ne 15, 3) := by decide +kernel
theorem d_K_write_43 : decode M_K_write.2.1 43 = .ok (.aload_n 0, 1) := by decide +kernel
theorem d_K_write_44 : decode M_K_write.2.1 44 = .ok (.getfield 25, 3) := by decide +kernel
theorem d_K_write_47 : decode M_K_write.2.1 47 = .ok (.iload_n 2, 1) := by decide +kernel
theorem d_K_write_48 : decode M_K_write.2.1 48 = .ok (.invokevirtual 221, 3) := by decide +kernel
theorem d_K_write_51 : decode M_K_write.2.1 51 = .ok (.iload_n 1, 1) := by decide +kernel
theorem d_K_write_52 : decode M_K_write.2.1 52 = .ok (.if_icmp .eq 5, 3) := by decide +kernel
theorem d_K_write_55 : decode M_K_write.2.1 55 = .ok (.iconst (-1), 1) := by decide +kernel
theorem d_K_write_56 : decode M_K_write.2.1 56 = .ok (.ireturn, 1) := by decide +kernel
theorem d_K_write_57 : decode M_K_write.2.1 57 = .ok (.aload_n 0, 1) := by decide +kernel
theorem d_K_write_58 : decode M_K_write.2.1 58 = .ok (.getfield 49, 3) := by decide +kernel
theorem d_K_write_61 : decode M_K_write.2.1 61 = .ok (.iload_n 1, 1) := by decide +kernel
theorem d_K_write_62 : decode M_K_write.2.1 62 = .ok (.aaload, 1) := by decide +kernel
theorem d_K_write_63 : decode M_K_write.2.1 63 = .ok (.iload_n 3, 1) := by decide +kernel
theorem d_K_write_64 : decode M_K_write.2.1 64 = .ok (.invokevirtual 222, 3) := by decide +kernel
theorem d_K_write_67 : decode M_K_write.2.1 67 = .ok (.ifCond .eq 13, 3) := by decide +kernel
theorem d_K_write_70 : decode M_K_write.2.1 70 = .ok (.aload_n 0, 1) := by decide +kernel
theorem d_K_write_71 : decode M_K_write.2.1 71 = .ok (.iload_n 1, 1) := by decide +kernel
theorem d_K_write_72 : decode M_K_write.2.1 72 = .ok (.iload_n 2, 1) := by decide +kernel
theorem d_K_write_73 : decode M_K_write.2.1 73 = .ok (.iload_n 3, 1) := by decide +kernel
theorem d_K_write_74 : decode M_K_write.2.1 74 = .ok (.iload 4, 2) := by decide +kernel
theorem d_K_write_76 : decode M_K_write.2.1 76 = .ok (.invokevirtual 225, 3) := by decide +kernel
theorem d_K_write_79 : decode M_K_write.2.1 79 = .ok (.ireturn, 1) := by decide +kernel
theorem d_K_write_80 : decode M_K_write.2.1 80 = .ok (.aload_n 0, 1) := by decide +kernel
theorem d_K_write_81 : decode M_K_write.2.1 81 = .ok (.getfield 25, 3) := by decide +kernel
theorem d_K_write_84 : decode M_K_write.2.1 84 = .ok (.iload_n 2, 1) := by decide +kernel
theorem d_K_write_85 : decode M_K_write.2.1 85 = .ok (.iload_n 3, 1) := by decide +kernel
theorem d_K_write_86 : decode M_K_write.2.1 86 = .ok (.iload 4, 2) := by decide +kernel
theorem d_K_write_88 : decode M_K_write.2.1 88 = .ok (.invokevirtual 229, 3) := by decide +kernel
theorem d_K_write_91 : decode M_K_write.2.1 91 = .ok (.iconst 0, 1) := by decide +kernel
theorem d_K_write_92 : decode M_K_write.2.1 92 = .ok (.ireturn, 1) := by decide +kernel
theorem d_Disk_hasBlock_0 : decode M_Disk_hasBlock.2.1 0 = .ok (.iload_n 1, 1) := by decide +kernel
theorem d_Disk_hasBlock_1 : decode M_Disk_hasBlock.2.1 1 = .ok (.ifCond .lt 15, 3) := by decide +kernel
theorem d_Disk_hasBlock_4 : decode M_Disk_hasBlock.2.1 4 = .ok (.iload_n 1, 1) := by decide +kernel
theorem d_Disk_hasBlock_5 : decode M_Disk_hasBlock.2.1 5 = .ok (.aload_n 0, 1) := by decide +kernel
theorem d_Disk_hasBlock_6 : decode M_Disk_hasBlock.2.1 6 = .ok (.getfield 9, 3) := by decide +kernel
theorem d_Disk_hasBlock_9 : decode M_Disk_hasBlock.2.1 9 = .ok (.if_icmp .ge 7, 3) := by decide +kernel
theorem d_Disk_hasBlock_12 : decode M_Disk_hasBlock.2.1 12 = .ok (.iconst 1, 1) := by decide +kernel
theorem d_Disk_hasBlock_13 : decode M_Disk_hasBlock.2.1 13 = .ok (.goto 4, 3) := by decide +kernel
theorem d_Disk_hasBlock_16 : decode M_Disk_hasBlock.2.1 16 = .ok (.iconst 0, 1) := by decide +kernel
theorem d_Disk_hasBlock_17 : decode M_Disk_hasBlock.2.1 17 = .ok (.ireturn, 1) := by decide +kernel
theorem d_Disk_ownerOf_0 : decode M_Disk_ownerOf.2.1 0 = .ok (.aload_n 0, 1) := by decide +kernel
theorem d_Disk_ownerOf_1 : decode M_Disk_ownerOf.2.1 1 = .ok (.getfield 19, 3) := by decide +kernel
theorem d_Disk_ownerOf_4 : decode M_Disk_ownerOf.2.1 4 = .ok (.iload_n 1, 1) := by decide +kernel
theorem d_Disk_ownerOf_5 : decode M_Disk_ownerOf.2.1 5 = .ok (.iaload, 1) := by decide +kernel
theorem d_Disk_ownerOf_6 : decode M_Disk_ownerOf.2.1 6 = .ok (.ireturn, 1) := by decide +kernel
theorem d_Application_isLink_0 : decode M_Application_isLink.2.1 0 = .ok (.iload_n 1, 1) := by decide +kernel
theorem d_Application_isLink_1 : decode M_Application_isLink.2.1 1 = .ok (.aload_n 0, 1) := by decide +kernel
theorem d_Application_isLink_2 : decode M_Application_isLink.2.1 2 = .ok (.getfield 47, 3) := by decide +kernel
theorem d_Application_isLink_5 : decode M_Application_isLink.2.1 5 = .ok (.if_icmp .lt 20, 3) := by decide +kernel
theorem d_Application_isLink_8 : decode M_Application_isLink.2.1 8 = .ok (.iload_n 1, 1) := by decide +kernel
theorem d_Application_isLink_9 : decode M_Application_isLink.2.1 9 = .ok (.aload_n 0, 1) := by decide +kernel
theorem d_Application_isLink_10 : decode M_Application_isLink.2.1 10 = .ok (.getfield 47, 3) := by decide +kernel
theorem d_Application_isLink_13 : decode M_Application_isLink.2.1 13 = .ok (.aload_n 0, 1) := by decide +kernel
theorem d_Application_isLink_14 : decode M_Application_isLink.2.1 14 = .ok (.getfield 51, 3) := by decide +kernel
theorem d_Application_isLink_17 : decode M_Application_isLink.2.1 17 = .ok (.iadd, 1) := by decide +kernel
theorem d_Application_isLink_18 : decode M_Application_isLink.2.1 18 = .ok (.if_icmp .ge 7, 3) := by decide +kernel
theorem d_Application_isLink_21 : decode M_Application_isLink.2.1 21 = .ok (.iconst 1, 1) := by decide +kernel
theorem d_Application_isLink_22 : decode M_Application_isLink.2.1 22 = .ok (.goto 4, 3) := by decide +kernel
theorem d_Application_isLink_25 : decode M_Application_isLink.2.1 25 = .ok (.iconst 0, 1) := by decide +kernel
theorem d_Application_isLink_26 : decode M_Application_isLink.2.1 26 = .ok (.ireturn, 1) := by decide +kernel
theorem d_K_relink_0 : decode M_K_relink.2.1 0 = .ok (.iload 4, 2) := by decide +kernel
theorem d_K_relink_2 : decode M_K_relink.2.1 2 = .ok (.iconst (-1), 1) := by decide +kernel
theorem d_K_relink_3 : decode M_K_relink.2.1 3 = .ok (.if_icmp .eq 17, 3) := by decide +kernel
theorem d_K_relink_6 : decode M_K_relink.2.1 6 = .ok (.aload_n 0, 1) := by decide +kernel
theorem d_K_relink_7 : decode M_K_relink.2.1 7 = .ok (.getfield 25, 3) := by decide +kernel
theorem d_K_relink_10 : decode M_K_relink.2.1 10 = .ok (.iload 4, 2) := by decide +kernel
theorem d_K_relink_12 : decode M_K_relink.2.1 12 = .ok (.invokevirtual 215, 3) := by decide +kernel
theorem d_K_relink_15 : decode M_K_relink.2.1 15 = .ok (.ifCond .ne 5, 3) := by decide +kernel
theorem d_K_relink_18 : decode M_K_relink.2.1 18 = .ok (.iconst (-1), 1) := by decide +kernel
theorem d_K_relink_19 : decode M_K_relink.2.1 19 = .ok (.ireturn, 1) := by decide +kernel
theorem d_K_relink_20 : decode M_K_relink.2.1 20 = .ok (.aload_n 0, 1) := by decide +kernel
theorem d_K_relink_21 : decode M_K_relink.2.1 21 = .ok (.getfield 25, 3) := by decide +kernel
theorem d_K_relink_24 : decode M_K_relink.2.1 24 = .ok (.iload_n 2, 1) := by decide +kernel
theorem d_K_relink_25 : decode M_K_relink.2.1 25 = .ok (.iload_n 3, 1) := by decide +kernel
theorem d_K_relink_26 : decode M_K_relink.2.1 26 = .ok (.invokevirtual 262, 3) := by decide +kernel
theorem d_K_relink_29 : decode M_K_relink.2.1 29 = .ok (.istore 5, 2) := by decide +kernel
theorem d_K_relink_31 : decode M_K_relink.2.1 31 = .ok (.iload 5, 2) := by decide +kernel
theorem d_K_relink_33 : decode M_K_relink.2.1 33 = .ok (.iload 4, 2) := by decide +kernel
theorem d_K_relink_35 : decode M_K_relink.2.1 35 = .ok (.if_icmp .ne 5, 3) := by decide +kernel
theorem d_K_relink_38 : decode M_K_relink.2.1 38 = .ok (.iconst 0, 1) := by decide +kernel
theorem d_K_relink_39 : decode M_K_relink.2.1 39 = .ok (.ireturn, 1) := by decide +kernel
theorem d_K_relink_40 : decode M_K_relink.2.1 40 = .ok (.aload_n 0, 1) := by decide +kernel
theorem d_K_relink_41 : decode M_K_relink.2.1 41 = .ok (.getfield 49, 3) := by decide +kernel
theorem d_K_relink_44 : decode M_K_relink.2.1 44 = .ok (.iload_n 1, 1) := by decide +kernel
theorem d_K_relink_45 : decode M_K_relink.2.1 45 = .ok (.aaload, 1) := by decide +kernel
theorem d_K_relink_46 : decode M_K_relink.2.1 46 = .ok (.getfield 74, 3) := by decide +kernel
theorem d_K_relink_49 : decode M_K_relink.2.1 49 = .ok (.istore 6, 2) := by decide +kernel
theorem d_K_relink_51 : decode M_K_relink.2.1 51 = .ok (.aload_n 0, 1) := by decide +kernel
theorem d_K_relink_52 : decode M_K_relink.2.1 52 = .ok (.getfield 49, 3) := by decide +kernel
theorem d_K_relink_55 : decode M_K_relink.2.1 55 = .ok (.iload_n 1, 1) := by decide +kernel
theorem d_K_relink_56 : decode M_K_relink.2.1 56 = .ok (.aaload, 1) := by decide +kernel
theorem d_K_relink_57 : decode M_K_relink.2.1 57 = .ok (.getfield 77, 3) := by decide +kernel
theorem d_K_relink_60 : decode M_K_relink.2.1 60 = .ok (.istore 7, 2) := by decide +kernel
theorem d_K_relink_62 : decode M_K_relink.2.1 62 = .ok (.iload 5, 2) := by decide +kernel
theorem d_K_relink_64 : decode M_K_relink.2.1 64 = .ok (.iconst (-1), 1) := by decide +kernel
theorem d_K_relink_65 : decode M_K_relink.2.1 65 = .ok (.if_icmp .eq 22, 3) := by decide +kernel
theorem d_K_relink_68 : decode M_K_relink.2.1 68 = .ok (.aload_n 0, 1) := by decide +kernel
theorem d_K_relink_69 : decode M_K_relink.2.1 69 = .ok (.getfield 25, 3) := by decide +kernel
theorem d_K_relink_72 : decode M_K_relink.2.1 72 = .ok (.iload 5, 2) := by decide +kernel
theorem d_K_relink_74 : decode M_K_relink.2.1 74 = .ok (.iload 6, 2) := by decide +kernel
theorem d_K_relink_76 : decode M_K_relink.2.1 76 = .ok (.iload 7, 2) := by decide +kernel
theorem d_K_relink_78 : decode M_K_relink.2.1 78 = .ok (.invokevirtual 311, 3) := by decide +kernel
theorem d_K_relink_81 : decode M_K_relink.2.1 81 = .ok (.ifCond .eq 6, 3) := by decide +kernel
theorem d_K_relink_84 : decode M_K_relink.2.1 84 = .ok (.bipush (-3), 2) := by decide +kernel
theorem d_K_relink_86 : decode M_K_relink.2.1 86 = .ok (.ireturn, 1) := by decide +kernel
theorem d_K_relink_87 : decode M_K_relink.2.1 87 = .ok (.iload 4, 2) := by decide +kernel
theorem d_K_relink_89 : decode M_K_relink.2.1 89 = .ok (.iconst (-1), 1) := by decide +kernel
theorem d_K_relink_90 : decode M_K_relink.2.1 90 = .ok (.if_icmp .eq 18, 3) := by decide +kernel
theorem d_K_relink_93 : decode M_K_relink.2.1 93 = .ok (.aload_n 0, 1) := by decide +kernel
theorem d_K_relink_94 : decode M_K_relink.2.1 94 = .ok (.getfield 25, 3) := by decide +kernel
theorem d_K_relink_97 : decode M_K_relink.2.1 97 = .ok (.iload 4, 2) := by decide +kernel
theorem d_K_relink_99 : decode M_K_relink.2.1 99 = .ok (.invokevirtual 314, 3) := by decide +kernel
theorem d_K_relink_102 : decode M_K_relink.2.1 102 = .ok (.ifCond .ne 6, 3) := by decide +kernel
theorem d_K_relink_105 : decode M_K_relink.2.1 105 = .ok (.bipush (-4), 2) := by decide +kernel
theorem d_K_relink_107 : decode M_K_relink.2.1 107 = .ok (.ireturn, 1) := by decide +kernel
theorem d_K_relink_108 : decode M_K_relink.2.1 108 = .ok (.iload 5, 2) := by decide +kernel
theorem d_K_relink_110 : decode M_K_relink.2.1 110 = .ok (.iconst (-1), 1) := by decide +kernel
theorem d_K_relink_111 : decode M_K_relink.2.1 111 = .ok (.if_icmp .eq 12, 3) := by decide +kernel
theorem d_K_relink_114 : decode M_K_relink.2.1 114 = .ok (.aload_n 0, 1) := by decide +kernel
theorem d_K_relink_115 : decode M_K_relink.2.1 115 = .ok (.getfield 25, 3) := by decide +kernel
theorem d_K_relink_118 : decode M_K_relink.2.1 118 = .ok (.iload 5, 2) := by decide +kernel
theorem d_K_relink_120 : decode M_K_relink.2.1 120 = .ok (.invokevirtual 317, 3) := by decide +kernel
theorem d_K_relink_123 : decode M_K_relink.2.1 123 = .ok (.iload 4, 2) := by decide +kernel
theorem d_K_relink_125 : decode M_K_relink.2.1 125 = .ok (.iconst (-1), 1) := by decide +kernel
theorem d_K_relink_126 : decode M_K_relink.2.1 126 = .ok (.if_icmp .eq 17, 3) := by decide +kernel
theorem d_K_relink_129 : decode M_K_relink.2.1 129 = .ok (.aload_n 0, 1) := by decide +kernel
theorem d_K_relink_130 : decode M_K_relink.2.1 130 = .ok (.getfield 25, 3) := by decide +kernel
theorem d_K_relink_133 : decode M_K_relink.2.1 133 = .ok (.iload 4, 2) := by decide +kernel
theorem d_K_relink_135 : decode M_K_relink.2.1 135 = .ok (.iload_n 1, 1) := by decide +kernel
theorem d_K_relink_136 : decode M_K_relink.2.1 136 = .ok (.iload 6, 2) := by decide +kernel
theorem d_K_relink_138 : decode M_K_relink.2.1 138 = .ok (.iload 7, 2) := by decide +kernel
theorem d_K_relink_140 : decode M_K_relink.2.1 140 = .ok (.invokevirtual 80, 3) := by decide +kernel
theorem d_K_relink_143 : decode M_K_relink.2.1 143 = .ok (.aload_n 0, 1) := by decide +kernel
theorem d_K_relink_144 : decode M_K_relink.2.1 144 = .ok (.getfield 25, 3) := by decide +kernel
theorem d_K_relink_147 : decode M_K_relink.2.1 147 = .ok (.iload_n 2, 1) := by decide +kernel
theorem d_K_relink_148 : decode M_K_relink.2.1 148 = .ok (.iload_n 3, 1) := by decide +kernel
theorem d_K_relink_149 : decode M_K_relink.2.1 149 = .ok (.iload 4, 2) := by decide +kernel
theorem d_K_relink_151 : decode M_K_relink.2.1 151 = .ok (.invokevirtual 229, 3) := by decide +kernel
theorem d_K_relink_154 : decode M_K_relink.2.1 154 = .ok (.iconst 0, 1) := by decide +kernel
theorem d_K_relink_155 : decode M_K_relink.2.1 155 = .ok (.ireturn, 1) := by decide +kernel
theorem d_Disk_wordOf_0 : decode M_Disk_wordOf.2.1 0 = .ok (.aload_n 0, 1) := by decide +kernel
theorem d_Disk_wordOf_1 : decode M_Disk_wordOf.2.1 1 = .ok (.getfield 15, 3) := by decide +kernel
theorem d_Disk_wordOf_4 : decode M_Disk_wordOf.2.1 4 = .ok (.iload_n 1, 1) := by decide +kernel
theorem d_Disk_wordOf_5 : decode M_Disk_wordOf.2.1 5 = .ok (.bipush 8, 2) := by decide +kernel
theorem d_Disk_wordOf_7 : decode M_Disk_wordOf.2.1 7 = .ok (.imul, 1) := by decide +kernel
theorem d_Disk_wordOf_8 : decode M_Disk_wordOf.2.1 8 = .ok (.iload_n 2, 1) := by decide +kernel
theorem d_Disk_wordOf_9 : decode M_Disk_wordOf.2.1 9 = .ok (.iadd, 1) := by decide +kernel
theorem d_Disk_wordOf_10 : decode M_Disk_wordOf.2.1 10 = .ok (.iaload, 1) := by decide +kernel
theorem d_Disk_wordOf_11 : decode M_Disk_wordOf.2.1 11 = .ok (.ireturn, 1) := by decide +kernel
theorem d_Disk_namesBlocks_0 : decode M_Disk_namesBlocks.2.1 0 = .ok (.iload_n 2, 1) := by decide +kernel
theorem d_Disk_namesBlocks_1 : decode M_Disk_namesBlocks.2.1 1 = .ok (.istore 4, 2) := by decide +kernel
theorem d_Disk_namesBlocks_3 : decode M_Disk_namesBlocks.2.1 3 = .ok (.iload 4, 2) := by decide +kernel
theorem d_Disk_namesBlocks_5 : decode M_Disk_namesBlocks.2.1 5 = .ok (.iload_n 2, 1) := by decide +kernel
theorem d_Disk_namesBlocks_6 : decode M_Disk_namesBlocks.2.1 6 = .ok (.iload_n 3, 1) := by decide +kernel
theorem d_Disk_namesBlocks_7 : decode M_Disk_namesBlocks.2.1 7 = .ok (.iadd, 1) := by decide +kernel
theorem d_Disk_namesBlocks_8 : decode M_Disk_namesBlocks.2.1 8 = .ok (.if_icmp .ge 22, 3) := by decide +kernel
theorem d_Disk_namesBlocks_11 : decode M_Disk_namesBlocks.2.1 11 = .ok (.aload_n 0, 1) := by decide +kernel
theorem d_Disk_namesBlocks_12 : decode M_Disk_namesBlocks.2.1 12 = .ok (.iload_n 1, 1) := by decide +kernel
theorem d_Disk_namesBlocks_13 : decode M_Disk_namesBlocks.2.1 13 = .ok (.iload 4, 2) := by decide +kernel
theorem d_Disk_namesBlocks_15 : decode M_Disk_namesBlocks.2.1 15 = .ok (.invokevirtual 34, 3) := by decide +kernel
theorem d_Disk_namesBlocks_18 : decode M_Disk_namesBlocks.2.1 18 = .ok (.iconst (-1), 1) := by decide +kernel
theorem d_Disk_namesBlocks_19 : decode M_Disk_namesBlocks.2.1 19 = .ok (.if_icmp .eq 5, 3) := by decide +kernel
theorem d_Disk_namesBlocks_22 : decode M_Disk_namesBlocks.2.1 22 = .ok (.iconst 1, 1) := by decide +kernel
theorem d_Disk_namesBlocks_23 : decode M_Disk_namesBlocks.2.1 23 = .ok (.ireturn, 1) := by decide +kernel
theorem d_Disk_namesBlocks_24 : decode M_Disk_namesBlocks.2.1 24 = .ok (.iinc 4 1, 3) := by decide +kernel
theorem d_Disk_namesBlocks_27 : decode M_Disk_namesBlocks.2.1 27 = .ok (.goto (-24), 3) := by decide +kernel
theorem d_Disk_namesBlocks_30 : decode M_Disk_namesBlocks.2.1 30 = .ok (.iconst 0, 1) := by decide +kernel
theorem d_Disk_namesBlocks_31 : decode M_Disk_namesBlocks.2.1 31 = .ok (.ireturn, 1) := by decide +kernel
theorem d_K_put_0 : decode M_K_put.2.1 0 = .ok (.aload_n 0, 1) := by decide +kernel
theorem d_K_put_1 : decode M_K_put.2.1 1 = .ok (.iload_n 1, 1) := by decide +kernel
theorem d_K_put_2 : decode M_K_put.2.1 2 = .ok (.invokevirtual 84, 3) := by decide +kernel
theorem d_K_put_5 : decode M_K_put.2.1 5 = .ok (.ifCond .eq 15, 3) := by decide +kernel
theorem d_K_put_8 : decode M_K_put.2.1 8 = .ok (.aload_n 0, 1) := by decide +kernel
theorem d_K_put_9 : decode M_K_put.2.1 9 = .ok (.getfield 49, 3) := by decide +kernel
theorem d_K_put_12 : decode M_K_put.2.1 12 = .ok (.iload_n 1, 1) := by decide +kernel
theorem d_K_put_13 : decode M_K_put.2.1 13 = .ok (.aaload, 1) := by decide +kernel
theorem d_K_put_14 : decode M_K_put.2.1 14 = .ok (.getfield 218, 3) := by decide +kernel
theorem d_K_put_17 : decode M_K_put.2.1 17 = .ok (.ifCond .ne 5, 3) := by decide +kernel
theorem d_K_put_20 : decode M_K_put.2.1 20 = .ok (.iconst (-1), 1) := by decide +kernel
theorem d_K_put_21 : decode M_K_put.2.1 21 = .ok (.ireturn, 1) := by decide +kernel
theorem d_K_put_22 : decode M_K_put.2.1 22 = .ok (.aload_n 0, 1) := by decide +kernel
theorem d_K_put_23 : decode M_K_put.2.1 23 = .ok (.getfield 49, 3) := by decide +kernel
theorem d_K_put_26 : decode M_K_put.2.1 26 = .ok (.iload_n 1, 1) := by decide +kernel
theorem d_K_put_27 : decode M_K_put.2.1 27 = .ok (.aaload, 1) := by decide +kernel
theorem d_K_put_28 : decode M_K_put.2.1 28 = .ok (.getfield 230, 3) := by decide +kernel
theorem d_K_put_31 : decode M_K_put.2.1 31 = .ok (.astore 5, 2) := by decide +kernel
theorem d_K_put_33 : decode M_K_put.2.1 33 = .ok (.aload 5, 2) := by decide +kernel
theorem d_K_put_35 : decode M_K_put.2.1 35 = .ok (.aload_n 0, 1) := by decide +kernel
theorem d_K_put_36 : decode M_K_put.2.1 36 = .ok (.getfield 25, 3) := by decide +kernel
theorem d_K_put_39 : decode M_K_put.2.1 39 = .ok (.iload_n 2, 1) := by decide +kernel
theorem d_K_put_40 : decode M_K_put.2.1 40 = .ok (.invokevirtual 234, 3) := by decide +kernel
theorem d_K_put_43 : decode M_K_put.2.1 43 = .ok (.istore 6, 2) := by decide +kernel
theorem d_K_put_45 : decode M_K_put.2.1 45 = .ok (.iload 6, 2) := by decide +kernel
theorem d_K_put_47 : decode M_K_put.2.1 47 = .ok (.iconst (-1), 1) := by decide +kernel
theorem d_K_put_48 : decode M_K_put.2.1 48 = .ok (.if_icmp .ne 25, 3) := by decide +kernel
theorem d_K_put_51 : decode M_K_put.2.1 51 = .ok (.iload 4, 2) := by decide +kernel
theorem d_K_put_53 : decode M_K_put.2.1 53 = .ok (.ifCond .eq 18, 3) := by decide +kernel
theorem d_K_put_56 : decode M_K_put.2.1 56 = .ok (.aload 5, 2) := by decide +kernel
theorem d_K_put_58 : decode M_K_put.2.1 58 = .ok (.aload_n 0, 1) := by decide +kernel
theorem d_K_put_59 : decode M_K_put.2.1 59 = .ok (.getfield 25, 3) := by decide +kernel
theorem d_K_put_62 : decode M_K_put.2.1 62 = .ok (.iload_n 1, 1) := by decide +kernel
theorem d_K_put_63 : decode M_K_put.2.1 63 = .ok (.iload_n 2, 1) := by decide +kernel
theorem d_K_put_64 : decode M_K_put.2.1 64 = .ok (.iload_n 3, 1) := by decide +kernel
theorem d_K_put_65 : decode M_K_put.2.1 65 = .ok (.invokevirtual 240, 3) := by decide +kernel
theorem d_K_put_68 : decode M_K_put.2.1 68 = .ok (.goto 4, 3) := by decide +kernel
theorem d_K_put_71 : decode M_K_put.2.1 71 = .ok (.iconst (-1), 1) := by decide +kernel
theorem d_K_put_72 : decode M_K_put.2.1 72 = .ok (.ireturn, 1) := by decide +kernel
theorem d_K_put_73 : decode M_K_put.2.1 73 = .ok (.iload 4, 2) := by decide +kernel
theorem d_K_put_75 : decode M_K_put.2.1 75 = .ok (.ifCond .eq 19, 3) := by decide +kernel
theorem d_K_put_78 : decode M_K_put.2.1 78 = .ok (.aload 5, 2) := by decide +kernel
theorem d_K_put_80 : decode M_K_put.2.1 80 = .ok (.aload_n 0, 1) := by decide +kernel
theorem d_K_put_81 : decode M_K_put.2.1 81 = .ok (.getfield 25, 3) := by decide +kernel
theorem d_K_put_84 : decode M_K_put.2.1 84 = .ok (.iload 6, 2) := by decide +kernel
theorem d_K_put_86 : decode M_K_put.2.1 86 = .ok (.iload_n 2, 1) := by decide +kernel
theorem d_K_put_87 : decode M_K_put.2.1 87 = .ok (.iload_n 3, 1) := by decide +kernel
theorem d_K_put_88 : decode M_K_put.2.1 88 = .ok (.invokevirtual 243, 3) := by decide +kernel
theorem d_K_put_91 : decode M_K_put.2.1 91 = .ok (.goto 14, 3) := by decide +kernel
theorem d_K_put_94 : decode M_K_put.2.1 94 = .ok (.aload 5, 2) := by decide +kernel
theorem d_K_put_96 : decode M_K_put.2.1 96 = .ok (.aload_n 0, 1) := by decide +kernel
theorem d_K_put_97 : decode M_K_put.2.1 97 = .ok (.getfield 25, 3) := by decide +kernel
theorem d_K_put_100 : decode M_K_put.2.1 100 = .ok (.iload 6, 2) := by decide +kernel
theorem d_K_put_102 : decode M_K_put.2.1 102 = .ok (.invokevirtual 247, 3) := by decide +kernel
theorem d_K_put_105 : decode M_K_put.2.1 105 = .ok (.iconst 0, 1) := by decide +kernel
theorem d_K_put_106 : decode M_K_put.2.1 106 = .ok (.ireturn, 1) := by decide +kernel
theorem d_EntryTable_placeOf_0 : decode M_EntryTable_placeOf.2.1 0 = .ok (.iconst 0, 1) := by decide +kernel
theorem d_EntryTable_placeOf_1 : decode M_EntryTable_placeOf.2.1 1 = .ok (.istore_n 3, 1) := by decide +kernel
theorem d_EntryTable_placeOf_2 : decode M_EntryTable_placeOf.2.1 2 = .ok (.iload_n 3, 1) := by decide +kernel
theorem d_EntryTable_placeOf_3 : decode M_EntryTable_placeOf.2.1 3 = .ok (.aload_n 0, 1) := by decide +kernel
theorem d_EntryTable_placeOf_4 : decode M_EntryTable_placeOf.2.1 4 = .ok (.getfield 15, 3) := by decide +kernel
theorem d_EntryTable_placeOf_7 : decode M_EntryTable_placeOf.2.1 7 = .ok (.if_icmp .ge 21, 3) := by decide +kernel
theorem d_EntryTable_placeOf_10 : decode M_EntryTable_placeOf.2.1 10 = .ok (.aload_n 0, 1) := by decide +kernel
theorem d_EntryTable_placeOf_11 : decode M_EntryTable_placeOf.2.1 11 = .ok (.aload_n 1, 1) := by decide +kernel
theorem d_EntryTable_placeOf_12 : decode M_EntryTable_placeOf.2.1 12 = .ok (.iload_n 3, 1) := by decide +kernel
theorem d_EntryTable_placeOf_13 : decode M_EntryTable_placeOf.2.1 13 = .ok (.invokevirtual 19, 3) := by decide +kernel
theorem d_EntryTable_placeOf_16 : decode M_EntryTable_placeOf.2.1 16 = .ok (.iload_n 2, 1) := by decide +kernel
theorem d_EntryTable_placeOf_17 : decode M_EntryTable_placeOf.2.1 17 = .ok (.if_icmp .ne 5, 3) := by decide +kernel
theorem d_EntryTable_placeOf_20 : decode M_EntryTable_placeOf.2.1 20 = .ok (.iload_n 3, 1) := by decide +kernel
theorem d_EntryTable_placeOf_21 : decode M_EntryTable_placeOf.2.1 21 = .ok (.ireturn, 1) := by decide +kernel
theorem d_EntryTable_placeOf_22 : decode M_EntryTable_placeOf.2.1 22 = .ok (.iinc 3 1, 3) := by decide +kernel
theorem d_EntryTable_placeOf_25 : decode M_EntryTable_placeOf.2.1 25 = .ok (.goto (-23), 3) := by decide +kernel
theorem d_EntryTable_placeOf_28 : decode M_EntryTable_placeOf.2.1 28 = .ok (.iconst (-1), 1) := by decide +kernel
theorem d_EntryTable_placeOf_29 : decode M_EntryTable_placeOf.2.1 29 = .ok (.ireturn, 1) := by decide +kernel
theorem d_EntryTable_keyAt_0 : decode M_EntryTable_keyAt.2.1 0 = .ok (.aload_n 1, 1) := by decide +kernel
theorem d_EntryTable_keyAt_1 : decode M_EntryTable_keyAt.2.1 1 = .ok (.aload_n 0, 1) := by decide +kernel
theorem d_EntryTable_keyAt_2 : decode M_EntryTable_keyAt.2.1 2 = .ok (.iload_n 2, 1) := by decide +kernel
theorem d_EntryTable_keyAt_3 : decode M_EntryTable_keyAt.2.1 3 = .ok (.invokevirtual 40, 3) := by decide +kernel
theorem d_EntryTable_keyAt_6 : decode M_EntryTable_keyAt.2.1 6 = .ok (.iload_n 2, 1) := by decide +kernel
theorem d_EntryTable_keyAt_7 : decode M_EntryTable_keyAt.2.1 7 = .ok (.invokestatic 48, 3) := by decide +kernel
theorem d_EntryTable_keyAt_10 : decode M_EntryTable_keyAt.2.1 10 = .ok (.invokevirtual 51, 3) := by decide +kernel
theorem d_EntryTable_keyAt_13 : decode M_EntryTable_keyAt.2.1 13 = .ok (.ireturn, 1) := by decide +kernel
theorem d_EntryTable_blockOf_0 : decode M_EntryTable_blockOf.2.1 0 = .ok (.aload_n 0, 1) := by decide +kernel
theorem d_EntryTable_blockOf_1 : decode M_EntryTable_blockOf.2.1 1 = .ok (.getfield 11, 3) := by decide +kernel
theorem d_EntryTable_blockOf_4 : decode M_EntryTable_blockOf.2.1 4 = .ok (.iload_n 1, 1) := by decide +kernel
theorem d_EntryTable_blockOf_5 : decode M_EntryTable_blockOf.2.1 5 = .ok (.iconst 4, 1) := by decide +kernel
theorem d_EntryTable_blockOf_6 : decode M_EntryTable_blockOf.2.1 6 = .ok (.idiv, 1) := by decide +kernel
theorem d_EntryTable_blockOf_7 : decode M_EntryTable_blockOf.2.1 7 = .ok (.iaload, 1) := by decide +kernel
theorem d_EntryTable_blockOf_8 : decode M_EntryTable_blockOf.2.1 8 = .ok (.ireturn, 1) := by decide +kernel
theorem d_EntryTable_keyWordOf_0 : decode M_EntryTable_keyWordOf.2.1 0 = .ok (.iconst 2, 1) := by decide +kernel
theorem d_EntryTable_keyWordOf_1 : decode M_EntryTable_keyWordOf.2.1 1 = .ok (.iload_n 0, 1) := by decide +kernel
theorem d_EntryTable_keyWordOf_2 : decode M_EntryTable_keyWordOf.2.1 2 = .ok (.iconst 4, 1) := by decide +kernel
theorem d_EntryTable_keyWordOf_3 : decode M_EntryTable_keyWordOf.2.1 3 = .ok (.irem, 1) := by decide +kernel
theorem d_EntryTable_keyWordOf_4 : decode M_EntryTable_keyWordOf.2.1 4 = .ok (.imul, 1) := by decide +kernel
theorem d_EntryTable_keyWordOf_5 : decode M_EntryTable_keyWordOf.2.1 5 = .ok (.ireturn, 1) := by decide +kernel
theorem d_EntryTable_append_0 : decode M_EntryTable_append.2.1 0 = .ok (.aload_n 0, 1) := by decide +kernel
theorem d_EntryTable_append_1 : decode M_EntryTable_append.2.1 1 = .ok (.getfield 15, 3) := by decide +kernel
theorem d_EntryTable_append_4 : decode M_EntryTable_append.2.1 4 = .ok (.bipush 28, 2) := by decide +kernel
theorem d_EntryTable_append_6 : decode M_EntryTable_append.2.1 6 = .ok (.if_icmp .ne 6, 3) := by decide +kernel
theorem d_EntryTable_append_9 : decode M_EntryTable_append.2.1 9 = .ok (.bipush (-2), 2) := by decide +kernel
theorem d_EntryTable_append_11 : decode M_EntryTable_append.2.1 11 = .ok (.ireturn, 1) := by decide +kernel
theorem d_EntryTable_append_12 : decode M_EntryTable_append.2.1 12 = .ok (.aload_n 0, 1) := by decide +kernel
theorem d_EntryTable_append_13 : decode M_EntryTable_append.2.1 13 = .ok (.getfield 15, 3) := by decide +kernel
theorem d_EntryTable_append_16 : decode M_EntryTable_append.2.1 16 = .ok (.iconst 4, 1) := by decide +kernel
theorem d_EntryTable_append_17 : decode M_EntryTable_append.2.1 17 = .ok (.irem, 1) := by decide +kernel
theorem d_EntryTable_append_18 : decode M_EntryTable_append.2.1 18 = .ok (.ifCond .ne 40, 3) := by decide +kernel
theorem d_EntryTable_append_21 : decode M_EntryTable_append.2.1 21 = .ok (.aload_n 1, 1) := by decide +kernel
theorem d_EntryTable_append_22 : decode M_EntryTable_append.2.1 22 = .ok (.invokevirtual 23, 3) := by decide +kernel
theorem d_EntryTable_append_25 : decode M_EntryTable_append.2.1 25 = .ok (.istore 5, 2) := by decide +kernel
theorem d_EntryTable_append_27 : decode M_EntryTable_append.2.1 27 = .ok (.iload 5, 2) := by decide +kernel
theorem d_EntryTable_append_29 : decode M_EntryTable_append.2.1 29 = .ok (.iconst (-1), 1) := by decide +kernel
theorem d_EntryTable_append_30 : decode M_EntryTable_append.2.1 30 = .ok (.if_icmp .ne 6, 3) := by decide +kernel
theorem d_EntryTable_append_33 : decode M_EntryTable_append.2.1 33 = .ok (.bipush (-2), 2) := by decide +kernel
theorem d_EntryTable_append_35 : decode M_EntryTable_append.2.1 35 = .ok (.ireturn, 1) := by decide +kernel
theorem d_EntryTable_append_36 : decode M_EntryTable_append.2.1 36 = .ok (.aload_n 1, 1) := by decide +kernel
theorem d_EntryTable_append_37 : decode M_EntryTable_append.2.1 37 = .ok (.iload 5, 2) := by decide +kernel
theorem d_EntryTable_append_39 : decode M_EntryTable_append.2.1 39 = .ok (.iload_n 2, 1) := by decide +kernel
theorem d_EntryTable_append_40 : decode M_EntryTable_append.2.1 40 = .ok (.iconst 0, 1) := by decide +kernel
theorem d_EntryTable_append_41 : decode M_EntryTable_append.2.1 41 = .ok (.iconst 0, 1) := by decide +kernel
theorem d_EntryTable_append_42 : decode M_EntryTable_append.2.1 42 = .ok (.invokevirtual 29, 3) := by decide +kernel
theorem d_EntryTable_append_45 : decode M_EntryTable_append.2.1 45 = .ok (.aload_n 0, 1) := by decide +kernel
theorem d_EntryTable_append_46 : decode M_EntryTable_append.2.1 46 = .ok (.getfield 11, 3) := by decide +kernel
theorem d_EntryTable_append_49 : decode M_EntryTable_append.2.1 49 = .ok (.aload_n 0, 1) := by decide +kernel
theorem d_EntryTable_append_50 : decode M_EntryTable_append.2.1 50 = .ok (.getfield 15, 3) := by decide +kernel
theorem d_EntryTable_append_53 : decode M_EntryTable_append.2.1 53 = .ok (.iconst 4, 1) := by decide +kernel
theorem d_EntryTable_append_54 : decode M_EntryTable_append.2.1 54 = .ok (.idiv, 1) := by decide +kernel
theorem d_EntryTable_append_55 : decode M_EntryTable_append.2.1 55 = .ok (.iload 5, 2) := by decide +kernel
theorem d_EntryTable_append_57 : decode M_EntryTable_append.2.1 57 = .ok (.iastore, 1) := by decide +kernel
theorem d_EntryTable_append_58 : decode M_EntryTable_append.2.1 58 = .ok (.aload_n 0, 1) := by decide +kernel
theorem d_EntryTable_append_59 : decode M_EntryTable_append.2.1 59 = .ok (.aload_n 1, 1) := by decide +kernel
theorem d_EntryTable_append_60 : decode M_EntryTable_append.2.1 60 = .ok (.aload_n 0, 1) := by decide +kernel
theorem d_EntryTable_append_61 : decode M_EntryTable_append.2.1 61 = .ok (.getfield 15, 3) := by decide +kernel
theorem d_EntryTable_append_64 : decode M_EntryTable_append.2.1 64 = .ok (.iload_n 3, 1) := by decide +kernel
theorem d_EntryTable_append_65 : decode M_EntryTable_append.2.1 65 = .ok (.iload 4, 2) := by decide +kernel
theorem d_EntryTable_append_67 : decode M_EntryTable_append.2.1 67 = .ok (.invokevirtual 33, 3) := by decide +kernel
theorem d_EntryTable_append_70 : decode M_EntryTable_append.2.1 70 = .ok (.aload_n 0, 1) := by decide +kernel
theorem d_EntryTable_append_71 : decode M_EntryTable_append.2.1 71 = .ok (.dup, 1) := by decide +kernel
theorem d_EntryTable_append_72 : decode M_EntryTable_append.2.1 72 = .ok (.getfield 15, 3) := by decide +kernel
theorem d_EntryTable_append_75 : decode M_EntryTable_append.2.1 75 = .ok (.iconst 1, 1) := by decide +kernel
theorem d_EntryTable_append_76 : decode M_EntryTable_append.2.1 76 = .ok (.iadd, 1) := by decide +kernel
theorem d_EntryTable_append_77 : decode M_EntryTable_append.2.1 77 = .ok (.putfield 15, 3) := by decide +kernel
theorem d_EntryTable_append_80 : decode M_EntryTable_append.2.1 80 = .ok (.iconst 0, 1) := by decide +kernel
theorem d_EntryTable_append_81 : decode M_EntryTable_append.2.1 81 = .ok (.ireturn, 1) := by decide +kernel
theorem d_EntryTable_setEntry_0 : decode M_EntryTable_setEntry.2.1 0 = .ok (.aload_n 1, 1) := by decide +kernel
theorem d_EntryTable_setEntry_1 : decode M_EntryTable_setEntry.2.1 1 = .ok (.aload_n 0, 1) := by decide +kernel
theorem d_EntryTable_setEntry_2 : decode M_EntryTable_setEntry.2.1 2 = .ok (.iload_n 2, 1) := by decide +kernel
theorem d_EntryTable_setEntry_3 : decode M_EntryTable_setEntry.2.1 3 = .ok (.invokevirtual 40, 3) := by decide +kernel
theorem d_EntryTable_setEntry_6 : decode M_EntryTable_setEntry.2.1 6 = .ok (.iload_n 2, 1) := by decide +kernel
theorem d_EntryTable_setEntry_7 : decode M_EntryTable_setEntry.2.1 7 = .ok (.invokestatic 48, 3) := by decide +kernel
theorem d_EntryTable_setEntry_10 : decode M_EntryTable_setEntry.2.1 10 = .ok (.iload_n 3, 1) := by decide +kernel
theorem d_EntryTable_setEntry_11 : decode M_EntryTable_setEntry.2.1 11 = .ok (.invokevirtual 55, 3) := by decide +kernel
theorem d_EntryTable_setEntry_14 : decode M_EntryTable_setEntry.2.1 14 = .ok (.aload_n 1, 1) := by decide +kernel
theorem d_EntryTable_setEntry_15 : decode M_EntryTable_setEntry.2.1 15 = .ok (.aload_n 0, 1) := by decide +kernel
theorem d_EntryTable_setEntry_16 : decode M_EntryTable_setEntry.2.1 16 = .ok (.iload_n 2, 1) := by decide +kernel
theorem d_EntryTable_setEntry_17 : decode M_EntryTable_setEntry.2.1 17 = .ok (.invokevirtual 40, 3) := by decide +kernel
theorem d_EntryTable_setEntry_20 : decode M_EntryTable_setEntry.2.1 20 = .ok (.iload_n 2, 1) := by decide +kernel
theorem d_EntryTable_setEntry_21 : decode M_EntryTable_setEntry.2.1 21 = .ok (.invokestatic 48, 3) := by decide +kernel
theorem d_EntryTable_setEntry_24 : decode M_EntryTable_setEntry.2.1 24 = .ok (.iconst 1, 1) := by decide +kernel
theorem d_EntryTable_setEntry_25 : decode M_EntryTable_setEntry.2.1 25 = .ok (.iadd, 1) := by decide +kernel
theorem d_EntryTable_setEntry_26 : decode M_EntryTable_setEntry.2.1 26 = .ok (.iload 4, 2) := by decide +kernel
theorem d_EntryTable_setEntry_28 : decode M_EntryTable_setEntry.2.1 28 = .ok (.invokevirtual 55, 3) := by decide +kernel
theorem d_EntryTable_setEntry_31 : decode M_EntryTable_setEntry.2.1 31 = .ok (.return_, 1) := by decide +kernel
theorem d_EntryTable_removeAt_0 : decode M_EntryTable_removeAt.2.1 0 = .ok (.aload_n 0, 1) := by decide +kernel
theorem d_EntryTable_removeAt_1 : decode M_EntryTable_removeAt.2.1 1 = .ok (.getfield 15, 3) := by decide +kernel
theorem d_EntryTable_removeAt_4 : decode M_EntryTable_removeAt.2.1 4 = .ok (.iconst 1, 1) := by decide +kernel
theorem d_EntryTable_removeAt_5 : decode M_EntryTable_removeAt.2.1 5 = .ok (.isub, 1) := by decide +kernel
theorem d_EntryTable_removeAt_6 : decode M_EntryTable_removeAt.2.1 6 = .ok (.istore_n 3, 1) := by decide +kernel
theorem d_EntryTable_removeAt_7 : decode M_EntryTable_removeAt.2.1 7 = .ok (.aload_n 0, 1) := by decide +kernel
theorem d_EntryTable_removeAt_8 : decode M_EntryTable_removeAt.2.1 8 = .ok (.aload_n 1, 1) := by decide +kernel
theorem d_EntryTable_removeAt_9 : decode M_EntryTable_removeAt.2.1 9 = .ok (.iload_n 2, 1) := by decide +kernel
theorem d_EntryTable_removeAt_10 : decode M_EntryTable_removeAt.2.1 10 = .ok (.aload_n 0, 1) := by decide +kernel
theorem d_EntryTable_removeAt_11 : decode M_EntryTable_removeAt.2.1 11 = .ok (.aload_n 1, 1) := by decide +kernel
theorem d_EntryTable_removeAt_12 : decode M_EntryTable_removeAt.2.1 12 = .ok (.iload_n 3, 1) := by decide +kernel
theorem d_EntryTable_removeAt_13 : decode M_EntryTable_removeAt.2.1 13 = .ok (.invokevirtual 19, 3) := by decide +kernel
theorem d_EntryTable_removeAt_16 : decode M_EntryTable_removeAt.2.1 16 = .ok (.aload_n 0, 1) := by decide +kernel
theorem d_EntryTable_removeAt_17 : decode M_EntryTable_removeAt.2.1 17 = .ok (.aload_n 1, 1) := by decide +kernel
theorem d_EntryTable_removeAt_18 : decode M_EntryTable_removeAt.2.1 18 = .ok (.iload_n 3, 1) := by decide +kernel
theorem d_EntryTable_removeAt_19 : decode M_EntryTable_removeAt.2.1 19 = .ok (.invokevirtual 37, 3) := by decide +kernel
theorem d_EntryTable_removeAt_22 : decode M_EntryTable_removeAt.2.1 22 = .ok (.invokevirtual 33, 3) := by decide +kernel
theorem d_EntryTable_removeAt_25 : decode M_EntryTable_removeAt.2.1 25 = .ok (.iload_n 3, 1) := by decide +kernel
theorem d_EntryTable_removeAt_26 : decode M_EntryTable_removeAt.2.1 26 = .ok (.iconst 4, 1) := by decide +kernel
theorem d_EntryTable_removeAt_27 : decode M_EntryTable_removeAt.2.1 27 = .ok (.irem, 1) := by decide +kernel
theorem d_EntryTable_removeAt_28 : decode M_EntryTable_removeAt.2.1 28 = .ok (.ifCond .ne 12, 3) := by decide +kernel
theorem d_EntryTable_removeAt_31 : decode M_EntryTable_removeAt.2.1 31 = .ok (.aload_n 1, 1) := by decide +kernel
theorem d_EntryTable_removeAt_32 : decode M_EntryTable_removeAt.2.1 32 = .ok (.aload_n 0, 1) := by decide +kernel
theorem d_EntryTable_removeAt_33 : decode M_EntryTable_removeAt.2.1 33 = .ok (.iload_n 3, 1) := by decide +kernel
theorem d_EntryTable_removeAt_34 : decode M_EntryTable_removeAt.2.1 34 = .ok (.invokevirtual 40, 3) := by decide +kernel
theorem d_EntryTable_removeAt_37 : decode M_EntryTable_removeAt.2.1 37 = .ok (.invokevirtual 44, 3) := by decide +kernel
theorem d_EntryTable_removeAt_40 : decode M_EntryTable_removeAt.2.1 40 = .ok (.aload_n 0, 1) := by decide +kernel
theorem d_EntryTable_removeAt_41 : decode M_EntryTable_removeAt.2.1 41 = .ok (.iload_n 3, 1) := by decide +kernel
theorem d_EntryTable_removeAt_42 : decode M_EntryTable_removeAt.2.1 42 = .ok (.putfield 15, 3) := by decide +kernel
theorem d_EntryTable_removeAt_45 : decode M_EntryTable_removeAt.2.1 45 = .ok (.return_, 1) := by decide +kernel
theorem d_EntryTable_valueAt_0 : decode M_EntryTable_valueAt.2.1 0 = .ok (.aload_n 1, 1) := by decide +kernel
theorem d_EntryTable_valueAt_1 : decode M_EntryTable_valueAt.2.1 1 = .ok (.aload_n 0, 1) := by decide +kernel
theorem d_EntryTable_valueAt_2 : decode M_EntryTable_valueAt.2.1 2 = .ok (.iload_n 2, 1) := by decide +kernel
theorem d_EntryTable_valueAt_3 : decode M_EntryTable_valueAt.2.1 3 = .ok (.invokevirtual 40, 3) := by decide +kernel
theorem d_EntryTable_valueAt_6 : decode M_EntryTable_valueAt.2.1 6 = .ok (.iload_n 2, 1) := by decide +kernel
theorem d_EntryTable_valueAt_7 : decode M_EntryTable_valueAt.2.1 7 = .ok (.invokestatic 48, 3) := by decide +kernel
theorem d_EntryTable_valueAt_10 : decode M_EntryTable_valueAt.2.1 10 = .ok (.iconst 1, 1) := by decide +kernel
theorem d_EntryTable_valueAt_11 : decode M_EntryTable_valueAt.2.1 11 = .ok (.iadd, 1) := by decide +kernel
theorem d_EntryTable_valueAt_12 : decode M_EntryTable_valueAt.2.1 12 = .ok (.invokevirtual 51, 3) := by decide +kernel
theorem d_EntryTable_valueAt_15 : decode M_EntryTable_valueAt.2.1 15 = .ok (.ireturn, 1) := by decide +kernel
theorem d_K_get_0 : decode M_K_get.2.1 0 = .ok (.aload_n 0, 1) := by decide +kernel
theorem d_K_get_1 : decode M_K_get.2.1 1 = .ok (.iload_n 1, 1) := by decide +kernel
theorem d_K_get_2 : decode M_K_get.2.1 2 = .ok (.invokevirtual 84, 3) := by decide +kernel
theorem d_K_get_5 : decode M_K_get.2.1 5 = .ok (.ifCond .ne 7, 3) := by decide +kernel
theorem d_K_get_8 : decode M_K_get.2.1 8 = .ok (.ldc2_w 123, 3) := by decide +kernel
theorem d_K_get_11 : decode M_K_get.2.1 11 = .ok (.lreturn, 1) := by decide +kernel
theorem d_K_get_12 : decode M_K_get.2.1 12 = .ok (.aload_n 0, 1) := by decide +kernel
theorem d_K_get_13 : decode M_K_get.2.1 13 = .ok (.getfield 49, 3) := by decide +kernel
theorem d_K_get_16 : decode M_K_get.2.1 16 = .ok (.iload_n 1, 1) := by decide +kernel
theorem d_K_get_17 : decode M_K_get.2.1 17 = .ok (.aaload, 1) := by decide +kernel
theorem d_K_get_18 : decode M_K_get.2.1 18 = .ok (.getfield 218, 3) := by decide +kernel
theorem d_K_get_21 : decode M_K_get.2.1 21 = .ok (.ifCond .eq 51, 3) := by decide +kernel
theorem d_K_get_24 : decode M_K_get.2.1 24 = .ok (.aload_n 0, 1) := by decide +kernel
theorem d_K_get_25 : decode M_K_get.2.1 25 = .ok (.getfield 49, 3) := by decide +kernel
theorem d_K_get_28 : decode M_K_get.2.1 28 = .ok (.iload_n 1, 1) := by decide +kernel
theorem d_K_get_29 : decode M_K_get.2.1 29 = .ok (.aaload, 1) := by decide +kernel
theorem d_K_get_30 : decode M_K_get.2.1 30 = .ok (.getfield 230, 3) := by decide +kernel
theorem d_K_get_33 : decode M_K_get.2.1 33 = .ok (.aload_n 0, 1) := by decide +kernel
theorem d_K_get_34 : decode M_K_get.2.1 34 = .ok (.getfield 25, 3) := by decide +kernel
theorem d_K_get_37 : decode M_K_get.2.1 37 = .ok (.iload_n 2, 1) := by decide +kernel
theorem d_K_get_38 : decode M_K_get.2.1 38 = .ok (.invokevirtual 234, 3) := by decide +kernel
theorem d_K_get_41 : decode M_K_get.2.1 41 = .ok (.istore_n 3, 1) := by decide +kernel
theorem d_K_get_42 : decode M_K_get.2.1 42 = .ok (.iload_n 3, 1) := by decide +kernel
theorem d_K_get_43 : decode M_K_get.2.1 43 = .ok (.iconst (-1), 1) := by decide +kernel
theorem d_K_get_44 : decode M_K_get.2.1 44 = .ok (.if_icmp .ne 9, 3) := by decide +kernel
theorem d_K_get_47 : decode M_K_get.2.1 47 = .ok (.ldc2_w 123, 3) := by decide +kernel
theorem d_K_get_50 : decode M_K_get.2.1 50 = .ok (.goto 21, 3) := by decide +kernel
theorem d_K_get_53 : decode M_K_get.2.1 53 = .ok (.aload_n 0, 1) := by decide +kernel
theorem d_K_get_54 : decode M_K_get.2.1 54 = .ok (.getfield 49, 3) := by decide +kernel
theorem d_K_get_57 : decode M_K_get.2.1 57 = .ok (.iload_n 1, 1) := by decide +kernel
theorem d_K_get_58 : decode M_K_get.2.1 58 = .ok (.aaload, 1) := by decide +kernel
theorem d_K_get_59 : decode M_K_get.2.1 59 = .ok (.getfield 230, 3) := by decide +kernel
theorem d_K_get_62 : decode M_K_get.2.1 62 = .ok (.aload_n 0, 1) := by decide +kernel
theorem d_K_get_63 : decode M_K_get.2.1 63 = .ok (.getfield 25, 3) := by decide +kernel
theorem d_K_get_66 : decode M_K_get.2.1 66 = .ok (.iload_n 3, 1) := by decide +kernel
theorem d_K_get_67 : decode M_K_get.2.1 67 = .ok (.invokevirtual 251, 3) := by decide +kernel
theorem d_K_get_70 : decode M_K_get.2.1 70 = .ok (.i2l, 1) := by decide +kernel
theorem d_K_get_71 : decode M_K_get.2.1 71 = .ok (.lreturn, 1) := by decide +kernel
theorem d_K_get_72 : decode M_K_get.2.1 72 = .ok (.iload_n 2, 1) := by decide +kernel
theorem d_K_get_73 : decode M_K_get.2.1 73 = .ok (.bipush 8, 2) := by decide +kernel
theorem d_K_get_75 : decode M_K_get.2.1 75 = .ok (.invokestatic 254, 3) := by decide +kernel
theorem d_K_get_78 : decode M_K_get.2.1 78 = .ok (.istore_n 3, 1) := by decide +kernel
theorem d_K_get_79 : decode M_K_get.2.1 79 = .ok (.aload_n 0, 1) := by decide +kernel
theorem d_K_get_80 : decode M_K_get.2.1 80 = .ok (.getfield 25, 3) := by decide +kernel
theorem d_K_get_83 : decode M_K_get.2.1 83 = .ok (.iload_n 3, 1) := by decide +kernel
theorem d_K_get_84 : decode M_K_get.2.1 84 = .ok (.invokevirtual 215, 3) := by decide +kernel
theorem d_K_get_87 : decode M_K_get.2.1 87 = .ok (.ifCond .eq 15, 3) := by decide +kernel
theorem d_K_get_90 : decode M_K_get.2.1 90 = .ok (.aload_n 0, 1) := by decide +kernel
theorem d_K_get_91 : decode M_K_get.2.1 91 = .ok (.getfield 25, 3) := by decide +kernel
theorem d_K_get_94 : decode M_K_get.2.1 94 = .ok (.iload_n 3, 1) := by decide +kernel
theorem d_K_get_95 : decode M_K_get.2.1 95 = .ok (.invokevirtual 221, 3) := by decide +kernel
theorem d_K_get_98 : decode M_K_get.2.1 98 = .ok (.iload_n 1, 1) := by decide +kernel
theorem d_K_get_99 : decode M_K_get.2.1 99 = .ok (.if_icmp .eq 7, 3) := by decide +kernel
theorem d_K_get_102 : decode M_K_get.2.1 102 = .ok (.ldc2_w 123, 3) := by decide +kernel
theorem d_K_get_105 : decode M_K_get.2.1 105 = .ok (.lreturn, 1) := by decide +kernel
theorem d_K_get_106 : decode M_K_get.2.1 106 = .ok (.aload_n 0, 1) := by decide +kernel
theorem d_K_get_107 : decode M_K_get.2.1 107 = .ok (.getfield 25, 3) := by decide +kernel
theorem d_K_get_110 : decode M_K_get.2.1 110 = .ok (.iload_n 3, 1) := by decide +kernel
theorem d_K_get_111 : decode M_K_get.2.1 111 = .ok (.iload_n 2, 1) := by decide +kernel
theorem d_K_get_112 : decode M_K_get.2.1 112 = .ok (.bipush 8, 2) := by decide +kernel
theorem d_K_get_114 : decode M_K_get.2.1 114 = .ok (.invokestatic 259, 3) := by decide +kernel
theorem d_K_get_117 : decode M_K_get.2.1 117 = .ok (.invokevirtual 262, 3) := by decide +kernel
theorem d_K_get_120 : decode M_K_get.2.1 120 = .ok (.i2l, 1) := by decide +kernel
theorem d_K_get_121 : decode M_K_get.2.1 121 = .ok (.lreturn, 1) := by decide +kernel
theorem d_Math_floorDiv_0 : decode M_Math_floorDiv.2.1 0 = .ok (.iload_n 0, 1) := by decide +kernel
theorem d_Math_floorDiv_1 : decode M_Math_floorDiv.2.1 1 = .ok (.iload_n 1, 1) := by decide +kernel
theorem d_Math_floorDiv_2 : decode M_Math_floorDiv.2.1 2 = .ok (.idiv, 1) := by decide +kernel
theorem d_Math_floorDiv_3 : decode M_Math_floorDiv.2.1 3 = .ok (.istore_n 2, 1) := by decide +kernel
theorem d_Math_floorDiv_4 : decode M_Math_floorDiv.2.1 4 = .ok (.iload_n 0, 1) := by decide +kernel
theorem d_Math_floorDiv_5 : decode M_Math_floorDiv.2.1 5 = .ok (.iload_n 1, 1) := by decide +kernel
theorem d_Math_floorDiv_6 : decode M_Math_floorDiv.2.1 6 = .ok (.ixor, 1) := by decide +kernel
theorem d_Math_floorDiv_7 : decode M_Math_floorDiv.2.1 7 = .ok (.ifCond .ge 14, 3) := by decide +kernel
theorem d_Math_floorDiv_10 : decode M_Math_floorDiv.2.1 10 = .ok (.iload_n 2, 1) := by decide +kernel
theorem d_Math_floorDiv_11 : decode M_Math_floorDiv.2.1 11 = .ok (.iload_n 1, 1) := by decide +kernel
theorem d_Math_floorDiv_12 : decode M_Math_floorDiv.2.1 12 = .ok (.imul, 1) := by decide +kernel
theorem d_Math_floorDiv_13 : decode M_Math_floorDiv.2.1 13 = .ok (.iload_n 0, 1) := by decide +kernel
theorem d_Math_floorDiv_14 : decode M_Math_floorDiv.2.1 14 = .ok (.if_icmp .eq 7, 3) := by decide +kernel
theorem d_Math_floorDiv_17 : decode M_Math_floorDiv.2.1 17 = .ok (.iload_n 2, 1) := by decide +kernel
theorem d_Math_floorDiv_18 : decode M_Math_floorDiv.2.1 18 = .ok (.iconst 1, 1) := by decide +kernel
theorem d_Math_floorDiv_19 : decode M_Math_floorDiv.2.1 19 = .ok (.isub, 1) := by decide +kernel
theorem d_Math_floorDiv_20 : decode M_Math_floorDiv.2.1 20 = .ok (.ireturn, 1) := by decide +kernel
theorem d_Math_floorDiv_21 : decode M_Math_floorDiv.2.1 21 = .ok (.iload_n 2, 1) := by decide +kernel
theorem d_Math_floorDiv_22 : decode M_Math_floorDiv.2.1 22 = .ok (.ireturn, 1) := by decide +kernel
theorem d_Math_floorMod_0 : decode M_Math_floorMod.2.1 0 = .ok (.iload_n 0, 1) := by decide +kernel
theorem d_Math_floorMod_1 : decode M_Math_floorMod.2.1 1 = .ok (.iload_n 1, 1) := by decide +kernel
theorem d_Math_floorMod_2 : decode M_Math_floorMod.2.1 2 = .ok (.irem, 1) := by decide +kernel
theorem d_Math_floorMod_3 : decode M_Math_floorMod.2.1 3 = .ok (.istore_n 2, 1) := by decide +kernel
theorem d_Math_floorMod_4 : decode M_Math_floorMod.2.1 4 = .ok (.iload_n 0, 1) := by decide +kernel
theorem d_Math_floorMod_5 : decode M_Math_floorMod.2.1 5 = .ok (.iload_n 1, 1) := by decide +kernel
theorem d_Math_floorMod_6 : decode M_Math_floorMod.2.1 6 = .ok (.ixor, 1) := by decide +kernel
theorem d_Math_floorMod_7 : decode M_Math_floorMod.2.1 7 = .ok (.ifCond .ge 11, 3) := by decide +kernel
theorem d_Math_floorMod_10 : decode M_Math_floorMod.2.1 10 = .ok (.iload_n 2, 1) := by decide +kernel
theorem d_Math_floorMod_11 : decode M_Math_floorMod.2.1 11 = .ok (.ifCond .eq 7, 3) := by decide +kernel
theorem d_Math_floorMod_14 : decode M_Math_floorMod.2.1 14 = .ok (.iload_n 2, 1) := by decide +kernel
theorem d_Math_floorMod_15 : decode M_Math_floorMod.2.1 15 = .ok (.iload_n 1, 1) := by decide +kernel
theorem d_Math_floorMod_16 : decode M_Math_floorMod.2.1 16 = .ok (.iadd, 1) := by decide +kernel
theorem d_Math_floorMod_17 : decode M_Math_floorMod.2.1 17 = .ok (.ireturn, 1) := by decide +kernel
theorem d_Math_floorMod_18 : decode M_Math_floorMod.2.1 18 = .ok (.iload_n 2, 1) := by decide +kernel
theorem d_Math_floorMod_19 : decode M_Math_floorMod.2.1 19 = .ok (.ireturn, 1) := by decide +kernel
theorem d_K_holder_0 : decode M_K_holder.2.1 0 = .ok (.iload_n 1, 1) := by decide +kernel
theorem d_K_holder_1 : decode M_K_holder.2.1 1 = .ok (.ifCond .ne 27, 3) := by decide +kernel
theorem d_K_holder_4 : decode M_K_holder.2.1 4 = .ok (.aload_n 0, 1) := by decide +kernel
theorem d_K_holder_5 : decode M_K_holder.2.1 5 = .ok (.getfield 18, 3) := by decide +kernel
theorem d_K_holder_8 : decode M_K_holder.2.1 8 = .ok (.iload_n 2, 1) := by decide +kernel
theorem d_K_holder_9 : decode M_K_holder.2.1 9 = .ok (.invokevirtual 263, 3) := by decide +kernel
theorem d_K_holder_12 : decode M_K_holder.2.1 12 = .ok (.ifCond .eq 14, 3) := by decide +kernel
theorem d_K_holder_15 : decode M_K_holder.2.1 15 = .ok (.aload_n 0, 1) := by decide +kernel
theorem d_K_holder_16 : decode M_K_holder.2.1 16 = .ok (.getfield 18, 3) := by decide +kernel
theorem d_K_holder_19 : decode M_K_holder.2.1 19 = .ok (.iload_n 2, 1) := by decide +kernel
theorem d_K_holder_20 : decode M_K_holder.2.1 20 = .ok (.invokevirtual 144, 3) := by decide +kernel
theorem d_K_holder_23 : decode M_K_holder.2.1 23 = .ok (.goto 4, 3) := by decide +kernel
theorem d_K_holder_26 : decode M_K_holder.2.1 26 = .ok (.iconst (-1), 1) := by decide +kernel
theorem d_K_holder_27 : decode M_K_holder.2.1 27 = .ok (.ireturn, 1) := by decide +kernel
theorem d_K_holder_28 : decode M_K_holder.2.1 28 = .ok (.iload_n 1, 1) := by decide +kernel
theorem d_K_holder_29 : decode M_K_holder.2.1 29 = .ok (.iconst 1, 1) := by decide +kernel
theorem d_K_holder_30 : decode M_K_holder.2.1 30 = .ok (.if_icmp .ne 27, 3) := by decide +kernel
theorem d_K_holder_33 : decode M_K_holder.2.1 33 = .ok (.aload_n 0, 1) := by decide +kernel
theorem d_K_holder_34 : decode M_K_holder.2.1 34 = .ok (.getfield 25, 3) := by decide +kernel
theorem d_K_holder_37 : decode M_K_holder.2.1 37 = .ok (.iload_n 2, 1) := by decide +kernel
theorem d_K_holder_38 : decode M_K_holder.2.1 38 = .ok (.invokevirtual 215, 3) := by decide +kernel
theorem d_K_holder_41 : decode M_K_holder.2.1 41 = .ok (.ifCond .eq 14, 3) := by decide +kernel
theorem d_K_holder_44 : decode M_K_holder.2.1 44 = .ok (.aload_n 0, 1) := by decide +kernel
theorem d_K_holder_45 : decode M_K_holder.2.1 45 = .ok (.getfield 25, 3) := by decide +kernel
theorem d_K_holder_48 : decode M_K_holder.2.1 48 = .ok (.iload_n 2, 1) := by decide +kernel
theorem d_K_holder_49 : decode M_K_holder.2.1 49 = .ok (.invokevirtual 221, 3) := by decide +kernel
theorem d_K_holder_52 : decode M_K_holder.2.1 52 = .ok (.goto 4, 3) := by decide +kernel
theorem d_K_holder_55 : decode M_K_holder.2.1 55 = .ok (.iconst (-1), 1) := by decide +kernel
theorem d_K_holder_56 : decode M_K_holder.2.1 56 = .ok (.ireturn, 1) := by decide +kernel
theorem d_K_holder_57 : decode M_K_holder.2.1 57 = .ok (.iload_n 1, 1) := by decide +kernel
theorem d_K_holder_58 : decode M_K_holder.2.1 58 = .ok (.iconst 2, 1) := by decide +kernel
theorem d_K_holder_59 : decode M_K_holder.2.1 59 = .ok (.bipush 7, 2) := by decide +kernel
theorem d_K_holder_61 : decode M_K_holder.2.1 61 = .ok (.invokestatic 108, 3) := by decide +kernel
theorem d_K_holder_64 : decode M_K_holder.2.1 64 = .ok (.ifCond .ne 5, 3) := by decide +kernel
theorem d_K_holder_67 : decode M_K_holder.2.1 67 = .ok (.iconst (-1), 1) := by decide +kernel
theorem d_K_holder_68 : decode M_K_holder.2.1 68 = .ok (.ireturn, 1) := by decide +kernel
theorem d_K_holder_69 : decode M_K_holder.2.1 69 = .ok (.aload_n 0, 1) := by decide +kernel
theorem d_K_holder_70 : decode M_K_holder.2.1 70 = .ok (.getfield 49, 3) := by decide +kernel
theorem d_K_holder_73 : decode M_K_holder.2.1 73 = .ok (.iload_n 1, 1) := by decide +kernel
theorem d_K_holder_74 : decode M_K_holder.2.1 74 = .ok (.iconst 2, 1) := by decide +kernel
theorem d_K_holder_75 : decode M_K_holder.2.1 75 = .ok (.isub, 1) := by decide +kernel
theorem d_K_holder_76 : decode M_K_holder.2.1 76 = .ok (.aaload, 1) := by decide +kernel
theorem d_K_holder_77 : decode M_K_holder.2.1 77 = .ok (.getfield 147, 3) := by decide +kernel
theorem d_K_holder_80 : decode M_K_holder.2.1 80 = .ok (.astore_n 3, 1) := by decide +kernel
theorem d_K_holder_81 : decode M_K_holder.2.1 81 = .ok (.aload_n 3, 1) := by decide +kernel
theorem d_K_holder_82 : decode M_K_holder.2.1 82 = .ok (.iload_n 2, 1) := by decide +kernel
theorem d_K_holder_83 : decode M_K_holder.2.1 83 = .ok (.invokevirtual 266, 3) := by decide +kernel
theorem d_K_holder_86 : decode M_K_holder.2.1 86 = .ok (.ifCond .eq 11, 3) := by decide +kernel
theorem d_K_holder_89 : decode M_K_holder.2.1 89 = .ok (.aload_n 3, 1) := by decide +kernel
theorem d_K_holder_90 : decode M_K_holder.2.1 90 = .ok (.iload_n 2, 1) := by decide +kernel
theorem d_K_holder_91 : decode M_K_holder.2.1 91 = .ok (.invokevirtual 269, 3) := by decide +kernel
theorem d_K_holder_94 : decode M_K_holder.2.1 94 = .ok (.goto 4, 3) := by decide +kernel
theorem d_K_holder_97 : decode M_K_holder.2.1 97 = .ok (.iconst (-1), 1) := by decide +kernel
theorem d_K_holder_98 : decode M_K_holder.2.1 98 = .ok (.ireturn, 1) := by decide +kernel
theorem d_PageList_keeps_0 : decode M_PageList_keeps.2.1 0 = .ok (.iload_n 1, 1) := by decide +kernel
theorem d_PageList_keeps_1 : decode M_PageList_keeps.2.1 1 = .ok (.ifCond .lt 15, 3) := by decide +kernel
theorem d_PageList_keeps_4 : decode M_PageList_keeps.2.1 4 = .ok (.iload_n 1, 1) := by decide +kernel
theorem d_PageList_keeps_5 : decode M_PageList_keeps.2.1 5 = .ok (.aload_n 0, 1) := by decide +kernel
theorem d_PageList_keeps_6 : decode M_PageList_keeps.2.1 6 = .ok (.getfield 13, 3) := by decide +kernel
theorem d_PageList_keeps_9 : decode M_PageList_keeps.2.1 9 = .ok (.if_icmp .ge 7, 3) := by decide +kernel
theorem d_PageList_keeps_12 : decode M_PageList_keeps.2.1 12 = .ok (.iconst 1, 1) := by decide +kernel
theorem d_PageList_keeps_13 : decode M_PageList_keeps.2.1 13 = .ok (.goto 4, 3) := by decide +kernel
theorem d_PageList_keeps_16 : decode M_PageList_keeps.2.1 16 = .ok (.iconst 0, 1) := by decide +kernel
theorem d_PageList_keeps_17 : decode M_PageList_keeps.2.1 17 = .ok (.ireturn, 1) := by decide +kernel
theorem d_PageList_beforeLast_0 : decode M_PageList_beforeLast.2.1 0 = .ok (.aload_n 0, 1) := by decide +kernel
theorem d_PageList_beforeLast_1 : decode M_PageList_beforeLast.2.1 1 = .ok (.getfield 9, 3) := by decide +kernel
theorem d_PageList_beforeLast_4 : decode M_PageList_beforeLast.2.1 4 = .ok (.aload_n 0, 1) := by decide +kernel
theorem d_PageList_beforeLast_5 : decode M_PageList_beforeLast.2.1 5 = .ok (.getfield 17, 3) := by decide +kernel
theorem d_PageList_beforeLast_8 : decode M_PageList_beforeLast.2.1 8 = .ok (.bipush 8, 2) := by decide +kernel
theorem d_PageList_beforeLast_10 : decode M_PageList_beforeLast.2.1 10 = .ok (.iadd, 1) := by decide +kernel
theorem d_PageList_beforeLast_11 : decode M_PageList_beforeLast.2.1 11 = .ok (.iconst 1, 1) := by decide +kernel
theorem d_PageList_beforeLast_12 : decode M_PageList_beforeLast.2.1 12 = .ok (.isub, 1) := by decide +kernel
theorem d_PageList_beforeLast_13 : decode M_PageList_beforeLast.2.1 13 = .ok (.iload_n 1, 1) := by decide +kernel
theorem d_PageList_beforeLast_14 : decode M_PageList_beforeLast.2.1 14 = .ok (.isub, 1) := by decide +kernel
theorem d_PageList_beforeLast_15 : decode M_PageList_beforeLast.2.1 15 = .ok (.bipush 8, 2) := by decide +kernel
theorem d_PageList_beforeLast_17 : decode M_PageList_beforeLast.2.1 17 = .ok (.irem, 1) := by decide +kernel
theorem d_PageList_beforeLast_18 : decode M_PageList_beforeLast.2.1 18 = .ok (.iaload, 1) := by decide +kernel
theorem d_PageList_beforeLast_19 : decode M_PageList_beforeLast.2.1 19 = .ok (.ireturn, 1) := by decide +kernel
theorem d_K_count_0 : decode M_K_count.2.1 0 = .ok (.iload_n 1, 1) := by decide +kernel
theorem d_K_count_1 : decode M_K_count.2.1 1 = .ok (.tableswitch 50 0 2 #[27, 36, 45], 27) := by decide +kernel
theorem d_K_count_28 : decode M_K_count.2.1 28 = .ok (.aload_n 0, 1) := by decide +kernel
theorem d_K_count_29 : decode M_K_count.2.1 29 = .ok (.getfield 18, 3) := by decide +kernel
theorem d_K_count_32 : decode M_K_count.2.1 32 = .ok (.iconst (-1), 1) := by decide +kernel
theorem d_K_count_33 : decode M_K_count.2.1 33 = .ok (.invokevirtual 272, 3) := by decide +kernel
theorem d_K_count_36 : decode M_K_count.2.1 36 = .ok (.ireturn, 1) := by decide +kernel
theorem d_K_count_37 : decode M_K_count.2.1 37 = .ok (.aload_n 0, 1) := by decide +kernel
theorem d_K_count_38 : decode M_K_count.2.1 38 = .ok (.getfield 25, 3) := by decide +kernel
theorem d_K_count_41 : decode M_K_count.2.1 41 = .ok (.iconst (-1), 1) := by decide +kernel
theorem d_K_count_42 : decode M_K_count.2.1 42 = .ok (.invokevirtual 275, 3) := by decide +kernel
theorem d_K_count_45 : decode M_K_count.2.1 45 = .ok (.ireturn, 1) := by decide +kernel
theorem d_K_count_46 : decode M_K_count.2.1 46 = .ok (.aload_n 0, 1) := by decide +kernel
theorem d_K_count_47 : decode M_K_count.2.1 47 = .ok (.getfield 43, 3) := by decide +kernel
theorem d_K_count_50 : decode M_K_count.2.1 50 = .ok (.ireturn, 1) := by decide +kernel
theorem d_K_count_51 : decode M_K_count.2.1 51 = .ok (.iload_n 2, 1) := by decide +kernel
theorem d_K_count_52 : decode M_K_count.2.1 52 = .ok (.invokestatic 54, 3) := by decide +kernel
theorem d_K_count_55 : decode M_K_count.2.1 55 = .ok (.ifCond .eq 12, 3) := by decide +kernel
theorem d_K_count_58 : decode M_K_count.2.1 58 = .ok (.aload_n 0, 1) := by decide +kernel
theorem d_K_count_59 : decode M_K_count.2.1 59 = .ok (.iload_n 2, 1) := by decide +kernel
theorem d_K_count_60 : decode M_K_count.2.1 60 = .ok (.iload_n 1, 1) := by decide +kernel
theorem d_K_count_61 : decode M_K_count.2.1 61 = .ok (.invokevirtual 278, 3) := by decide +kernel
theorem d_K_count_64 : decode M_K_count.2.1 64 = .ok (.goto 4, 3) := by decide +kernel
theorem d_K_count_67 : decode M_K_count.2.1 67 = .ok (.iconst (-1), 1) := by decide +kernel
theorem d_K_count_68 : decode M_K_count.2.1 68 = .ok (.ireturn, 1) := by decide +kernel
theorem d_Memory_pagesOf_0 : decode M_Memory_pagesOf.2.1 0 = .ok (.iconst 0, 1) := by decide +kernel
theorem d_Memory_pagesOf_1 : decode M_Memory_pagesOf.2.1 1 = .ok (.istore_n 2, 1) := by decide +kernel
theorem d_Memory_pagesOf_2 : decode M_Memory_pagesOf.2.1 2 = .ok (.iconst 0, 1) := by decide +kernel
theorem d_Memory_pagesOf_3 : decode M_Memory_pagesOf.2.1 3 = .ok (.istore_n 3, 1) := by decide +kernel
theorem d_Memory_pagesOf_4 : decode M_Memory_pagesOf.2.1 4 = .ok (.iload_n 3, 1) := by decide +kernel
theorem d_Memory_pagesOf_5 : decode M_Memory_pagesOf.2.1 5 = .ok (.aload_n 0, 1) := by decide +kernel
theorem d_Memory_pagesOf_6 : decode M_Memory_pagesOf.2.1 6 = .ok (.getfield 9, 3) := by decide +kernel
theorem d_Memory_pagesOf_9 : decode M_Memory_pagesOf.2.1 9 = .ok (.if_icmp .ge 22, 3) := by decide +kernel
theorem d_Memory_pagesOf_12 : decode M_Memory_pagesOf.2.1 12 = .ok (.aload_n 0, 1) := by decide +kernel
theorem d_Memory_pagesOf_13 : decode M_Memory_pagesOf.2.1 13 = .ok (.getfield 19, 3) := by decide +kernel
theorem d_Memory_pagesOf_16 : decode M_Memory_pagesOf.2.1 16 = .ok (.iload_n 3, 1) := by decide +kernel
theorem d_Memory_pagesOf_17 : decode M_Memory_pagesOf.2.1 17 = .ok (.iaload, 1) := by decide +kernel
theorem d_Memory_pagesOf_18 : decode M_Memory_pagesOf.2.1 18 = .ok (.iload_n 1, 1) := by decide +kernel
theorem d_Memory_pagesOf_19 : decode M_Memory_pagesOf.2.1 19 = .ok (.if_icmp .ne 6, 3) := by decide +kernel
theorem d_Memory_pagesOf_22 : decode M_Memory_pagesOf.2.1 22 = .ok (.iinc 2 1, 3) := by decide +kernel
theorem d_Memory_pagesOf_25 : decode M_Memory_pagesOf.2.1 25 = .ok (.iinc 3 1, 3) := by decide +kernel
theorem d_Memory_pagesOf_28 : decode M_Memory_pagesOf.2.1 28 = .ok (.goto (-24), 3) := by decide +kernel
theorem d_Memory_pagesOf_31 : decode M_Memory_pagesOf.2.1 31 = .ok (.iload_n 2, 1) := by decide +kernel
theorem d_Memory_pagesOf_32 : decode M_Memory_pagesOf.2.1 32 = .ok (.ireturn, 1) := by decide +kernel
theorem d_Disk_blocksOf_0 : decode M_Disk_blocksOf.2.1 0 = .ok (.iconst 0, 1) := by decide +kernel
theorem d_Disk_blocksOf_1 : decode M_Disk_blocksOf.2.1 1 = .ok (.istore_n 2, 1) := by decide +kernel
theorem d_Disk_blocksOf_2 : decode M_Disk_blocksOf.2.1 2 = .ok (.iconst 0, 1) := by decide +kernel
theorem d_Disk_blocksOf_3 : decode M_Disk_blocksOf.2.1 3 = .ok (.istore_n 3, 1) := by decide +kernel
theorem d_Disk_blocksOf_4 : decode M_Disk_blocksOf.2.1 4 = .ok (.iload_n 3, 1) := by decide +kernel
theorem d_Disk_blocksOf_5 : decode M_Disk_blocksOf.2.1 5 = .ok (.aload_n 0, 1) := by decide +kernel
theorem d_Disk_blocksOf_6 : decode M_Disk_blocksOf.2.1 6 = .ok (.getfield 9, 3) := by decide +kernel
theorem d_Disk_blocksOf_9 : decode M_Disk_blocksOf.2.1 9 = .ok (.if_icmp .ge 22, 3) := by decide +kernel
theorem d_Disk_blocksOf_12 : decode M_Disk_blocksOf.2.1 12 = .ok (.aload_n 0, 1) := by decide +kernel
theorem d_Disk_blocksOf_13 : decode M_Disk_blocksOf.2.1 13 = .ok (.getfield 19, 3) := by decide +kernel
theorem d_Disk_blocksOf_16 : decode M_Disk_blocksOf.2.1 16 = .ok (.iload_n 3, 1) := by decide +kernel
theorem d_Disk_blocksOf_17 : decode M_Disk_blocksOf.2.1 17 = .ok (.iaload, 1) := by decide +kernel
theorem d_Disk_blocksOf_18 : decode M_Disk_blocksOf.2.1 18 = .ok (.iload_n 1, 1) := by decide +kernel
theorem d_Disk_blocksOf_19 : decode M_Disk_blocksOf.2.1 19 = .ok (.if_icmp .ne 6, 3) := by decide +kernel
theorem d_Disk_blocksOf_22 : decode M_Disk_blocksOf.2.1 22 = .ok (.iinc 2 1, 3) := by decide +kernel
theorem d_Disk_blocksOf_25 : decode M_Disk_blocksOf.2.1 25 = .ok (.iinc 3 1, 3) := by decide +kernel
theorem d_Disk_blocksOf_28 : decode M_Disk_blocksOf.2.1 28 = .ok (.goto (-24), 3) := by decide +kernel
theorem d_Disk_blocksOf_31 : decode M_Disk_blocksOf.2.1 31 = .ok (.iload_n 2, 1) := by decide +kernel
theorem d_Disk_blocksOf_32 : decode M_Disk_blocksOf.2.1 32 = .ok (.ireturn, 1) := by decide +kernel
theorem d_K_countOf_0 : decode M_K_countOf.2.1 0 = .ok (.iload_n 2, 1) := by decide +kernel
theorem d_K_countOf_1 : decode M_K_countOf.2.1 1 = .ok (.tableswitch 103 3 8 #[39, 48, 57, 70, 79, 90], 39) := by decide +kernel
theorem d_K_countOf_40 : decode M_K_countOf.2.1 40 = .ok (.aload_n 0, 1) := by decide +kernel
theorem d_K_countOf_41 : decode M_K_countOf.2.1 41 = .ok (.getfield 18, 3) := by decide +kernel
theorem d_K_countOf_44 : decode M_K_countOf.2.1 44 = .ok (.iload_n 1, 1) := by decide +kernel
theorem d_K_countOf_45 : decode M_K_countOf.2.1 45 = .ok (.invokevirtual 272, 3) := by decide +kernel
theorem d_K_countOf_48 : decode M_K_countOf.2.1 48 = .ok (.ireturn, 1) := by decide +kernel
theorem d_K_countOf_49 : decode M_K_countOf.2.1 49 = .ok (.aload_n 0, 1) := by decide +kernel
theorem d_K_countOf_50 : decode M_K_countOf.2.1 50 = .ok (.getfield 18, 3) := by decide +kernel
theorem d_K_countOf_53 : decode M_K_countOf.2.1 53 = .ok (.iload_n 1, 1) := by decide +kernel
theorem d_K_countOf_54 : decode M_K_countOf.2.1 54 = .ok (.invokevirtual 281, 3) := by decide +kernel
theorem d_K_countOf_57 : decode M_K_countOf.2.1 57 = .ok (.ireturn, 1) := by decide +kernel
theorem d_K_countOf_58 : decode M_K_countOf.2.1 58 = .ok (.aload_n 0, 1) := by decide +kernel
theorem d_K_countOf_59 : decode M_K_countOf.2.1 59 = .ok (.getfield 49, 3) := by decide +kernel
theorem d_K_countOf_62 : decode M_K_countOf.2.1 62 = .ok (.iload_n 1, 1) := by decide +kernel
theorem d_K_countOf_63 : decode M_K_countOf.2.1 63 = .ok (.aaload, 1) := by decide +kernel
theorem d_K_countOf_64 : decode M_K_countOf.2.1 64 = .ok (.getfield 194, 3) := by decide +kernel
theorem d_K_countOf_67 : decode M_K_countOf.2.1 67 = .ok (.getfield 198, 3) := by decide +kernel
theorem d_K_countOf_70 : decode M_K_countOf.2.1 70 = .ok (.ireturn, 1) := by decide +kernel
theorem d_K_countOf_71 : decode M_K_countOf.2.1 71 = .ok (.aload_n 0, 1) := by decide +kernel
theorem d_K_countOf_72 : decode M_K_countOf.2.1 72 = .ok (.getfield 25, 3) := by decide +kernel
theorem d_K_countOf_75 : decode M_K_countOf.2.1 75 = .ok (.iload_n 1, 1) := by decide +kernel
theorem d_K_countOf_76 : decode M_K_countOf.2.1 76 = .ok (.invokevirtual 275, 3) := by decide +kernel
theorem d_K_countOf_79 : decode M_K_countOf.2.1 79 = .ok (.ireturn, 1) := by decide +kernel
theorem d_K_countOf_80 : decode M_K_countOf.2.1 80 = .ok (.iconst 1, 1) := by decide +kernel
theorem d_K_countOf_81 : decode M_K_countOf.2.1 81 = .ok (.aload_n 0, 1) := by decide +kernel
theorem d_K_countOf_82 : decode M_K_countOf.2.1 82 = .ok (.getfield 32, 3) := by decide +kernel
theorem d_K_countOf_85 : decode M_K_countOf.2.1 85 = .ok (.iload_n 1, 1) := by decide +kernel
theorem d_K_countOf_86 : decode M_K_countOf.2.1 86 = .ok (.invokevirtual 284, 3) := by decide +kernel
theorem d_K_countOf_89 : decode M_K_countOf.2.1 89 = .ok (.iadd, 1) := by decide +kernel
theorem d_K_countOf_90 : decode M_K_countOf.2.1 90 = .ok (.ireturn, 1) := by decide +kernel
theorem d_K_countOf_91 : decode M_K_countOf.2.1 91 = .ok (.aload_n 0, 1) := by decide +kernel
theorem d_K_countOf_92 : decode M_K_countOf.2.1 92 = .ok (.getfield 49, 3) := by decide +kernel
theorem d_K_countOf_95 : decode M_K_countOf.2.1 95 = .ok (.iload_n 1, 1) := by decide +kernel
theorem d_K_countOf_96 : decode M_K_countOf.2.1 96 = .ok (.aaload, 1) := by decide +kernel
theorem d_K_countOf_97 : decode M_K_countOf.2.1 97 = .ok (.getfield 230, 3) := by decide +kernel
theorem d_K_countOf_100 : decode M_K_countOf.2.1 100 = .ok (.getfield 286, 3) := by decide +kernel
theorem d_K_countOf_103 : decode M_K_countOf.2.1 103 = .ok (.ireturn, 1) := by decide +kernel
theorem d_K_countOf_104 : decode M_K_countOf.2.1 104 = .ok (.iconst (-1), 1) := by decide +kernel
theorem d_K_countOf_105 : decode M_K_countOf.2.1 105 = .ok (.ireturn, 1) := by decide +kernel
theorem d_Memory_namedPagesOf_0 : decode M_Memory_namedPagesOf.2.1 0 = .ok (.iconst 0, 1) := by decide +kernel
theorem d_Memory_namedPagesOf_1 : decode M_Memory_namedPagesOf.2.1 1 = .ok (.istore_n 2, 1) := by decide +kernel
theorem d_Memory_namedPagesOf_2 : decode M_Memory_namedPagesOf.2.1 2 = .ok (.iconst 0, 1) := by decide +kernel
theorem d_Memory_namedPagesOf_3 : decode M_Memory_namedPagesOf.2.1 3 = .ok (.istore_n 3, 1) := by decide +kernel
theorem d_Memory_namedPagesOf_4 : decode M_Memory_namedPagesOf.2.1 4 = .ok (.iload_n 3, 1) := by decide +kernel
theorem d_Memory_namedPagesOf_5 : decode M_Memory_namedPagesOf.2.1 5 = .ok (.aload_n 0, 1) := by decide +kernel
theorem d_Memory_namedPagesOf_6 : decode M_Memory_namedPagesOf.2.1 6 = .ok (.getfield 9, 3) := by decide +kernel
theorem d_Memory_namedPagesOf_9 : decode M_Memory_namedPagesOf.2.1 9 = .ok (.if_icmp .ge 31, 3) := by decide +kernel
theorem d_Memory_namedPagesOf_12 : decode M_Memory_namedPagesOf.2.1 12 = .ok (.aload_n 0, 1) := by decide +kernel
theorem d_Memory_namedPagesOf_13 : decode M_Memory_namedPagesOf.2.1 13 = .ok (.getfield 19, 3) := by decide +kernel
theorem d_Memory_namedPagesOf_16 : decode M_Memory_namedPagesOf.2.1 16 = .ok (.iload_n 3, 1) := by decide +kernel
theorem d_Memory_namedPagesOf_17 : decode M_Memory_namedPagesOf.2.1 17 = .ok (.iaload, 1) := by decide +kernel
theorem d_Memory_namedPagesOf_18 : decode M_Memory_namedPagesOf.2.1 18 = .ok (.iload_n 1, 1) := by decide +kernel
theorem d_Memory_namedPagesOf_19 : decode M_Memory_namedPagesOf.2.1 19 = .ok (.if_icmp .ne 15, 3) := by decide +kernel
theorem d_Memory_namedPagesOf_22 : decode M_Memory_namedPagesOf.2.1 22 = .ok (.aload_n 0, 1) := by decide +kernel
theorem d_Memory_namedPagesOf_23 : decode M_Memory_namedPagesOf.2.1 23 = .ok (.getfield 28, 3) := by decide +kernel
theorem d_Memory_namedPagesOf_26 : decode M_Memory_namedPagesOf.2.1 26 = .ok (.iload_n 3, 1) := by decide +kernel
theorem d_Memory_namedPagesOf_27 : decode M_Memory_namedPagesOf.2.1 27 = .ok (.baload, 1) := by decide +kernel
theorem d_Memory_namedPagesOf_28 : decode M_Memory_namedPagesOf.2.1 28 = .ok (.ifCond .eq 6, 3) := by decide +kernel
theorem d_Memory_namedPagesOf_31 : decode M_Memory_namedPagesOf.2.1 31 = .ok (.iinc 2 1, 3) := by decide +kernel
theorem d_Memory_namedPagesOf_34 : decode M_Memory_namedPagesOf.2.1 34 = .ok (.iinc 3 1, 3) := by decide +kernel
theorem d_Memory_namedPagesOf_37 : decode M_Memory_namedPagesOf.2.1 37 = .ok (.goto (-33), 3) := by decide +kernel
theorem d_Memory_namedPagesOf_40 : decode M_Memory_namedPagesOf.2.1 40 = .ok (.iload_n 2, 1) := by decide +kernel
theorem d_Memory_namedPagesOf_41 : decode M_Memory_namedPagesOf.2.1 41 = .ok (.ireturn, 1) := by decide +kernel
theorem d_Law_cell_0 : decode M_Law_cell.2.1 0 = .ok (.iload_n 1, 1) := by decide +kernel
theorem d_Law_cell_1 : decode M_Law_cell.2.1 1 = .ok (.aload_n 0, 1) := by decide +kernel
theorem d_Law_cell_2 : decode M_Law_cell.2.1 2 = .ok (.arraylength, 1) := by decide +kernel
theorem d_Law_cell_3 : decode M_Law_cell.2.1 3 = .ok (.if_icmp .ge 9, 3) := by decide +kernel
theorem d_Law_cell_6 : decode M_Law_cell.2.1 6 = .ok (.aload_n 0, 1) := by decide +kernel
theorem d_Law_cell_7 : decode M_Law_cell.2.1 7 = .ok (.iload_n 1, 1) := by decide +kernel
theorem d_Law_cell_8 : decode M_Law_cell.2.1 8 = .ok (.iaload, 1) := by decide +kernel
theorem d_Law_cell_9 : decode M_Law_cell.2.1 9 = .ok (.goto 4, 3) := by decide +kernel
theorem d_Law_cell_12 : decode M_Law_cell.2.1 12 = .ok (.iconst 0, 1) := by decide +kernel
theorem d_Law_cell_13 : decode M_Law_cell.2.1 13 = .ok (.ireturn, 1) := by decide +kernel
theorem d_Mo_init_0 : decode M_Mo_init.2.1 0 = .ok (.aload_n 0, 1) := by decide +kernel
theorem d_Mo_init_1 : decode M_Mo_init.2.1 1 = .ok (.invokespecial 1, 3) := by decide +kernel
theorem d_Mo_init_4 : decode M_Mo_init.2.1 4 = .ok (.aload_n 0, 1) := by decide +kernel
theorem d_Mo_init_5 : decode M_Mo_init.2.1 5 = .ok (.bipush 6, 2) := by decide +kernel
theorem d_Mo_init_7 : decode M_Mo_init.2.1 7 = .ok (.newarray .boolean, 2) := by decide +kernel
theorem d_Mo_init_9 : decode M_Mo_init.2.1 9 = .ok (.putfield 7, 3) := by decide +kernel
theorem d_Mo_init_12 : decode M_Mo_init.2.1 12 = .ok (.aload_n 0, 1) := by decide +kernel
theorem d_Mo_init_13 : decode M_Mo_init.2.1 13 = .ok (.bipush 6, 2) := by decide +kernel
theorem d_Mo_init_15 : decode M_Mo_init.2.1 15 = .ok (.newarray .boolean, 2) := by decide +kernel
theorem d_Mo_init_17 : decode M_Mo_init.2.1 17 = .ok (.putfield 13, 3) := by decide +kernel
theorem d_Mo_init_20 : decode M_Mo_init.2.1 20 = .ok (.aload_n 0, 1) := by decide +kernel
theorem d_Mo_init_21 : decode M_Mo_init.2.1 21 = .ok (.bipush 6, 2) := by decide +kernel
theorem d_Mo_init_23 : decode M_Mo_init.2.1 23 = .ok (.newarray .int, 2) := by decide +kernel
theorem d_Mo_init_25 : decode M_Mo_init.2.1 25 = .ok (.putfield 16, 3) := by decide +kernel
theorem d_Mo_init_28 : decode M_Mo_init.2.1 28 = .ok (.aload_n 0, 1) := by decide +kernel
theorem d_Mo_init_29 : decode M_Mo_init.2.1 29 = .ok (.bipush 6, 2) := by decide +kernel
theorem d_Mo_init_31 : decode M_Mo_init.2.1 31 = .ok (.newarray .int, 2) := by decide +kernel
theorem d_Mo_init_33 : decode M_Mo_init.2.1 33 = .ok (.putfield 20, 3) := by decide +kernel
theorem d_Mo_init_36 : decode M_Mo_init.2.1 36 = .ok (.aload_n 0, 1) := by decide +kernel
theorem d_Mo_init_37 : decode M_Mo_init.2.1 37 = .ok (.iconst 0, 1) := by decide +kernel
theorem d_Mo_init_38 : decode M_Mo_init.2.1 38 = .ok (.putfield 23, 3) := by decide +kernel
theorem d_Mo_init_41 : decode M_Mo_init.2.1 41 = .ok (.aload_n 0, 1) := by decide +kernel
theorem d_Mo_init_42 : decode M_Mo_init.2.1 42 = .ok (.iconst 0, 1) := by decide +kernel
theorem d_Mo_init_43 : decode M_Mo_init.2.1 43 = .ok (.putfield 27, 3) := by decide +kernel
theorem d_Mo_init_46 : decode M_Mo_init.2.1 46 = .ok (.aload_n 0, 1) := by decide +kernel
theorem d_Mo_init_47 : decode M_Mo_init.2.1 47 = .ok (.iconst 0, 1) := by decide +kernel
theorem d_Mo_init_48 : decode M_Mo_init.2.1 48 = .ok (.putfield 30, 3) := by decide +kernel
theorem d_Mo_init_51 : decode M_Mo_init.2.1 51 = .ok (.aload_n 0, 1) := by decide +kernel
theorem d_Mo_init_52 : decode M_Mo_init.2.1 52 = .ok (.bipush 32, 2) := by decide +kernel
theorem d_Mo_init_54 : decode M_Mo_init.2.1 54 = .ok (.newarray .int, 2) := by decide +kernel
theorem d_Mo_init_56 : decode M_Mo_init.2.1 56 = .ok (.putfield 33, 3) := by decide +kernel
theorem d_Mo_init_59 : decode M_Mo_init.2.1 59 = .ok (.aload_n 0, 1) := by decide +kernel
theorem d_Mo_init_60 : decode M_Mo_init.2.1 60 = .ok (.bipush 32, 2) := by decide +kernel
theorem d_Mo_init_62 : decode M_Mo_init.2.1 62 = .ok (.newarray .int, 2) := by decide +kernel
theorem d_Mo_init_64 : decode M_Mo_init.2.1 64 = .ok (.putfield 36, 3) := by decide +kernel
theorem d_Mo_init_67 : decode M_Mo_init.2.1 67 = .ok (.aload_n 0, 1) := by decide +kernel
theorem d_Mo_init_68 : decode M_Mo_init.2.1 68 = .ok (.bipush 32, 2) := by decide +kernel
theorem d_Mo_init_70 : decode M_Mo_init.2.1 70 = .ok (.newarray .int, 2) := by decide +kernel
theorem d_Mo_init_72 : decode M_Mo_init.2.1 72 = .ok (.putfield 39, 3) := by decide +kernel
theorem d_Mo_init_75 : decode M_Mo_init.2.1 75 = .ok (.aload_n 0, 1) := by decide +kernel
theorem d_Mo_init_76 : decode M_Mo_init.2.1 76 = .ok (.sipush 192, 3) := by decide +kernel
theorem d_Mo_init_79 : decode M_Mo_init.2.1 79 = .ok (.newarray .int, 2) := by decide +kernel
theorem d_Mo_init_81 : decode M_Mo_init.2.1 81 = .ok (.putfield 42, 3) := by decide +kernel
theorem d_Mo_init_84 : decode M_Mo_init.2.1 84 = .ok (.aload_n 0, 1) := by decide +kernel
theorem d_Mo_init_85 : decode M_Mo_init.2.1 85 = .ok (.sipush 128, 3) := by decide +kernel
theorem d_Mo_init_88 : decode M_Mo_init.2.1 88 = .ok (.newarray .int, 2) := by decide +kernel
theorem d_Mo_init_90 : decode M_Mo_init.2.1 90 = .ok (.putfield 45, 3) := by decide +kernel
theorem d_Mo_init_93 : decode M_Mo_init.2.1 93 = .ok (.aload_n 0, 1) := by decide +kernel
theorem d_Mo_init_94 : decode M_Mo_init.2.1 94 = .ok (.bipush 48, 2) := by decide +kernel
theorem d_Mo_init_96 : decode M_Mo_init.2.1 96 = .ok (.newarray .int, 2) := by decide +kernel
theorem d_Mo_init_98 : decode M_Mo_init.2.1 98 = .ok (.putfield 48, 3) := by decide +kernel
theorem d_Mo_init_101 : decode M_Mo_init.2.1 101 = .ok (.aload_n 0, 1) := by decide +kernel
theorem d_Mo_init_102 : decode M_Mo_init.2.1 102 = .ok (.bipush 6, 2) := by decide +kernel
theorem d_Mo_init_104 : decode M_Mo_init.2.1 104 = .ok (.newarray .int, 2) := by decide +kernel
theorem d_Mo_init_106 : decode M_Mo_init.2.1 106 = .ok (.putfield 51, 3) := by decide +kernel
theorem d_Mo_init_109 : decode M_Mo_init.2.1 109 = .ok (.aload_n 0, 1) := by decide +kernel
theorem d_Mo_init_110 : decode M_Mo_init.2.1 110 = .ok (.bipush 12, 2) := by decide +kernel
theorem d_Mo_init_112 : decode M_Mo_init.2.1 112 = .ok (.newarray .int, 2) := by decide +kernel
theorem d_Mo_init_114 : decode M_Mo_init.2.1 114 = .ok (.putfield 54, 3) := by decide +kernel
theorem d_Mo_init_117 : decode M_Mo_init.2.1 117 = .ok (.aload_n 0, 1) := by decide +kernel
theorem d_Mo_init_118 : decode M_Mo_init.2.1 118 = .ok (.sipush 768, 3) := by decide +kernel
theorem d_Mo_init_121 : decode M_Mo_init.2.1 121 = .ok (.newarray .int, 2) := by decide +kernel
theorem d_Mo_init_123 : decode M_Mo_init.2.1 123 = .ok (.putfield 57, 3) := by decide +kernel
theorem d_Mo_init_126 : decode M_Mo_init.2.1 126 = .ok (.aload_n 0, 1) := by decide +kernel
theorem d_Mo_init_127 : decode M_Mo_init.2.1 127 = .ok (.bipush 6, 2) := by decide +kernel
theorem d_Mo_init_129 : decode M_Mo_init.2.1 129 = .ok (.newarray .int, 2) := by decide +kernel
theorem d_Mo_init_131 : decode M_Mo_init.2.1 131 = .ok (.putfield 60, 3) := by decide +kernel
theorem d_Mo_init_134 : decode M_Mo_init.2.1 134 = .ok (.aload_n 0, 1) := by decide +kernel
theorem d_Mo_init_135 : decode M_Mo_init.2.1 135 = .ok (.iconst 0, 1) := by decide +kernel
theorem d_Mo_init_136 : decode M_Mo_init.2.1 136 = .ok (.putfield 63, 3) := by decide +kernel
theorem d_Mo_init_139 : decode M_Mo_init.2.1 139 = .ok (.aload_n 0, 1) := by decide +kernel
theorem d_Mo_init_140 : decode M_Mo_init.2.1 140 = .ok (.iconst 0, 1) := by decide +kernel
theorem d_Mo_init_141 : decode M_Mo_init.2.1 141 = .ok (.putfield 66, 3) := by decide +kernel
theorem d_Mo_init_144 : decode M_Mo_init.2.1 144 = .ok (.aload_n 0, 1) := by decide +kernel
theorem d_Mo_init_145 : decode M_Mo_init.2.1 145 = .ok (.bipush 16, 2) := by decide +kernel
theorem d_Mo_init_147 : decode M_Mo_init.2.1 147 = .ok (.newarray .int, 2) := by decide +kernel
theorem d_Mo_init_149 : decode M_Mo_init.2.1 149 = .ok (.putfield 69, 3) := by decide +kernel
theorem d_Mo_init_152 : decode M_Mo_init.2.1 152 = .ok (.aload_n 0, 1) := by decide +kernel
theorem d_Mo_init_153 : decode M_Mo_init.2.1 153 = .ok (.bipush 6, 2) := by decide +kernel
theorem d_Mo_init_155 : decode M_Mo_init.2.1 155 = .ok (.newarray .int, 2) := by decide +kernel
theorem d_Mo_init_157 : decode M_Mo_init.2.1 157 = .ok (.putfield 72, 3) := by decide +kernel
theorem d_Mo_init_160 : decode M_Mo_init.2.1 160 = .ok (.aload_n 0, 1) := by decide +kernel
theorem d_Mo_init_161 : decode M_Mo_init.2.1 161 = .ok (.bipush 24, 2) := by decide +kernel
theorem d_Mo_init_163 : decode M_Mo_init.2.1 163 = .ok (.newarray .int, 2) := by decide +kernel
theorem d_Mo_init_165 : decode M_Mo_init.2.1 165 = .ok (.putfield 75, 3) := by decide +kernel
theorem d_Mo_init_168 : decode M_Mo_init.2.1 168 = .ok (.aload_n 0, 1) := by decide +kernel
theorem d_Mo_init_169 : decode M_Mo_init.2.1 169 = .ok (.sipush 384, 3) := by decide +kernel
theorem d_Mo_init_172 : decode M_Mo_init.2.1 172 = .ok (.newarray .int, 2) := by decide +kernel
theorem d_Mo_init_174 : decode M_Mo_init.2.1 174 = .ok (.putfield 78, 3) := by decide +kernel
theorem d_Mo_init_177 : decode M_Mo_init.2.1 177 = .ok (.aload_n 0, 1) := by decide +kernel
theorem d_Mo_init_178 : decode M_Mo_init.2.1 178 = .ok (.iconst 0, 1) := by decide +kernel
theorem d_Mo_init_179 : decode M_Mo_init.2.1 179 = .ok (.putfield 81, 3) := by decide +kernel
theorem d_Mo_init_182 : decode M_Mo_init.2.1 182 = .ok (.aload_n 0, 1) := by decide +kernel
theorem d_Mo_init_183 : decode M_Mo_init.2.1 183 = .ok (.iconst 0, 1) := by decide +kernel
theorem d_Mo_init_184 : decode M_Mo_init.2.1 184 = .ok (.putfield 84, 3) := by decide +kernel
theorem d_Mo_init_187 : decode M_Mo_init.2.1 187 = .ok (.aload_n 0, 1) := by decide +kernel
theorem d_Mo_init_188 : decode M_Mo_init.2.1 188 = .ok (.bipush 32, 2) := by decide +kernel
theorem d_Mo_init_190 : decode M_Mo_init.2.1 190 = .ok (.newarray .int, 2) := by decide +kernel
theorem d_Mo_init_192 : decode M_Mo_init.2.1 192 = .ok (.putfield 87, 3) := by decide +kernel
theorem d_Mo_init_195 : decode M_Mo_init.2.1 195 = .ok (.aload_n 0, 1) := by decide +kernel
theorem d_Mo_init_196 : decode M_Mo_init.2.1 196 = .ok (.sipush 256, 3) := by decide +kernel
theorem d_Mo_init_199 : decode M_Mo_init.2.1 199 = .ok (.newarray .int, 2) := by decide +kernel
theorem d_Mo_init_201 : decode M_Mo_init.2.1 201 = .ok (.putfield 90, 3) := by decide +kernel
theorem d_Mo_init_204 : decode M_Mo_init.2.1 204 = .ok (.aload_n 0, 1) := by decide +kernel
theorem d_Mo_init_205 : decode M_Mo_init.2.1 205 = .ok (.bipush 42, 2) := by decide +kernel
theorem d_Mo_init_207 : decode M_Mo_init.2.1 207 = .ok (.newarray .int, 2) := by decide +kernel
theorem d_Mo_init_209 : decode M_Mo_init.2.1 209 = .ok (.putfield 93, 3) := by decide +kernel
theorem d_Mo_init_212 : decode M_Mo_init.2.1 212 = .ok (.aload_n 0, 1) := by decide +kernel
theorem d_Mo_init_213 : decode M_Mo_init.2.1 213 = .ok (.bipush 6, 2) := by decide +kernel
theorem d_Mo_init_215 : decode M_Mo_init.2.1 215 = .ok (.newarray .int, 2) := by decide +kernel
theorem d_Mo_init_217 : decode M_Mo_init.2.1 217 = .ok (.putfield 96, 3) := by decide +kernel
theorem d_Mo_init_220 : decode M_Mo_init.2.1 220 = .ok (.aload_n 0, 1) := by decide +kernel
theorem d_Mo_init_221 : decode M_Mo_init.2.1 221 = .ok (.sipush 168, 3) := by decide +kernel
theorem d_Mo_init_224 : decode M_Mo_init.2.1 224 = .ok (.newarray .int, 2) := by decide +kernel
theorem d_Mo_init_226 : decode M_Mo_init.2.1 226 = .ok (.putfield 99, 3) := by decide +kernel
theorem d_Mo_init_229 : decode M_Mo_init.2.1 229 = .ok (.aload_n 0, 1) := by decide +kernel
theorem d_Mo_init_230 : decode M_Mo_init.2.1 230 = .ok (.sipush 168, 3) := by decide +kernel
theorem d_Mo_init_233 : decode M_Mo_init.2.1 233 = .ok (.newarray .int, 2) := by decide +kernel
theorem d_Mo_init_235 : decode M_Mo_init.2.1 235 = .ok (.putfield 102, 3) := by decide +kernel
theorem d_Mo_init_238 : decode M_Mo_init.2.1 238 = .ok (.aload_n 0, 1) := by decide +kernel
theorem d_Mo_init_239 : decode M_Mo_init.2.1 239 = .ok (.iload_n 1, 1) := by decide +kernel
theorem d_Mo_init_240 : decode M_Mo_init.2.1 240 = .ok (.iconst 4, 1) := by decide +kernel
theorem d_Mo_init_241 : decode M_Mo_init.2.1 241 = .ok (.if_icmp .ge 7, 3) := by decide +kernel
theorem d_Mo_init_244 : decode M_Mo_init.2.1 244 = .ok (.iconst 4, 1) := by decide +kernel
theorem d_Mo_init_245 : decode M_Mo_init.2.1 245 = .ok (.goto 15, 3) := by decide +kernel
theorem d_Mo_init_248 : decode M_Mo_init.2.1 248 = .ok (.iload_n 1, 1) := by decide +kernel
theorem d_Mo_init_249 : decode M_Mo_init.2.1 249 = .ok (.bipush 32, 2) := by decide +kernel
theorem d_Mo_init_251 : decode M_Mo_init.2.1 251 = .ok (.if_icmp .le 8, 3) := by decide +kernel
theorem d_Mo_init_254 : decode M_Mo_init.2.1 254 = .ok (.bipush 32, 2) := by decide +kernel
theorem d_Mo_init_256 : decode M_Mo_init.2.1 256 = .ok (.goto 4, 3) := by decide +kernel
theorem d_Mo_init_259 : decode M_Mo_init.2.1 259 = .ok (.iload_n 1, 1) := by decide +kernel
theorem d_Mo_init_260 : decode M_Mo_init.2.1 260 = .ok (.putfield 105, 3) := by decide +kernel
theorem d_Mo_init_263 : decode M_Mo_init.2.1 263 = .ok (.aload_n 0, 1) := by decide +kernel
theorem d_Mo_init_264 : decode M_Mo_init.2.1 264 = .ok (.iload_n 2, 1) := by decide +kernel
theorem d_Mo_init_265 : decode M_Mo_init.2.1 265 = .ok (.iconst 4, 1) := by decide +kernel
theorem d_Mo_init_266 : decode M_Mo_init.2.1 266 = .ok (.if_icmp .ge 7, 3) := by decide +kernel
theorem d_Mo_init_269 : decode M_Mo_init.2.1 269 = .ok (.iconst 4, 1) := by decide +kernel
theorem d_Mo_init_270 : decode M_Mo_init.2.1 270 = .ok (.goto 15, 3) := by decide +kernel
theorem d_Mo_init_273 : decode M_Mo_init.2.1 273 = .ok (.iload_n 2, 1) := by decide +kernel
theorem d_Mo_init_274 : decode M_Mo_init.2.1 274 = .ok (.bipush 32, 2) := by decide +kernel
theorem d_Mo_init_276 : decode M_Mo_init.2.1 276 = .ok (.if_icmp .le 8, 3) := by decide +kernel
theorem d_Mo_init_279 : decode M_Mo_init.2.1 279 = .ok (.bipush 32, 2) := by decide +kernel
theorem d_Mo_init_281 : decode M_Mo_init.2.1 281 = .ok (.goto 4, 3) := by decide +kernel
theorem d_Mo_init_284 : decode M_Mo_init.2.1 284 = .ok (.iload_n 2, 1) := by decide +kernel
theorem d_Mo_init_285 : decode M_Mo_init.2.1 285 = .ok (.putfield 108, 3) := by decide +kernel
theorem d_Mo_init_288 : decode M_Mo_init.2.1 288 = .ok (.iconst 0, 1) := by decide +kernel
theorem d_Mo_init_289 : decode M_Mo_init.2.1 289 = .ok (.istore_n 3, 1) := by decide +kernel
theorem d_Mo_init_290 : decode M_Mo_init.2.1 290 = .ok (.iload_n 3, 1) := by decide +kernel
theorem d_Mo_init_291 : decode M_Mo_init.2.1 291 = .ok (.bipush 32, 2) := by decide +kernel
theorem d_Mo_init_293 : decode M_Mo_init.2.1 293 = .ok (.if_icmp .ge 23, 3) := by decide +kernel
theorem d_Mo_init_296 : decode M_Mo_init.2.1 296 = .ok (.aload_n 0, 1) := by decide +kernel
theorem d_Mo_init_297 : decode M_Mo_init.2.1 297 = .ok (.getfield 33, 3) := by decide +kernel
theorem d_Mo_init_300 : decode M_Mo_init.2.1 300 = .ok (.iload_n 3, 1) := by decide +kernel
theorem d_Mo_init_301 : decode M_Mo_init.2.1 301 = .ok (.iconst (-1), 1) := by decide +kernel
theorem d_Mo_init_302 : decode M_Mo_init.2.1 302 = .ok (.iastore, 1) := by decide +kernel
theorem d_Mo_init_303 : decode M_Mo_init.2.1 303 = .ok (.aload_n 0, 1) := by decide +kernel
theorem d_Mo_init_304 : decode M_Mo_init.2.1 304 = .ok (.getfield 87, 3) := by decide +kernel
theorem d_Mo_init_307 : decode M_Mo_init.2.1 307 = .ok (.iload_n 3, 1) := by decide +kernel
theorem d_Mo_init_308 : decode M_Mo_init.2.1 308 = .ok (.iconst (-1), 1) := by decide +kernel
theorem d_Mo_init_309 : decode M_Mo_init.2.1 309 = .ok (.iastore, 1) := by decide +kernel
theorem d_Mo_init_310 : decode M_Mo_init.2.1 310 = .ok (.iinc 3 1, 3) := by decide +kernel
theorem d_Mo_init_313 : decode M_Mo_init.2.1 313 = .ok (.goto (-23), 3) := by decide +kernel
theorem d_Mo_init_316 : decode M_Mo_init.2.1 316 = .ok (.return_, 1) := by decide +kernel
theorem d_Mo_open_0 : decode M_Mo_open.2.1 0 = .ok (.aload_n 0, 1) := by decide +kernel
theorem d_Mo_open_1 : decode M_Mo_open.2.1 1 = .ok (.iload_n 1, 1) := by decide +kernel
theorem d_Mo_open_2 : decode M_Mo_open.2.1 2 = .ok (.bipush 6, 2) := by decide +kernel
theorem d_Mo_open_4 : decode M_Mo_open.2.1 4 = .ok (.invokevirtual 111, 3) := by decide +kernel
theorem d_Mo_open_7 : decode M_Mo_open.2.1 7 = .ok (.ifCond .eq 5, 3) := by decide +kernel
theorem d_Mo_open_10 : decode M_Mo_open.2.1 10 = .ok (.iconst (-1), 1) := by decide +kernel
theorem d_Mo_open_11 : decode M_Mo_open.2.1 11 = .ok (.ireturn, 1) := by decide +kernel
theorem d_Mo_open_12 : decode M_Mo_open.2.1 12 = .ok (.iload_n 2, 1) := by decide +kernel
theorem d_Mo_open_13 : decode M_Mo_open.2.1 13 = .ok (.ifCond .ne 28, 3) := by decide +kernel
theorem d_Mo_open_16 : decode M_Mo_open.2.1 16 = .ok (.aload_n 0, 1) := by decide +kernel
theorem d_Mo_open_17 : decode M_Mo_open.2.1 17 = .ok (.iload_n 3, 1) := by decide +kernel
theorem d_Mo_open_18 : decode M_Mo_open.2.1 18 = .ok (.bipush 8, 2) := by decide +kernel
theorem d_Mo_open_20 : decode M_Mo_open.2.1 20 = .ok (.invokevirtual 111, 3) := by decide +kernel
theorem d_Mo_open_23 : decode M_Mo_open.2.1 23 = .ok (.ifCond .ne 16, 3) := by decide +kernel
theorem d_Mo_open_26 : decode M_Mo_open.2.1 26 = .ok (.aload_n 0, 1) := by decide +kernel
theorem d_Mo_open_27 : decode M_Mo_open.2.1 27 = .ok (.iload 4, 2) := by decide +kernel
theorem d_Mo_open_29 : decode M_Mo_open.2.1 29 = .ok (.bipush 9, 2) := by decide +kernel
theorem d_Mo_open_31 : decode M_Mo_open.2.1 31 = .ok (.iload_n 3, 1) := by decide +kernel
theorem d_Mo_open_32 : decode M_Mo_open.2.1 32 = .ok (.isub, 1) := by decide +kernel
theorem d_Mo_open_33 : decode M_Mo_open.2.1 33 = .ok (.invokevirtual 111, 3) := by decide +kernel
theorem d_Mo_open_36 : decode M_Mo_open.2.1 36 = .ok (.ifCond .eq 5, 3) := by decide +kernel
theorem d_Mo_open_39 : decode M_Mo_open.2.1 39 = .ok (.iconst (-1), 1) := by decide +kernel
theorem d_Mo_open_40 : decode M_Mo_open.2.1 40 = .ok (.ireturn, 1) := by decide +kernel
theorem d_Mo_open_41 : decode M_Mo_open.2.1 41 = .ok (.aload_n 0, 1) := by decide +kernel
theorem d_Mo_open_42 : decode M_Mo_open.2.1 42 = .ok (.getfield 7, 3) := by decide +kernel
theorem d_Mo_open_45 : decode M_Mo_open.2.1 45 = .ok (.iload_n 1, 1) := by decide +kernel
theorem d_Mo_open_46 : decode M_Mo_open.2.1 46 = .ok (.baload, 1) := by decide +kernel
theorem d_Mo_open_47 : decode M_Mo_open.2.1 47 = .ok (.ifCond .eq 5, 3) := by decide +kernel
theorem d_Mo_open_50 : decode M_Mo_open.2.1 50 = .ok (.iconst (-1), 1) := by decide +kernel
theorem d_Mo_open_51 : decode M_Mo_open.2.1 51 = .ok (.ireturn, 1) := by decide +kernel
theorem d_Mo_open_52 : decode M_Mo_open.2.1 52 = .ok (.aload_n 0, 1) := by decide +kernel
theorem d_Mo_open_53 : decode M_Mo_open.2.1 53 = .ok (.invokevirtual 118, 3) := by decide +kernel
theorem d_Mo_open_56 : decode M_Mo_open.2.1 56 = .ok (.istore 5, 2) := by decide +kernel
theorem d_Mo_open_58 : decode M_Mo_open.2.1 58 = .ok (.iload 5, 2) := by decide +kernel
theorem d_Mo_open_60 : decode M_Mo_open.2.1 60 = .ok (.ifCond .ge 6, 3) := by decide +kernel
theorem d_Mo_open_63 : decode M_Mo_open.2.1 63 = .ok (.bipush (-2), 2) := by decide +kernel
theorem d_Mo_open_65 : decode M_Mo_open.2.1 65 = .ok (.ireturn, 1) := by decide +kernel
theorem d_Mo_open_66 : decode M_Mo_open.2.1 66 = .ok (.aload_n 0, 1) := by decide +kernel
theorem d_Mo_open_67 : decode M_Mo_open.2.1 67 = .ok (.getfield 7, 3) := by decide +kernel
theorem d_Mo_open_70 : decode M_Mo_open.2.1 70 = .ok (.iload_n 1, 1) := by decide +kernel
theorem d_Mo_open_71 : decode M_Mo_open.2.1 71 = .ok (.iconst 1, 1) := by decide +kernel
theorem d_Mo_open_72 : decode M_Mo_open.2.1 72 = .ok (.bastore, 1) := by decide +kernel
theorem d_Mo_open_73 : decode M_Mo_open.2.1 73 = .ok (.aload_n 0, 1) := by decide +kernel
theorem d_Mo_open_74 : decode M_Mo_open.2.1 74 = .ok (.getfield 13, 3) := by decide +kernel
theorem d_Mo_open_77 : decode M_Mo_open.2.1 77 = .ok (.iload_n 1, 1) := by decide +kernel
theorem d_Mo_open_78 : decode M_Mo_open.2.1 78 = .ok (.iload_n 2, 1) := by decide +kernel
theorem d_Mo_open_79 : decode M_Mo_open.2.1 79 = .ok (.bastore, 1) := by decide +kernel
theorem d_Mo_open_80 : decode M_Mo_open.2.1 80 = .ok (.aload_n 0, 1) := by decide +kernel
theorem d_Mo_open_81 : decode M_Mo_open.2.1 81 = .ok (.getfield 16, 3) := by decide +kernel
theorem d_Mo_open_84 : decode M_Mo_open.2.1 84 = .ok (.iload_n 1, 1) := by decide +kernel
theorem d_Mo_open_85 : decode M_Mo_open.2.1 85 = .ok (.iload_n 3, 1) := by decide +kernel
theorem d_Mo_open_86 : decode M_Mo_open.2.1 86 = .ok (.iastore, 1) := by decide +kernel
theorem d_Mo_open_87 : decode M_Mo_open.2.1 87 = .ok (.aload_n 0, 1) := by decide +kernel
theorem d_Mo_open_88 : decode M_Mo_open.2.1 88 = .ok (.getfield 20, 3) := by decide +kernel
theorem d_Mo_open_91 : decode M_Mo_open.2.1 91 = .ok (.iload_n 1, 1) := by decide +kernel
theorem d_Mo_open_92 : decode M_Mo_open.2.1 92 = .ok (.iload 4, 2) := by decide +kernel
theorem d_Mo_open_94 : decode M_Mo_open.2.1 94 = .ok (.iastore, 1) := by decide +kernel
theorem d_Mo_open_95 : decode M_Mo_open.2.1 95 = .ok (.aload_n 0, 1) := by decide +kernel
theorem d_Mo_open_96 : decode M_Mo_open.2.1 96 = .ok (.iload_n 1, 1) := by decide +kernel
theorem d_Mo_open_97 : decode M_Mo_open.2.1 97 = .ok (.iload 5, 2) := by decide +kernel
theorem d_Mo_open_99 : decode M_Mo_open.2.1 99 = .ok (.invokevirtual 122, 3) := by decide +kernel
theorem d_Mo_open_102 : decode M_Mo_open.2.1 102 = .ok (.aload_n 0, 1) := by decide +kernel
theorem d_Mo_open_103 : decode M_Mo_open.2.1 103 = .ok (.getfield 54, 3) := by decide +kernel
theorem d_Mo_open_106 : decode M_Mo_open.2.1 106 = .ok (.iload_n 1, 1) := by decide +kernel
theorem d_Mo_open_107 : decode M_Mo_open.2.1 107 = .ok (.iconst 0, 1) := by decide +kernel
theorem d_Mo_open_108 : decode M_Mo_open.2.1 108 = .ok (.iastore, 1) := by decide +kernel
theorem d_Mo_open_109 : decode M_Mo_open.2.1 109 = .ok (.aload_n 0, 1) := by decide +kernel
theorem d_Mo_open_110 : decode M_Mo_open.2.1 110 = .ok (.getfield 72, 3) := by decide +kernel
theorem d_Mo_open_113 : decode M_Mo_open.2.1 113 = .ok (.iload_n 1, 1) := by decide +kernel
theorem d_Mo_open_114 : decode M_Mo_open.2.1 114 = .ok (.iconst 0, 1) := by decide +kernel
theorem d_Mo_open_115 : decode M_Mo_open.2.1 115 = .ok (.iastore, 1) := by decide +kernel
theorem d_Mo_open_116 : decode M_Mo_open.2.1 116 = .ok (.aload_n 0, 1) := by decide +kernel
theorem d_Mo_open_117 : decode M_Mo_open.2.1 117 = .ok (.getfield 96, 3) := by decide +kernel
theorem d_Mo_open_120 : decode M_Mo_open.2.1 120 = .ok (.iload_n 1, 1) := by decide +kernel
theorem d_Mo_open_121 : decode M_Mo_open.2.1 121 = .ok (.iconst 0, 1) := by decide +kernel
theorem d_Mo_open_122 : decode M_Mo_open.2.1 122 = .ok (.iastore, 1) := by decide +kernel
theorem d_Mo_open_123 : decode M_Mo_open.2.1 123 = .ok (.aload_n 0, 1) := by decide +kernel
theorem d_Mo_open_124 : decode M_Mo_open.2.1 124 = .ok (.getfield 51, 3) := by decide +kernel
theorem d_Mo_open_127 : decode M_Mo_open.2.1 127 = .ok (.iload_n 1, 1) := by decide +kernel
theorem d_Mo_open_128 : decode M_Mo_open.2.1 128 = .ok (.iconst 0, 1) := by decide +kernel
theorem d_Mo_open_129 : decode M_Mo_open.2.1 129 = .ok (.iastore, 1) := by decide +kernel
theorem d_Mo_open_130 : decode M_Mo_open.2.1 130 = .ok (.iconst 0, 1) := by decide +kernel
theorem d_Mo_open_131 : decode M_Mo_open.2.1 131 = .ok (.ireturn, 1) := by decide +kernel
theorem d_Mo_out_0 : decode M_Mo_out.2.1 0 = .ok (.iload_n 1, 1) := by decide +kernel
theorem d_Mo_out_1 : decode M_Mo_out.2.1 1 = .ok (.ifCond .lt 8, 3) := by decide +kernel
theorem d_Mo_out_4 : decode M_Mo_out.2.1 4 = .ok (.iload_n 1, 1) := by decide +kernel
theorem d_Mo_out_5 : decode M_Mo_out.2.1 5 = .ok (.iload_n 2, 1) := by decide +kernel
theorem d_Mo_out_6 : decode M_Mo_out.2.1 6 = .ok (.if_icmp .lt 7, 3) := by decide +kernel
theorem d_Mo_out_9 : decode M_Mo_out.2.1 9 = .ok (.iconst 1, 1) := by decide +kernel
theorem d_Mo_out_10 : decode M_Mo_out.2.1 10 = .ok (.goto 4, 3) := by decide +kernel
theorem d_Mo_out_13 : decode M_Mo_out.2.1 13 = .ok (.iconst 0, 1) := by decide +kernel
theorem d_Mo_out_14 : decode M_Mo_out.2.1 14 = .ok (.ireturn, 1) := by decide +kernel
theorem d_Mo_freeBlock_0 : decode M_Mo_freeBlock.2.1 0 = .ok (.iconst 0, 1) := by decide +kernel
theorem d_Mo_freeBlock_1 : decode M_Mo_freeBlock.2.1 1 = .ok (.istore_n 1, 1) := by decide +kernel
theorem d_Mo_freeBlock_2 : decode M_Mo_freeBlock.2.1 2 = .ok (.iload_n 1, 1) := by decide +kernel
theorem d_Mo_freeBlock_3 : decode M_Mo_freeBlock.2.1 3 = .ok (.aload_n 0, 1) := by decide +kernel
theorem d_Mo_freeBlock_4 : decode M_Mo_freeBlock.2.1 4 = .ok (.getfield 108, 3) := by decide +kernel
theorem d_Mo_freeBlock_7 : decode M_Mo_freeBlock.2.1 7 = .ok (.if_icmp .ge 20, 3) := by decide +kernel
theorem d_Mo_freeBlock_10 : decode M_Mo_freeBlock.2.1 10 = .ok (.aload_n 0, 1) := by decide +kernel
theorem d_Mo_freeBlock_11 : decode M_Mo_freeBlock.2.1 11 = .ok (.getfield 87, 3) := by decide +kernel
theorem d_Mo_freeBlock_14 : decode M_Mo_freeBlock.2.1 14 = .ok (.iload_n 1, 1) := by decide +kernel
theorem d_Mo_freeBlock_15 : decode M_Mo_freeBlock.2.1 15 = .ok (.iaload, 1) := by decide +kernel
theorem d_Mo_freeBlock_16 : decode M_Mo_freeBlock.2.1 16 = .ok (.ifCond .ge 5, 3) := by decide +kernel
theorem d_Mo_freeBlock_19 : decode M_Mo_freeBlock.2.1 19 = .ok (.iload_n 1, 1) := by decide +kernel
theorem d_Mo_freeBlock_20 : decode M_Mo_freeBlock.2.1 20 = .ok (.ireturn, 1) := by decide +kernel
theorem d_Mo_freeBlock_21 : decode M_Mo_freeBlock.2.1 21 = .ok (.iinc 1 1, 3) := by decide +kernel
theorem d_Mo_freeBlock_24 : decode M_Mo_freeBlock.2.1 24 = .ok (.goto (-22), 3) := by decide +kernel
theorem d_Mo_freeBlock_27 : decode M_Mo_freeBlock.2.1 27 = .ok (.iconst (-1), 1) := by decide +kernel
theorem d_Mo_freeBlock_28 : decode M_Mo_freeBlock.2.1 28 = .ok (.ireturn, 1) := by decide +kernel
theorem d_Mo_renew_0 : decode M_Mo_renew.2.1 0 = .ok (.aload_n 0, 1) := by decide +kernel
theorem d_Mo_renew_1 : decode M_Mo_renew.2.1 1 = .ok (.getfield 87, 3) := by decide +kernel
theorem d_Mo_renew_4 : decode M_Mo_renew.2.1 4 = .ok (.iload_n 2, 1) := by decide +kernel
theorem d_Mo_renew_5 : decode M_Mo_renew.2.1 5 = .ok (.iload_n 1, 1) := by decide +kernel
theorem d_Mo_renew_6 : decode M_Mo_renew.2.1 6 = .ok (.iastore, 1) := by decide +kernel
theorem d_Mo_renew_7 : decode M_Mo_renew.2.1 7 = .ok (.iconst 0, 1) := by decide +kernel
theorem d_Mo_renew_8 : decode M_Mo_renew.2.1 8 = .ok (.istore_n 3, 1) := by decide +kernel
theorem d_Mo_renew_9 : decode M_Mo_renew.2.1 9 = .ok (.iload_n 3, 1) := by decide +kernel
theorem d_Mo_renew_10 : decode M_Mo_renew.2.1 10 = .ok (.bipush 8, 2) := by decide +kernel
theorem d_Mo_renew_12 : decode M_Mo_renew.2.1 12 = .ok (.if_icmp .ge 34, 3) := by decide +kernel
theorem d_Mo_renew_15 : decode M_Mo_renew.2.1 15 = .ok (.aload_n 0, 1) := by decide +kernel
theorem d_Mo_renew_16 : decode M_Mo_renew.2.1 16 = .ok (.getfield 90, 3) := by decide +kernel
theorem d_Mo_renew_19 : decode M_Mo_renew.2.1 19 = .ok (.iload_n 2, 1) := by decide +kernel
theorem d_Mo_renew_20 : decode M_Mo_renew.2.1 20 = .ok (.bipush 8, 2) := by decide +kernel
theorem d_Mo_renew_22 : decode M_Mo_renew.2.1 22 = .ok (.imul, 1) := by decide +kernel
theorem d_Mo_renew_23 : decode M_Mo_renew.2.1 23 = .ok (.iload_n 3, 1) := by decide +kernel
theorem d_Mo_renew_24 : decode M_Mo_renew.2.1 24 = .ok (.iadd, 1) := by decide +kernel
theorem d_Mo_renew_25 : decode M_Mo_renew.2.1 25 = .ok (.aload_n 0, 1) := by decide +kernel
theorem d_Mo_renew_26 : decode M_Mo_renew.2.1 26 = .ok (.iload_n 1, 1) := by decide +kernel
theorem d_Mo_renew_27 : decode M_Mo_renew.2.1 27 = .ok (.iload_n 3, 1) := by decide +kernel
theorem d_Mo_renew_28 : decode M_Mo_renew.2.1 28 = .ok (.invokevirtual 115, 3) := by decide +kernel
theorem d_Mo_renew_31 : decode M_Mo_renew.2.1 31 = .ok (.ifCond .eq 7, 3) := by decide +kernel
theorem d_Mo_renew_34 : decode M_Mo_renew.2.1 34 = .ok (.iconst (-1), 1) := by decide +kernel
theorem d_Mo_renew_35 : decode M_Mo_renew.2.1 35 = .ok (.goto 4, 3) := by decide +kernel
theorem d_Mo_renew_38 : decode M_Mo_renew.2.1 38 = .ok (.iconst 0, 1) := by decide +kernel
theorem d_Mo_renew_39 : decode M_Mo_renew.2.1 39 = .ok (.iastore, 1) := by decide +kernel
theorem d_Mo_renew_40 : decode M_Mo_renew.2.1 40 = .ok (.iinc 3 1, 3) := by decide +kernel
theorem d_Mo_renew_43 : decode M_Mo_renew.2.1 43 = .ok (.goto (-34), 3) := by decide +kernel
theorem d_Mo_renew_46 : decode M_Mo_renew.2.1 46 = .ok (.return_, 1) := by decide +kernel
theorem d_Mo_isLink_0 : decode M_Mo_isLink.2.1 0 = .ok (.aload_n 0, 1) := by decide +kernel
theorem d_Mo_isLink_1 : decode M_Mo_isLink.2.1 1 = .ok (.getfield 13, 3) := by decide +kernel
theorem d_Mo_isLink_4 : decode M_Mo_isLink.2.1 4 = .ok (.iload_n 1, 1) := by decide +kernel
theorem d_Mo_isLink_5 : decode M_Mo_isLink.2.1 5 = .ok (.baload, 1) := by decide +kernel
theorem d_Mo_isLink_6 : decode M_Mo_isLink.2.1 6 = .ok (.ifCond .ne 34, 3) := by decide +kernel
theorem d_Mo_isLink_9 : decode M_Mo_isLink.2.1 9 = .ok (.iload_n 2, 1) := by decide +kernel
theorem d_Mo_isLink_10 : decode M_Mo_isLink.2.1 10 = .ok (.aload_n 0, 1) := by decide +kernel
theorem d_Mo_isLink_11 : decode M_Mo_isLink.2.1 11 = .ok (.getfield 16, 3) := by decide +kernel
theorem d_Mo_isLink_14 : decode M_Mo_isLink.2.1 14 = .ok (.iload_n 1, 1) := by decide +kernel
theorem d_Mo_isLink_15 : decode M_Mo_isLink.2.1 15 = .ok (.iaload, 1) := by decide +kernel
theorem d_Mo_isLink_16 : decode M_Mo_isLink.2.1 16 = .ok (.if_icmp .lt 24, 3) := by decide +kernel
theorem d_Mo_isLink_19 : decode M_Mo_isLink.2.1 19 = .ok (.iload_n 2, 1) := by decide +kernel
theorem d_Mo_isLink_20 : decode M_Mo_isLink.2.1 20 = .ok (.aload_n 0, 1) := by decide +kernel
theorem d_Mo_isLink_21 : decode M_Mo_isLink.2.1 21 = .ok (.getfield 16, 3) := by decide +kernel
theorem d_Mo_isLink_24 : decode M_Mo_isLink.2.1 24 = .ok (.iload_n 1, 1) := by decide +kernel
theorem d_Mo_isLink_25 : decode M_Mo_isLink.2.1 25 = .ok (.iaload, 1) := by decide +kernel
theorem d_Mo_isLink_26 : decode M_Mo_isLink.2.1 26 = .ok (.aload_n 0, 1) := by decide +kernel
theorem d_Mo_isLink_27 : decode M_Mo_isLink.2.1 27 = .ok (.getfield 20, 3) := by decide +kernel
theorem d_Mo_isLink_30 : decode M_Mo_isLink.2.1 30 = .ok (.iload_n 1, 1) := by decide +kernel
theorem d_Mo_isLink_31 : decode M_Mo_isLink.2.1 31 = .ok (.iaload, 1) := by decide +kernel
theorem d_Mo_isLink_32 : decode M_Mo_isLink.2.1 32 = .ok (.iadd, 1) := by decide +kernel
theorem d_Mo_isLink_33 : decode M_Mo_isLink.2.1 33 = .ok (.if_icmp .ge 7, 3) := by decide +kernel
theorem d_Mo_isLink_36 : decode M_Mo_isLink.2.1 36 = .ok (.iconst 1, 1) := by decide +kernel
theorem d_Mo_isLink_37 : decode M_Mo_isLink.2.1 37 = .ok (.goto 4, 3) := by decide +kernel
theorem d_Mo_isLink_40 : decode M_Mo_isLink.2.1 40 = .ok (.iconst 0, 1) := by decide +kernel
theorem d_Mo_isLink_41 : decode M_Mo_isLink.2.1 41 = .ok (.ireturn, 1) := by decide +kernel
theorem d_Mo_close_0 : decode M_Mo_close.2.1 0 = .ok (.aload_n 0, 1) := by decide +kernel
