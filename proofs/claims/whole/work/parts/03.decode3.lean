/-! decode rows -/
theorem d_Mo_put_57 : decode M_Mo_put.2.1 57 = .ok (.ifCond .eq 103, 3) := by decide +kernel
theorem d_Mo_put_60 : decode M_Mo_put.2.1 60 = .ok (.iload 6, 2) := by decide +kernel
theorem d_Mo_put_62 : decode M_Mo_put.2.1 62 = .ok (.iconst 4, 1) := by decide +kernel
theorem d_Mo_put_63 : decode M_Mo_put.2.1 63 = .ok (.irem, 1) := by decide +kernel
theorem d_Mo_put_64 : decode M_Mo_put.2.1 64 = .ok (.ifCond .ne 10, 3) := by decide +kernel
theorem d_Mo_put_67 : decode M_Mo_put.2.1 67 = .ok (.aload_n 0, 1) := by decide +kernel
theorem d_Mo_put_68 : decode M_Mo_put.2.1 68 = .ok (.invokevirtual 118, 3) := by decide +kernel
theorem d_Mo_put_71 : decode M_Mo_put.2.1 71 = .ok (.goto 4, 3) := by decide +kernel
theorem d_Mo_put_74 : decode M_Mo_put.2.1 74 = .ok (.iconst 0, 1) := by decide +kernel
theorem d_Mo_put_75 : decode M_Mo_put.2.1 75 = .ok (.istore 7, 2) := by decide +kernel
theorem d_Mo_put_77 : decode M_Mo_put.2.1 77 = .ok (.iload 6, 2) := by decide +kernel
theorem d_Mo_put_79 : decode M_Mo_put.2.1 79 = .ok (.bipush 28, 2) := by decide +kernel
theorem d_Mo_put_81 : decode M_Mo_put.2.1 81 = .ok (.if_icmp .eq 8, 3) := by decide +kernel
theorem d_Mo_put_84 : decode M_Mo_put.2.1 84 = .ok (.iload 7, 2) := by decide +kernel
theorem d_Mo_put_86 : decode M_Mo_put.2.1 86 = .ok (.ifCond .ge 6, 3) := by decide +kernel
theorem d_Mo_put_89 : decode M_Mo_put.2.1 89 = .ok (.bipush (-2), 2) := by decide +kernel
theorem d_Mo_put_91 : decode M_Mo_put.2.1 91 = .ok (.ireturn, 1) := by decide +kernel
theorem d_Mo_put_92 : decode M_Mo_put.2.1 92 = .ok (.iload 6, 2) := by decide +kernel
theorem d_Mo_put_94 : decode M_Mo_put.2.1 94 = .ok (.iconst 4, 1) := by decide +kernel
theorem d_Mo_put_95 : decode M_Mo_put.2.1 95 = .ok (.irem, 1) := by decide +kernel
theorem d_Mo_put_96 : decode M_Mo_put.2.1 96 = .ok (.ifCond .ne 26, 3) := by decide +kernel
theorem d_Mo_put_99 : decode M_Mo_put.2.1 99 = .ok (.aload_n 0, 1) := by decide +kernel
theorem d_Mo_put_100 : decode M_Mo_put.2.1 100 = .ok (.iload_n 1, 1) := by decide +kernel
theorem d_Mo_put_101 : decode M_Mo_put.2.1 101 = .ok (.iload 7, 2) := by decide +kernel
theorem d_Mo_put_103 : decode M_Mo_put.2.1 103 = .ok (.invokevirtual 122, 3) := by decide +kernel
theorem d_Mo_put_106 : decode M_Mo_put.2.1 106 = .ok (.aload_n 0, 1) := by decide +kernel
theorem d_Mo_put_107 : decode M_Mo_put.2.1 107 = .ok (.getfield 93, 3) := by decide +kernel
theorem d_Mo_put_110 : decode M_Mo_put.2.1 110 = .ok (.iload_n 1, 1) := by decide +kernel
theorem d_Mo_put_111 : decode M_Mo_put.2.1 111 = .ok (.bipush 7, 2) := by decide +kernel
theorem d_Mo_put_113 : decode M_Mo_put.2.1 113 = .ok (.imul, 1) := by decide +kernel
theorem d_Mo_put_114 : decode M_Mo_put.2.1 114 = .ok (.iload 6, 2) := by decide +kernel
theorem d_Mo_put_116 : decode M_Mo_put.2.1 116 = .ok (.iconst 4, 1) := by decide +kernel
theorem d_Mo_put_117 : decode M_Mo_put.2.1 117 = .ok (.idiv, 1) := by decide +kernel
theorem d_Mo_put_118 : decode M_Mo_put.2.1 118 = .ok (.iadd, 1) := by decide +kernel
theorem d_Mo_put_119 : decode M_Mo_put.2.1 119 = .ok (.iload 7, 2) := by decide +kernel
theorem d_Mo_put_121 : decode M_Mo_put.2.1 121 = .ok (.iastore, 1) := by decide +kernel
theorem d_Mo_put_122 : decode M_Mo_put.2.1 122 = .ok (.aload_n 0, 1) := by decide +kernel
theorem d_Mo_put_123 : decode M_Mo_put.2.1 123 = .ok (.getfield 99, 3) := by decide +kernel
theorem d_Mo_put_126 : decode M_Mo_put.2.1 126 = .ok (.iload_n 1, 1) := by decide +kernel
theorem d_Mo_put_127 : decode M_Mo_put.2.1 127 = .ok (.bipush 28, 2) := by decide +kernel
theorem d_Mo_put_129 : decode M_Mo_put.2.1 129 = .ok (.imul, 1) := by decide +kernel
theorem d_Mo_put_130 : decode M_Mo_put.2.1 130 = .ok (.iload 6, 2) := by decide +kernel
theorem d_Mo_put_132 : decode M_Mo_put.2.1 132 = .ok (.iadd, 1) := by decide +kernel
theorem d_Mo_put_133 : decode M_Mo_put.2.1 133 = .ok (.iload_n 2, 1) := by decide +kernel
theorem d_Mo_put_134 : decode M_Mo_put.2.1 134 = .ok (.iastore, 1) := by decide +kernel
theorem d_Mo_put_135 : decode M_Mo_put.2.1 135 = .ok (.aload_n 0, 1) := by decide +kernel
theorem d_Mo_put_136 : decode M_Mo_put.2.1 136 = .ok (.getfield 102, 3) := by decide +kernel
theorem d_Mo_put_139 : decode M_Mo_put.2.1 139 = .ok (.iload_n 1, 1) := by decide +kernel
theorem d_Mo_put_140 : decode M_Mo_put.2.1 140 = .ok (.bipush 28, 2) := by decide +kernel
theorem d_Mo_put_142 : decode M_Mo_put.2.1 142 = .ok (.imul, 1) := by decide +kernel
theorem d_Mo_put_143 : decode M_Mo_put.2.1 143 = .ok (.iload 6, 2) := by decide +kernel
theorem d_Mo_put_145 : decode M_Mo_put.2.1 145 = .ok (.iadd, 1) := by decide +kernel
theorem d_Mo_put_146 : decode M_Mo_put.2.1 146 = .ok (.iload_n 3, 1) := by decide +kernel
theorem d_Mo_put_147 : decode M_Mo_put.2.1 147 = .ok (.iastore, 1) := by decide +kernel
theorem d_Mo_put_148 : decode M_Mo_put.2.1 148 = .ok (.aload_n 0, 1) := by decide +kernel
theorem d_Mo_put_149 : decode M_Mo_put.2.1 149 = .ok (.getfield 96, 3) := by decide +kernel
theorem d_Mo_put_152 : decode M_Mo_put.2.1 152 = .ok (.iload_n 1, 1) := by decide +kernel
theorem d_Mo_put_153 : decode M_Mo_put.2.1 153 = .ok (.dup2, 1) := by decide +kernel
theorem d_Mo_put_154 : decode M_Mo_put.2.1 154 = .ok (.iaload, 1) := by decide +kernel
theorem d_Mo_put_155 : decode M_Mo_put.2.1 155 = .ok (.iconst 1, 1) := by decide +kernel
theorem d_Mo_put_156 : decode M_Mo_put.2.1 156 = .ok (.iadd, 1) := by decide +kernel
theorem d_Mo_put_157 : decode M_Mo_put.2.1 157 = .ok (.iastore, 1) := by decide +kernel
theorem d_Mo_put_158 : decode M_Mo_put.2.1 158 = .ok (.iconst 0, 1) := by decide +kernel
theorem d_Mo_put_159 : decode M_Mo_put.2.1 159 = .ok (.ireturn, 1) := by decide +kernel
theorem d_Mo_put_160 : decode M_Mo_put.2.1 160 = .ok (.iload 5, 2) := by decide +kernel
theorem d_Mo_put_162 : decode M_Mo_put.2.1 162 = .ok (.ifCond .ge 5, 3) := by decide +kernel
theorem d_Mo_put_165 : decode M_Mo_put.2.1 165 = .ok (.iconst (-1), 1) := by decide +kernel
theorem d_Mo_put_166 : decode M_Mo_put.2.1 166 = .ok (.ireturn, 1) := by decide +kernel
theorem d_Mo_put_167 : decode M_Mo_put.2.1 167 = .ok (.aload_n 0, 1) := by decide +kernel
theorem d_Mo_put_168 : decode M_Mo_put.2.1 168 = .ok (.getfield 99, 3) := by decide +kernel
theorem d_Mo_put_171 : decode M_Mo_put.2.1 171 = .ok (.iload 5, 2) := by decide +kernel
theorem d_Mo_put_173 : decode M_Mo_put.2.1 173 = .ok (.aload_n 0, 1) := by decide +kernel
theorem d_Mo_put_174 : decode M_Mo_put.2.1 174 = .ok (.getfield 99, 3) := by decide +kernel
theorem d_Mo_put_177 : decode M_Mo_put.2.1 177 = .ok (.iload_n 1, 1) := by decide +kernel
theorem d_Mo_put_178 : decode M_Mo_put.2.1 178 = .ok (.bipush 28, 2) := by decide +kernel
theorem d_Mo_put_180 : decode M_Mo_put.2.1 180 = .ok (.imul, 1) := by decide +kernel
theorem d_Mo_put_181 : decode M_Mo_put.2.1 181 = .ok (.iload 6, 2) := by decide +kernel
theorem d_Mo_put_183 : decode M_Mo_put.2.1 183 = .ok (.iadd, 1) := by decide +kernel
theorem d_Mo_put_184 : decode M_Mo_put.2.1 184 = .ok (.iconst 1, 1) := by decide +kernel
theorem d_Mo_put_185 : decode M_Mo_put.2.1 185 = .ok (.isub, 1) := by decide +kernel
theorem d_Mo_put_186 : decode M_Mo_put.2.1 186 = .ok (.iaload, 1) := by decide +kernel
theorem d_Mo_put_187 : decode M_Mo_put.2.1 187 = .ok (.iastore, 1) := by decide +kernel
theorem d_Mo_put_188 : decode M_Mo_put.2.1 188 = .ok (.aload_n 0, 1) := by decide +kernel
theorem d_Mo_put_189 : decode M_Mo_put.2.1 189 = .ok (.getfield 102, 3) := by decide +kernel
theorem d_Mo_put_192 : decode M_Mo_put.2.1 192 = .ok (.iload 5, 2) := by decide +kernel
theorem d_Mo_put_194 : decode M_Mo_put.2.1 194 = .ok (.aload_n 0, 1) := by decide +kernel
theorem d_Mo_put_195 : decode M_Mo_put.2.1 195 = .ok (.getfield 102, 3) := by decide +kernel
theorem d_Mo_put_198 : decode M_Mo_put.2.1 198 = .ok (.iload_n 1, 1) := by decide +kernel
theorem d_Mo_put_199 : decode M_Mo_put.2.1 199 = .ok (.bipush 28, 2) := by decide +kernel
theorem d_Mo_put_201 : decode M_Mo_put.2.1 201 = .ok (.imul, 1) := by decide +kernel
theorem d_Mo_put_202 : decode M_Mo_put.2.1 202 = .ok (.iload 6, 2) := by decide +kernel
theorem d_Mo_put_204 : decode M_Mo_put.2.1 204 = .ok (.iadd, 1) := by decide +kernel
theorem d_Mo_put_205 : decode M_Mo_put.2.1 205 = .ok (.iconst 1, 1) := by decide +kernel
theorem d_Mo_put_206 : decode M_Mo_put.2.1 206 = .ok (.isub, 1) := by decide +kernel
theorem d_Mo_put_207 : decode M_Mo_put.2.1 207 = .ok (.iaload, 1) := by decide +kernel
theorem d_Mo_put_208 : decode M_Mo_put.2.1 208 = .ok (.iastore, 1) := by decide +kernel
theorem d_Mo_put_209 : decode M_Mo_put.2.1 209 = .ok (.aload_n 0, 1) := by decide +kernel
theorem d_Mo_put_210 : decode M_Mo_put.2.1 210 = .ok (.getfield 96, 3) := by decide +kernel
theorem d_Mo_put_213 : decode M_Mo_put.2.1 213 = .ok (.iload_n 1, 1) := by decide +kernel
theorem d_Mo_put_214 : decode M_Mo_put.2.1 214 = .ok (.dup2, 1) := by decide +kernel
theorem d_Mo_put_215 : decode M_Mo_put.2.1 215 = .ok (.iaload, 1) := by decide +kernel
theorem d_Mo_put_216 : decode M_Mo_put.2.1 216 = .ok (.iconst 1, 1) := by decide +kernel
theorem d_Mo_put_217 : decode M_Mo_put.2.1 217 = .ok (.isub, 1) := by decide +kernel
theorem d_Mo_put_218 : decode M_Mo_put.2.1 218 = .ok (.iastore, 1) := by decide +kernel
theorem d_Mo_put_219 : decode M_Mo_put.2.1 219 = .ok (.iload 6, 2) := by decide +kernel
theorem d_Mo_put_221 : decode M_Mo_put.2.1 221 = .ok (.iconst 4, 1) := by decide +kernel
theorem d_Mo_put_222 : decode M_Mo_put.2.1 222 = .ok (.irem, 1) := by decide +kernel
theorem d_Mo_put_223 : decode M_Mo_put.2.1 223 = .ok (.iconst 1, 1) := by decide +kernel
theorem d_Mo_put_224 : decode M_Mo_put.2.1 224 = .ok (.if_icmp .ne 23, 3) := by decide +kernel
theorem d_Mo_put_227 : decode M_Mo_put.2.1 227 = .ok (.aload_n 0, 1) := by decide +kernel
theorem d_Mo_put_228 : decode M_Mo_put.2.1 228 = .ok (.getfield 87, 3) := by decide +kernel
theorem d_Mo_put_231 : decode M_Mo_put.2.1 231 = .ok (.aload_n 0, 1) := by decide +kernel
theorem d_Mo_put_232 : decode M_Mo_put.2.1 232 = .ok (.getfield 93, 3) := by decide +kernel
theorem d_Mo_put_235 : decode M_Mo_put.2.1 235 = .ok (.iload_n 1, 1) := by decide +kernel
theorem d_Mo_put_236 : decode M_Mo_put.2.1 236 = .ok (.bipush 7, 2) := by decide +kernel
theorem d_Mo_put_238 : decode M_Mo_put.2.1 238 = .ok (.imul, 1) := by decide +kernel
theorem d_Mo_put_239 : decode M_Mo_put.2.1 239 = .ok (.iload 6, 2) := by decide +kernel
theorem d_Mo_put_241 : decode M_Mo_put.2.1 241 = .ok (.iconst 4, 1) := by decide +kernel
theorem d_Mo_put_242 : decode M_Mo_put.2.1 242 = .ok (.idiv, 1) := by decide +kernel
theorem d_Mo_put_243 : decode M_Mo_put.2.1 243 = .ok (.iadd, 1) := by decide +kernel
theorem d_Mo_put_244 : decode M_Mo_put.2.1 244 = .ok (.iaload, 1) := by decide +kernel
theorem d_Mo_put_245 : decode M_Mo_put.2.1 245 = .ok (.iconst (-1), 1) := by decide +kernel
theorem d_Mo_put_246 : decode M_Mo_put.2.1 246 = .ok (.iastore, 1) := by decide +kernel
theorem d_Mo_put_247 : decode M_Mo_put.2.1 247 = .ok (.iconst 0, 1) := by decide +kernel
theorem d_Mo_put_248 : decode M_Mo_put.2.1 248 = .ok (.ireturn, 1) := by decide +kernel
theorem d_Mo_entryOf_0 : decode M_Mo_entryOf.2.1 0 = .ok (.iload_n 1, 1) := by decide +kernel
theorem d_Mo_entryOf_1 : decode M_Mo_entryOf.2.1 1 = .ok (.bipush 28, 2) := by decide +kernel
theorem d_Mo_entryOf_3 : decode M_Mo_entryOf.2.1 3 = .ok (.imul, 1) := by decide +kernel
theorem d_Mo_entryOf_4 : decode M_Mo_entryOf.2.1 4 = .ok (.istore_n 3, 1) := by decide +kernel
theorem d_Mo_entryOf_5 : decode M_Mo_entryOf.2.1 5 = .ok (.iload_n 3, 1) := by decide +kernel
theorem d_Mo_entryOf_6 : decode M_Mo_entryOf.2.1 6 = .ok (.iload_n 1, 1) := by decide +kernel
theorem d_Mo_entryOf_7 : decode M_Mo_entryOf.2.1 7 = .ok (.bipush 28, 2) := by decide +kernel
theorem d_Mo_entryOf_9 : decode M_Mo_entryOf.2.1 9 = .ok (.imul, 1) := by decide +kernel
theorem d_Mo_entryOf_10 : decode M_Mo_entryOf.2.1 10 = .ok (.aload_n 0, 1) := by decide +kernel
theorem d_Mo_entryOf_11 : decode M_Mo_entryOf.2.1 11 = .ok (.getfield 96, 3) := by decide +kernel
theorem d_Mo_entryOf_14 : decode M_Mo_entryOf.2.1 14 = .ok (.iload_n 1, 1) := by decide +kernel
theorem d_Mo_entryOf_15 : decode M_Mo_entryOf.2.1 15 = .ok (.iaload, 1) := by decide +kernel
theorem d_Mo_entryOf_16 : decode M_Mo_entryOf.2.1 16 = .ok (.iadd, 1) := by decide +kernel
theorem d_Mo_entryOf_17 : decode M_Mo_entryOf.2.1 17 = .ok (.if_icmp .ge 21, 3) := by decide +kernel
theorem d_Mo_entryOf_20 : decode M_Mo_entryOf.2.1 20 = .ok (.aload_n 0, 1) := by decide +kernel
theorem d_Mo_entryOf_21 : decode M_Mo_entryOf.2.1 21 = .ok (.getfield 99, 3) := by decide +kernel
theorem d_Mo_entryOf_24 : decode M_Mo_entryOf.2.1 24 = .ok (.iload_n 3, 1) := by decide +kernel
theorem d_Mo_entryOf_25 : decode M_Mo_entryOf.2.1 25 = .ok (.iaload, 1) := by decide +kernel
theorem d_Mo_entryOf_26 : decode M_Mo_entryOf.2.1 26 = .ok (.iload_n 2, 1) := by decide +kernel
theorem d_Mo_entryOf_27 : decode M_Mo_entryOf.2.1 27 = .ok (.if_icmp .ne 5, 3) := by decide +kernel
theorem d_Mo_entryOf_30 : decode M_Mo_entryOf.2.1 30 = .ok (.iload_n 3, 1) := by decide +kernel
theorem d_Mo_entryOf_31 : decode M_Mo_entryOf.2.1 31 = .ok (.ireturn, 1) := by decide +kernel
theorem d_Mo_entryOf_32 : decode M_Mo_entryOf.2.1 32 = .ok (.iinc 3 1, 3) := by decide +kernel
theorem d_Mo_entryOf_35 : decode M_Mo_entryOf.2.1 35 = .ok (.goto (-30), 3) := by decide +kernel
theorem d_Mo_entryOf_38 : decode M_Mo_entryOf.2.1 38 = .ok (.iconst (-1), 1) := by decide +kernel
theorem d_Mo_entryOf_39 : decode M_Mo_entryOf.2.1 39 = .ok (.ireturn, 1) := by decide +kernel
theorem d_Mo_get_0 : decode M_Mo_get.2.1 0 = .ok (.aload_n 0, 1) := by decide +kernel
theorem d_Mo_get_1 : decode M_Mo_get.2.1 1 = .ok (.iload_n 1, 1) := by decide +kernel
theorem d_Mo_get_2 : decode M_Mo_get.2.1 2 = .ok (.invokevirtual 126, 3) := by decide +kernel
theorem d_Mo_get_5 : decode M_Mo_get.2.1 5 = .ok (.ifCond .eq 7, 3) := by decide +kernel
theorem d_Mo_get_8 : decode M_Mo_get.2.1 8 = .ok (.ldc2_w 137, 3) := by decide +kernel
theorem d_Mo_get_11 : decode M_Mo_get.2.1 11 = .ok (.lreturn, 1) := by decide +kernel
theorem d_Mo_get_12 : decode M_Mo_get.2.1 12 = .ok (.aload_n 0, 1) := by decide +kernel
theorem d_Mo_get_13 : decode M_Mo_get.2.1 13 = .ok (.getfield 13, 3) := by decide +kernel
theorem d_Mo_get_16 : decode M_Mo_get.2.1 16 = .ok (.iload_n 1, 1) := by decide +kernel
theorem d_Mo_get_17 : decode M_Mo_get.2.1 17 = .ok (.baload, 1) := by decide +kernel
theorem d_Mo_get_18 : decode M_Mo_get.2.1 18 = .ok (.ifCond .eq 28, 3) := by decide +kernel
theorem d_Mo_get_21 : decode M_Mo_get.2.1 21 = .ok (.aload_n 0, 1) := by decide +kernel
theorem d_Mo_get_22 : decode M_Mo_get.2.1 22 = .ok (.iload_n 1, 1) := by decide +kernel
theorem d_Mo_get_23 : decode M_Mo_get.2.1 23 = .ok (.iload_n 2, 1) := by decide +kernel
theorem d_Mo_get_24 : decode M_Mo_get.2.1 24 = .ok (.invokevirtual 151, 3) := by decide +kernel
theorem d_Mo_get_27 : decode M_Mo_get.2.1 27 = .ok (.istore_n 3, 1) := by decide +kernel
theorem d_Mo_get_28 : decode M_Mo_get.2.1 28 = .ok (.iload_n 3, 1) := by decide +kernel
theorem d_Mo_get_29 : decode M_Mo_get.2.1 29 = .ok (.ifCond .ge 9, 3) := by decide +kernel
theorem d_Mo_get_32 : decode M_Mo_get.2.1 32 = .ok (.ldc2_w 137, 3) := by decide +kernel
theorem d_Mo_get_35 : decode M_Mo_get.2.1 35 = .ok (.goto 10, 3) := by decide +kernel
theorem d_Mo_get_38 : decode M_Mo_get.2.1 38 = .ok (.aload_n 0, 1) := by decide +kernel
theorem d_Mo_get_39 : decode M_Mo_get.2.1 39 = .ok (.getfield 102, 3) := by decide +kernel
theorem d_Mo_get_42 : decode M_Mo_get.2.1 42 = .ok (.iload_n 3, 1) := by decide +kernel
theorem d_Mo_get_43 : decode M_Mo_get.2.1 43 = .ok (.iaload, 1) := by decide +kernel
theorem d_Mo_get_44 : decode M_Mo_get.2.1 44 = .ok (.i2l, 1) := by decide +kernel
theorem d_Mo_get_45 : decode M_Mo_get.2.1 45 = .ok (.lreturn, 1) := by decide +kernel
theorem d_Mo_get_46 : decode M_Mo_get.2.1 46 = .ok (.iload_n 2, 1) := by decide +kernel
theorem d_Mo_get_47 : decode M_Mo_get.2.1 47 = .ok (.ifCond .lt 27, 3) := by decide +kernel
theorem d_Mo_get_50 : decode M_Mo_get.2.1 50 = .ok (.iload_n 2, 1) := by decide +kernel
theorem d_Mo_get_51 : decode M_Mo_get.2.1 51 = .ok (.bipush 8, 2) := by decide +kernel
theorem d_Mo_get_53 : decode M_Mo_get.2.1 53 = .ok (.aload_n 0, 1) := by decide +kernel
theorem d_Mo_get_54 : decode M_Mo_get.2.1 54 = .ok (.getfield 108, 3) := by decide +kernel
theorem d_Mo_get_57 : decode M_Mo_get.2.1 57 = .ok (.imul, 1) := by decide +kernel
theorem d_Mo_get_58 : decode M_Mo_get.2.1 58 = .ok (.if_icmp .ge 16, 3) := by decide +kernel
theorem d_Mo_get_61 : decode M_Mo_get.2.1 61 = .ok (.aload_n 0, 1) := by decide +kernel
theorem d_Mo_get_62 : decode M_Mo_get.2.1 62 = .ok (.getfield 87, 3) := by decide +kernel
theorem d_Mo_get_65 : decode M_Mo_get.2.1 65 = .ok (.iload_n 2, 1) := by decide +kernel
theorem d_Mo_get_66 : decode M_Mo_get.2.1 66 = .ok (.bipush 8, 2) := by decide +kernel
theorem d_Mo_get_68 : decode M_Mo_get.2.1 68 = .ok (.idiv, 1) := by decide +kernel
theorem d_Mo_get_69 : decode M_Mo_get.2.1 69 = .ok (.iaload, 1) := by decide +kernel
theorem d_Mo_get_70 : decode M_Mo_get.2.1 70 = .ok (.iload_n 1, 1) := by decide +kernel
theorem d_Mo_get_71 : decode M_Mo_get.2.1 71 = .ok (.if_icmp .eq 9, 3) := by decide +kernel
theorem d_Mo_get_74 : decode M_Mo_get.2.1 74 = .ok (.ldc2_w 137, 3) := by decide +kernel
theorem d_Mo_get_77 : decode M_Mo_get.2.1 77 = .ok (.goto 10, 3) := by decide +kernel
theorem d_Mo_get_80 : decode M_Mo_get.2.1 80 = .ok (.aload_n 0, 1) := by decide +kernel
theorem d_Mo_get_81 : decode M_Mo_get.2.1 81 = .ok (.getfield 90, 3) := by decide +kernel
theorem d_Mo_get_84 : decode M_Mo_get.2.1 84 = .ok (.iload_n 2, 1) := by decide +kernel
theorem d_Mo_get_85 : decode M_Mo_get.2.1 85 = .ok (.iaload, 1) := by decide +kernel
theorem d_Mo_get_86 : decode M_Mo_get.2.1 86 = .ok (.i2l, 1) := by decide +kernel
theorem d_Mo_get_87 : decode M_Mo_get.2.1 87 = .ok (.lreturn, 1) := by decide +kernel
theorem d_Mo_holder_0 : decode M_Mo_holder.2.1 0 = .ok (.iload_n 1, 1) := by decide +kernel
theorem d_Mo_holder_1 : decode M_Mo_holder.2.1 1 = .ok (.ifCond .ne 26, 3) := by decide +kernel
theorem d_Mo_holder_4 : decode M_Mo_holder.2.1 4 = .ok (.aload_n 0, 1) := by decide +kernel
theorem d_Mo_holder_5 : decode M_Mo_holder.2.1 5 = .ok (.iload_n 2, 1) := by decide +kernel
theorem d_Mo_holder_6 : decode M_Mo_holder.2.1 6 = .ok (.aload_n 0, 1) := by decide +kernel
theorem d_Mo_holder_7 : decode M_Mo_holder.2.1 7 = .ok (.getfield 105, 3) := by decide +kernel
theorem d_Mo_holder_10 : decode M_Mo_holder.2.1 10 = .ok (.invokevirtual 111, 3) := by decide +kernel
theorem d_Mo_holder_13 : decode M_Mo_holder.2.1 13 = .ok (.ifCond .eq 7, 3) := by decide +kernel
theorem d_Mo_holder_16 : decode M_Mo_holder.2.1 16 = .ok (.iconst (-1), 1) := by decide +kernel
theorem d_Mo_holder_17 : decode M_Mo_holder.2.1 17 = .ok (.goto 9, 3) := by decide +kernel
theorem d_Mo_holder_20 : decode M_Mo_holder.2.1 20 = .ok (.aload_n 0, 1) := by decide +kernel
theorem d_Mo_holder_21 : decode M_Mo_holder.2.1 21 = .ok (.getfield 33, 3) := by decide +kernel
theorem d_Mo_holder_24 : decode M_Mo_holder.2.1 24 = .ok (.iload_n 2, 1) := by decide +kernel
theorem d_Mo_holder_25 : decode M_Mo_holder.2.1 25 = .ok (.iaload, 1) := by decide +kernel
theorem d_Mo_holder_26 : decode M_Mo_holder.2.1 26 = .ok (.ireturn, 1) := by decide +kernel
theorem d_Mo_holder_27 : decode M_Mo_holder.2.1 27 = .ok (.iload_n 1, 1) := by decide +kernel
theorem d_Mo_holder_28 : decode M_Mo_holder.2.1 28 = .ok (.iconst 1, 1) := by decide +kernel
theorem d_Mo_holder_29 : decode M_Mo_holder.2.1 29 = .ok (.if_icmp .ne 26, 3) := by decide +kernel
theorem d_Mo_holder_32 : decode M_Mo_holder.2.1 32 = .ok (.aload_n 0, 1) := by decide +kernel
theorem d_Mo_holder_33 : decode M_Mo_holder.2.1 33 = .ok (.iload_n 2, 1) := by decide +kernel
theorem d_Mo_holder_34 : decode M_Mo_holder.2.1 34 = .ok (.aload_n 0, 1) := by decide +kernel
theorem d_Mo_holder_35 : decode M_Mo_holder.2.1 35 = .ok (.getfield 108, 3) := by decide +kernel
theorem d_Mo_holder_38 : decode M_Mo_holder.2.1 38 = .ok (.invokevirtual 111, 3) := by decide +kernel
theorem d_Mo_holder_41 : decode M_Mo_holder.2.1 41 = .ok (.ifCond .eq 7, 3) := by decide +kernel
theorem d_Mo_holder_44 : decode M_Mo_holder.2.1 44 = .ok (.iconst (-1), 1) := by decide +kernel
theorem d_Mo_holder_45 : decode M_Mo_holder.2.1 45 = .ok (.goto 9, 3) := by decide +kernel
theorem d_Mo_holder_48 : decode M_Mo_holder.2.1 48 = .ok (.aload_n 0, 1) := by decide +kernel
theorem d_Mo_holder_49 : decode M_Mo_holder.2.1 49 = .ok (.getfield 87, 3) := by decide +kernel
theorem d_Mo_holder_52 : decode M_Mo_holder.2.1 52 = .ok (.iload_n 2, 1) := by decide +kernel
theorem d_Mo_holder_53 : decode M_Mo_holder.2.1 53 = .ok (.iaload, 1) := by decide +kernel
theorem d_Mo_holder_54 : decode M_Mo_holder.2.1 54 = .ok (.ireturn, 1) := by decide +kernel
theorem d_Mo_holder_55 : decode M_Mo_holder.2.1 55 = .ok (.aload_n 0, 1) := by decide +kernel
theorem d_Mo_holder_56 : decode M_Mo_holder.2.1 56 = .ok (.iload_n 1, 1) := by decide +kernel
theorem d_Mo_holder_57 : decode M_Mo_holder.2.1 57 = .ok (.bipush 8, 2) := by decide +kernel
theorem d_Mo_holder_59 : decode M_Mo_holder.2.1 59 = .ok (.invokevirtual 111, 3) := by decide +kernel
theorem d_Mo_holder_62 : decode M_Mo_holder.2.1 62 = .ok (.ifCond .ne 25, 3) := by decide +kernel
theorem d_Mo_holder_65 : decode M_Mo_holder.2.1 65 = .ok (.aload_n 0, 1) := by decide +kernel
theorem d_Mo_holder_66 : decode M_Mo_holder.2.1 66 = .ok (.iload_n 2, 1) := by decide +kernel
theorem d_Mo_holder_67 : decode M_Mo_holder.2.1 67 = .ok (.bipush 8, 2) := by decide +kernel
theorem d_Mo_holder_69 : decode M_Mo_holder.2.1 69 = .ok (.invokevirtual 111, 3) := by decide +kernel
theorem d_Mo_holder_72 : decode M_Mo_holder.2.1 72 = .ok (.ifCond .ne 15, 3) := by decide +kernel
theorem d_Mo_holder_75 : decode M_Mo_holder.2.1 75 = .ok (.iload_n 2, 1) := by decide +kernel
theorem d_Mo_holder_76 : decode M_Mo_holder.2.1 76 = .ok (.aload_n 0, 1) := by decide +kernel
theorem d_Mo_holder_77 : decode M_Mo_holder.2.1 77 = .ok (.getfield 51, 3) := by decide +kernel
theorem d_Mo_holder_80 : decode M_Mo_holder.2.1 80 = .ok (.iload_n 1, 1) := by decide +kernel
theorem d_Mo_holder_81 : decode M_Mo_holder.2.1 81 = .ok (.iconst 2, 1) := by decide +kernel
theorem d_Mo_holder_82 : decode M_Mo_holder.2.1 82 = .ok (.isub, 1) := by decide +kernel
theorem d_Mo_holder_83 : decode M_Mo_holder.2.1 83 = .ok (.iaload, 1) := by decide +kernel
theorem d_Mo_holder_84 : decode M_Mo_holder.2.1 84 = .ok (.if_icmp .lt 5, 3) := by decide +kernel
theorem d_Mo_holder_87 : decode M_Mo_holder.2.1 87 = .ok (.iconst (-1), 1) := by decide +kernel
theorem d_Mo_holder_88 : decode M_Mo_holder.2.1 88 = .ok (.ireturn, 1) := by decide +kernel
theorem d_Mo_holder_89 : decode M_Mo_holder.2.1 89 = .ok (.aload_n 0, 1) := by decide +kernel
theorem d_Mo_holder_90 : decode M_Mo_holder.2.1 90 = .ok (.getfield 48, 3) := by decide +kernel
theorem d_Mo_holder_93 : decode M_Mo_holder.2.1 93 = .ok (.iload_n 1, 1) := by decide +kernel
theorem d_Mo_holder_94 : decode M_Mo_holder.2.1 94 = .ok (.iconst 2, 1) := by decide +kernel
theorem d_Mo_holder_95 : decode M_Mo_holder.2.1 95 = .ok (.isub, 1) := by decide +kernel
theorem d_Mo_holder_96 : decode M_Mo_holder.2.1 96 = .ok (.bipush 8, 2) := by decide +kernel
theorem d_Mo_holder_98 : decode M_Mo_holder.2.1 98 = .ok (.imul, 1) := by decide +kernel
theorem d_Mo_holder_99 : decode M_Mo_holder.2.1 99 = .ok (.iload_n 2, 1) := by decide +kernel
theorem d_Mo_holder_100 : decode M_Mo_holder.2.1 100 = .ok (.iadd, 1) := by decide +kernel
theorem d_Mo_holder_101 : decode M_Mo_holder.2.1 101 = .ok (.iaload, 1) := by decide +kernel
theorem d_Mo_holder_102 : decode M_Mo_holder.2.1 102 = .ok (.ireturn, 1) := by decide +kernel
theorem d_Mo_count_0 : decode M_Mo_count.2.1 0 = .ok (.aload_n 0, 1) := by decide +kernel
theorem d_Mo_count_1 : decode M_Mo_count.2.1 1 = .ok (.iload_n 1, 1) := by decide +kernel
theorem d_Mo_count_2 : decode M_Mo_count.2.1 2 = .ok (.bipush 9, 2) := by decide +kernel
theorem d_Mo_count_4 : decode M_Mo_count.2.1 4 = .ok (.invokevirtual 111, 3) := by decide +kernel
theorem d_Mo_count_7 : decode M_Mo_count.2.1 7 = .ok (.ifCond .ne 18, 3) := by decide +kernel
theorem d_Mo_count_10 : decode M_Mo_count.2.1 10 = .ok (.iload_n 1, 1) := by decide +kernel
theorem d_Mo_count_11 : decode M_Mo_count.2.1 11 = .ok (.iconst 2, 1) := by decide +kernel
theorem d_Mo_count_12 : decode M_Mo_count.2.1 12 = .ok (.if_icmp .le 15, 3) := by decide +kernel
theorem d_Mo_count_15 : decode M_Mo_count.2.1 15 = .ok (.aload_n 0, 1) := by decide +kernel
theorem d_Mo_count_16 : decode M_Mo_count.2.1 16 = .ok (.iload_n 2, 1) := by decide +kernel
theorem d_Mo_count_17 : decode M_Mo_count.2.1 17 = .ok (.bipush 6, 2) := by decide +kernel
theorem d_Mo_count_19 : decode M_Mo_count.2.1 19 = .ok (.invokevirtual 111, 3) := by decide +kernel
theorem d_Mo_count_22 : decode M_Mo_count.2.1 22 = .ok (.ifCond .eq 5, 3) := by decide +kernel
theorem d_Mo_count_25 : decode M_Mo_count.2.1 25 = .ok (.iconst (-1), 1) := by decide +kernel
theorem d_Mo_count_26 : decode M_Mo_count.2.1 26 = .ok (.ireturn, 1) := by decide +kernel
theorem d_Mo_count_27 : decode M_Mo_count.2.1 27 = .ok (.iload_n 1, 1) := by decide +kernel
theorem d_Mo_count_28 : decode M_Mo_count.2.1 28 = .ok (.ifCond .ne 10, 3) := by decide +kernel
theorem d_Mo_count_31 : decode M_Mo_count.2.1 31 = .ok (.aload_n 0, 1) := by decide +kernel
theorem d_Mo_count_32 : decode M_Mo_count.2.1 32 = .ok (.iconst (-1), 1) := by decide +kernel
theorem d_Mo_count_33 : decode M_Mo_count.2.1 33 = .ok (.iconst 0, 1) := by decide +kernel
theorem d_Mo_count_34 : decode M_Mo_count.2.1 34 = .ok (.invokevirtual 155, 3) := by decide +kernel
theorem d_Mo_count_37 : decode M_Mo_count.2.1 37 = .ok (.ireturn, 1) := by decide +kernel
theorem d_Mo_count_38 : decode M_Mo_count.2.1 38 = .ok (.iload_n 1, 1) := by decide +kernel
theorem d_Mo_count_39 : decode M_Mo_count.2.1 39 = .ok (.iconst 1, 1) := by decide +kernel
theorem d_Mo_count_40 : decode M_Mo_count.2.1 40 = .ok (.if_icmp .ne 9, 3) := by decide +kernel
theorem d_Mo_count_43 : decode M_Mo_count.2.1 43 = .ok (.aload_n 0, 1) := by decide +kernel
theorem d_Mo_count_44 : decode M_Mo_count.2.1 44 = .ok (.iconst (-1), 1) := by decide +kernel
theorem d_Mo_count_45 : decode M_Mo_count.2.1 45 = .ok (.invokevirtual 159, 3) := by decide +kernel
theorem d_Mo_count_48 : decode M_Mo_count.2.1 48 = .ok (.ireturn, 1) := by decide +kernel
theorem d_Mo_count_49 : decode M_Mo_count.2.1 49 = .ok (.iload_n 1, 1) := by decide +kernel
theorem d_Mo_count_50 : decode M_Mo_count.2.1 50 = .ok (.iconst 2, 1) := by decide +kernel
theorem d_Mo_count_51 : decode M_Mo_count.2.1 51 = .ok (.if_icmp .ne 8, 3) := by decide +kernel
theorem d_Mo_count_54 : decode M_Mo_count.2.1 54 = .ok (.aload_n 0, 1) := by decide +kernel
theorem d_Mo_count_55 : decode M_Mo_count.2.1 55 = .ok (.getfield 30, 3) := by decide +kernel
theorem d_Mo_count_58 : decode M_Mo_count.2.1 58 = .ok (.ireturn, 1) := by decide +kernel
theorem d_Mo_count_59 : decode M_Mo_count.2.1 59 = .ok (.aload_n 0, 1) := by decide +kernel
theorem d_Mo_count_60 : decode M_Mo_count.2.1 60 = .ok (.getfield 7, 3) := by decide +kernel
theorem d_Mo_count_63 : decode M_Mo_count.2.1 63 = .ok (.iload_n 2, 1) := by decide +kernel
theorem d_Mo_count_64 : decode M_Mo_count.2.1 64 = .ok (.baload, 1) := by decide +kernel
theorem d_Mo_count_65 : decode M_Mo_count.2.1 65 = .ok (.ifCond .ne 5, 3) := by decide +kernel
theorem d_Mo_count_68 : decode M_Mo_count.2.1 68 = .ok (.iconst 0, 1) := by decide +kernel
theorem d_Mo_count_69 : decode M_Mo_count.2.1 69 = .ok (.ireturn, 1) := by decide +kernel
theorem d_Mo_count_70 : decode M_Mo_count.2.1 70 = .ok (.iload_n 1, 1) := by decide +kernel
theorem d_Mo_count_71 : decode M_Mo_count.2.1 71 = .ok (.iconst 5, 1) := by decide +kernel
theorem d_Mo_count_72 : decode M_Mo_count.2.1 72 = .ok (.if_icmp .ge 19, 3) := by decide +kernel
theorem d_Mo_count_75 : decode M_Mo_count.2.1 75 = .ok (.aload_n 0, 1) := by decide +kernel
theorem d_Mo_count_76 : decode M_Mo_count.2.1 76 = .ok (.iload_n 2, 1) := by decide +kernel
theorem d_Mo_count_77 : decode M_Mo_count.2.1 77 = .ok (.iload_n 1, 1) := by decide +kernel
theorem d_Mo_count_78 : decode M_Mo_count.2.1 78 = .ok (.iconst 4, 1) := by decide +kernel
theorem d_Mo_count_79 : decode M_Mo_count.2.1 79 = .ok (.if_icmp .ne 7, 3) := by decide +kernel
theorem d_Mo_count_82 : decode M_Mo_count.2.1 82 = .ok (.iconst 1, 1) := by decide +kernel
theorem d_Mo_count_83 : decode M_Mo_count.2.1 83 = .ok (.goto 4, 3) := by decide +kernel
theorem d_Mo_count_86 : decode M_Mo_count.2.1 86 = .ok (.iconst 0, 1) := by decide +kernel
theorem d_Mo_count_87 : decode M_Mo_count.2.1 87 = .ok (.invokevirtual 155, 3) := by decide +kernel
theorem d_Mo_count_90 : decode M_Mo_count.2.1 90 = .ok (.ireturn, 1) := by decide +kernel
theorem d_Mo_count_91 : decode M_Mo_count.2.1 91 = .ok (.iload_n 1, 1) := by decide +kernel
theorem d_Mo_count_92 : decode M_Mo_count.2.1 92 = .ok (.iconst 5, 1) := by decide +kernel
theorem d_Mo_count_93 : decode M_Mo_count.2.1 93 = .ok (.if_icmp .ne 10, 3) := by decide +kernel
theorem d_Mo_count_96 : decode M_Mo_count.2.1 96 = .ok (.aload_n 0, 1) := by decide +kernel
theorem d_Mo_count_97 : decode M_Mo_count.2.1 97 = .ok (.getfield 72, 3) := by decide +kernel
theorem d_Mo_count_100 : decode M_Mo_count.2.1 100 = .ok (.iload_n 2, 1) := by decide +kernel
theorem d_Mo_count_101 : decode M_Mo_count.2.1 101 = .ok (.iaload, 1) := by decide +kernel
theorem d_Mo_count_102 : decode M_Mo_count.2.1 102 = .ok (.ireturn, 1) := by decide +kernel
theorem d_Mo_count_103 : decode M_Mo_count.2.1 103 = .ok (.iload_n 1, 1) := by decide +kernel
theorem d_Mo_count_104 : decode M_Mo_count.2.1 104 = .ok (.bipush 6, 2) := by decide +kernel
theorem d_Mo_count_106 : decode M_Mo_count.2.1 106 = .ok (.if_icmp .ne 9, 3) := by decide +kernel
theorem d_Mo_count_109 : decode M_Mo_count.2.1 109 = .ok (.aload_n 0, 1) := by decide +kernel
theorem d_Mo_count_110 : decode M_Mo_count.2.1 110 = .ok (.iload_n 2, 1) := by decide +kernel
theorem d_Mo_count_111 : decode M_Mo_count.2.1 111 = .ok (.invokevirtual 159, 3) := by decide +kernel
theorem d_Mo_count_114 : decode M_Mo_count.2.1 114 = .ok (.ireturn, 1) := by decide +kernel
theorem d_Mo_count_115 : decode M_Mo_count.2.1 115 = .ok (.iload_n 1, 1) := by decide +kernel
theorem d_Mo_count_116 : decode M_Mo_count.2.1 116 = .ok (.bipush 8, 2) := by decide +kernel
theorem d_Mo_count_118 : decode M_Mo_count.2.1 118 = .ok (.if_icmp .ne 23, 3) := by decide +kernel
theorem d_Mo_count_121 : decode M_Mo_count.2.1 121 = .ok (.aload_n 0, 1) := by decide +kernel
theorem d_Mo_count_122 : decode M_Mo_count.2.1 122 = .ok (.getfield 13, 3) := by decide +kernel
theorem d_Mo_count_125 : decode M_Mo_count.2.1 125 = .ok (.iload_n 2, 1) := by decide +kernel
theorem d_Mo_count_126 : decode M_Mo_count.2.1 126 = .ok (.baload, 1) := by decide +kernel
theorem d_Mo_count_127 : decode M_Mo_count.2.1 127 = .ok (.ifCond .eq 12, 3) := by decide +kernel
theorem d_Mo_count_130 : decode M_Mo_count.2.1 130 = .ok (.aload_n 0, 1) := by decide +kernel
theorem d_Mo_count_131 : decode M_Mo_count.2.1 131 = .ok (.getfield 96, 3) := by decide +kernel
theorem d_Mo_count_134 : decode M_Mo_count.2.1 134 = .ok (.iload_n 2, 1) := by decide +kernel
theorem d_Mo_count_135 : decode M_Mo_count.2.1 135 = .ok (.iaload, 1) := by decide +kernel
theorem d_Mo_count_136 : decode M_Mo_count.2.1 136 = .ok (.goto 4, 3) := by decide +kernel
theorem d_Mo_count_139 : decode M_Mo_count.2.1 139 = .ok (.iconst 0, 1) := by decide +kernel
theorem d_Mo_count_140 : decode M_Mo_count.2.1 140 = .ok (.ireturn, 1) := by decide +kernel
theorem d_Mo_count_141 : decode M_Mo_count.2.1 141 = .ok (.iconst 0, 1) := by decide +kernel
theorem d_Mo_count_142 : decode M_Mo_count.2.1 142 = .ok (.istore_n 3, 1) := by decide +kernel
theorem d_Mo_count_143 : decode M_Mo_count.2.1 143 = .ok (.iload_n 3, 1) := by decide +kernel
theorem d_Mo_count_144 : decode M_Mo_count.2.1 144 = .ok (.aload_n 0, 1) := by decide +kernel
theorem d_Mo_count_145 : decode M_Mo_count.2.1 145 = .ok (.getfield 63, 3) := by decide +kernel
theorem d_Mo_count_148 : decode M_Mo_count.2.1 148 = .ok (.if_icmp .ge 23, 3) := by decide +kernel
theorem d_Mo_count_151 : decode M_Mo_count.2.1 151 = .ok (.aload_n 0, 1) := by decide +kernel
theorem d_Mo_count_152 : decode M_Mo_count.2.1 152 = .ok (.getfield 60, 3) := by decide +kernel
theorem d_Mo_count_155 : decode M_Mo_count.2.1 155 = .ok (.iload_n 3, 1) := by decide +kernel
theorem d_Mo_count_156 : decode M_Mo_count.2.1 156 = .ok (.iaload, 1) := by decide +kernel
theorem d_Mo_count_157 : decode M_Mo_count.2.1 157 = .ok (.iload_n 2, 1) := by decide +kernel
theorem d_Mo_count_158 : decode M_Mo_count.2.1 158 = .ok (.if_icmp .ne 7, 3) := by decide +kernel
theorem d_Mo_count_161 : decode M_Mo_count.2.1 161 = .ok (.iload_n 3, 1) := by decide +kernel
theorem d_Mo_count_162 : decode M_Mo_count.2.1 162 = .ok (.iconst 1, 1) := by decide +kernel
theorem d_Mo_count_163 : decode M_Mo_count.2.1 163 = .ok (.iadd, 1) := by decide +kernel
theorem d_Mo_count_164 : decode M_Mo_count.2.1 164 = .ok (.ireturn, 1) := by decide +kernel
theorem d_Mo_count_165 : decode M_Mo_count.2.1 165 = .ok (.iinc 3 1, 3) := by decide +kernel
theorem d_Mo_count_168 : decode M_Mo_count.2.1 168 = .ok (.goto (-25), 3) := by decide +kernel
theorem d_Mo_count_171 : decode M_Mo_count.2.1 171 = .ok (.iconst 0, 1) := by decide +kernel
theorem d_Mo_count_172 : decode M_Mo_count.2.1 172 = .ok (.ireturn, 1) := by decide +kernel
theorem d_Mo_pagesOf_0 : decode M_Mo_pagesOf.2.1 0 = .ok (.iconst 0, 1) := by decide +kernel
theorem d_Mo_pagesOf_1 : decode M_Mo_pagesOf.2.1 1 = .ok (.istore_n 3, 1) := by decide +kernel
theorem d_Mo_pagesOf_2 : decode M_Mo_pagesOf.2.1 2 = .ok (.iconst 0, 1) := by decide +kernel
theorem d_Mo_pagesOf_3 : decode M_Mo_pagesOf.2.1 3 = .ok (.istore 4, 2) := by decide +kernel
theorem d_Mo_pagesOf_5 : decode M_Mo_pagesOf.2.1 5 = .ok (.iload 4, 2) := by decide +kernel
theorem d_Mo_pagesOf_7 : decode M_Mo_pagesOf.2.1 7 = .ok (.aload_n 0, 1) := by decide +kernel
theorem d_Mo_pagesOf_8 : decode M_Mo_pagesOf.2.1 8 = .ok (.getfield 105, 3) := by decide +kernel
theorem d_Mo_pagesOf_11 : decode M_Mo_pagesOf.2.1 11 = .ok (.if_icmp .ge 37, 3) := by decide +kernel
theorem d_Mo_pagesOf_14 : decode M_Mo_pagesOf.2.1 14 = .ok (.aload_n 0, 1) := by decide +kernel
theorem d_Mo_pagesOf_15 : decode M_Mo_pagesOf.2.1 15 = .ok (.getfield 33, 3) := by decide +kernel
theorem d_Mo_pagesOf_18 : decode M_Mo_pagesOf.2.1 18 = .ok (.iload 4, 2) := by decide +kernel
theorem d_Mo_pagesOf_20 : decode M_Mo_pagesOf.2.1 20 = .ok (.iaload, 1) := by decide +kernel
theorem d_Mo_pagesOf_21 : decode M_Mo_pagesOf.2.1 21 = .ok (.iload_n 1, 1) := by decide +kernel
theorem d_Mo_pagesOf_22 : decode M_Mo_pagesOf.2.1 22 = .ok (.if_icmp .ne 20, 3) := by decide +kernel
theorem d_Mo_pagesOf_25 : decode M_Mo_pagesOf.2.1 25 = .ok (.iload_n 2, 1) := by decide +kernel
theorem d_Mo_pagesOf_26 : decode M_Mo_pagesOf.2.1 26 = .ok (.ifCond .eq 13, 3) := by decide +kernel
theorem d_Mo_pagesOf_29 : decode M_Mo_pagesOf.2.1 29 = .ok (.aload_n 0, 1) := by decide +kernel
theorem d_Mo_pagesOf_30 : decode M_Mo_pagesOf.2.1 30 = .ok (.getfield 39, 3) := by decide +kernel
theorem d_Mo_pagesOf_33 : decode M_Mo_pagesOf.2.1 33 = .ok (.iload 4, 2) := by decide +kernel
theorem d_Mo_pagesOf_35 : decode M_Mo_pagesOf.2.1 35 = .ok (.iaload, 1) := by decide +kernel
theorem d_Mo_pagesOf_36 : decode M_Mo_pagesOf.2.1 36 = .ok (.ifCond .le 6, 3) := by decide +kernel
theorem d_Mo_pagesOf_39 : decode M_Mo_pagesOf.2.1 39 = .ok (.iinc 3 1, 3) := by decide +kernel
theorem d_Mo_pagesOf_42 : decode M_Mo_pagesOf.2.1 42 = .ok (.iinc 4 1, 3) := by decide +kernel
theorem d_Mo_pagesOf_45 : decode M_Mo_pagesOf.2.1 45 = .ok (.goto (-40), 3) := by decide +kernel
theorem d_Mo_pagesOf_48 : decode M_Mo_pagesOf.2.1 48 = .ok (.iload_n 3, 1) := by decide +kernel
theorem d_Mo_pagesOf_49 : decode M_Mo_pagesOf.2.1 49 = .ok (.ireturn, 1) := by decide +kernel
theorem d_Mo_blocksOf_0 : decode M_Mo_blocksOf.2.1 0 = .ok (.iconst 0, 1) := by decide +kernel
theorem d_Mo_blocksOf_1 : decode M_Mo_blocksOf.2.1 1 = .ok (.istore_n 2, 1) := by decide +kernel
theorem d_Mo_blocksOf_2 : decode M_Mo_blocksOf.2.1 2 = .ok (.iconst 0, 1) := by decide +kernel
theorem d_Mo_blocksOf_3 : decode M_Mo_blocksOf.2.1 3 = .ok (.istore_n 3, 1) := by decide +kernel
theorem d_Mo_blocksOf_4 : decode M_Mo_blocksOf.2.1 4 = .ok (.iload_n 3, 1) := by decide +kernel
theorem d_Mo_blocksOf_5 : decode M_Mo_blocksOf.2.1 5 = .ok (.aload_n 0, 1) := by decide +kernel
theorem d_Mo_blocksOf_6 : decode M_Mo_blocksOf.2.1 6 = .ok (.getfield 108, 3) := by decide +kernel
theorem d_Mo_blocksOf_9 : decode M_Mo_blocksOf.2.1 9 = .ok (.if_icmp .ge 22, 3) := by decide +kernel
theorem d_Mo_blocksOf_12 : decode M_Mo_blocksOf.2.1 12 = .ok (.aload_n 0, 1) := by decide +kernel
theorem d_Mo_blocksOf_13 : decode M_Mo_blocksOf.2.1 13 = .ok (.getfield 87, 3) := by decide +kernel
theorem d_Mo_blocksOf_16 : decode M_Mo_blocksOf.2.1 16 = .ok (.iload_n 3, 1) := by decide +kernel
theorem d_Mo_blocksOf_17 : decode M_Mo_blocksOf.2.1 17 = .ok (.iaload, 1) := by decide +kernel
theorem d_Mo_blocksOf_18 : decode M_Mo_blocksOf.2.1 18 = .ok (.iload_n 1, 1) := by decide +kernel
theorem d_Mo_blocksOf_19 : decode M_Mo_blocksOf.2.1 19 = .ok (.if_icmp .ne 6, 3) := by decide +kernel
theorem d_Mo_blocksOf_22 : decode M_Mo_blocksOf.2.1 22 = .ok (.iinc 2 1, 3) := by decide +kernel
theorem d_Mo_blocksOf_25 : decode M_Mo_blocksOf.2.1 25 = .ok (.iinc 3 1, 3) := by decide +kernel
theorem d_Mo_blocksOf_28 : decode M_Mo_blocksOf.2.1 28 = .ok (.goto (-24), 3) := by decide +kernel
theorem d_Mo_blocksOf_31 : decode M_Mo_blocksOf.2.1 31 = .ok (.iload_n 2, 1) := by decide +kernel
theorem d_Mo_blocksOf_32 : decode M_Mo_blocksOf.2.1 32 = .ok (.ireturn, 1) := by decide +kernel
theorem d_Law_law_0 : decode M_Law_law.2.1 0 = .ok (.new 7, 3) := by decide +kernel
theorem d_Law_law_3 : decode M_Law_law.2.1 3 = .ok (.dup, 1) := by decide +kernel
theorem d_Law_law_4 : decode M_Law_law.2.1 4 = .ok (.aload_n 0, 1) := by decide +kernel
theorem d_Law_law_5 : decode M_Law_law.2.1 5 = .ok (.iconst 0, 1) := by decide +kernel
theorem d_Law_law_6 : decode M_Law_law.2.1 6 = .ok (.invokestatic 9, 3) := by decide +kernel
theorem d_Law_law_9 : decode M_Law_law.2.1 9 = .ok (.aload_n 0, 1) := by decide +kernel
theorem d_Law_law_10 : decode M_Law_law.2.1 10 = .ok (.iconst 1, 1) := by decide +kernel
theorem d_Law_law_11 : decode M_Law_law.2.1 11 = .ok (.invokestatic 9, 3) := by decide +kernel
theorem d_Law_law_14 : decode M_Law_law.2.1 14 = .ok (.invokespecial 15, 3) := by decide +kernel
theorem d_Law_law_17 : decode M_Law_law.2.1 17 = .ok (.astore_n 1, 1) := by decide +kernel
theorem d_Law_law_18 : decode M_Law_law.2.1 18 = .ok (.new 18, 3) := by decide +kernel
theorem d_Law_law_21 : decode M_Law_law.2.1 21 = .ok (.dup, 1) := by decide +kernel
theorem d_Law_law_22 : decode M_Law_law.2.1 22 = .ok (.aload_n 0, 1) := by decide +kernel
theorem d_Law_law_23 : decode M_Law_law.2.1 23 = .ok (.iconst 0, 1) := by decide +kernel
theorem d_Law_law_24 : decode M_Law_law.2.1 24 = .ok (.invokestatic 9, 3) := by decide +kernel
theorem d_Law_law_27 : decode M_Law_law.2.1 27 = .ok (.aload_n 0, 1) := by decide +kernel
theorem d_Law_law_28 : decode M_Law_law.2.1 28 = .ok (.iconst 1, 1) := by decide +kernel
theorem d_Law_law_29 : decode M_Law_law.2.1 29 = .ok (.invokestatic 9, 3) := by decide +kernel
theorem d_Law_law_32 : decode M_Law_law.2.1 32 = .ok (.invokespecial 20, 3) := by decide +kernel
theorem d_Law_law_35 : decode M_Law_law.2.1 35 = .ok (.astore_n 2, 1) := by decide +kernel
theorem d_Law_law_36 : decode M_Law_law.2.1 36 = .ok (.iconst 2, 1) := by decide +kernel
theorem d_Law_law_37 : decode M_Law_law.2.1 37 = .ok (.istore_n 3, 1) := by decide +kernel
theorem d_Law_law_38 : decode M_Law_law.2.1 38 = .ok (.iload_n 3, 1) := by decide +kernel
theorem d_Law_law_39 : decode M_Law_law.2.1 39 = .ok (.aload_n 0, 1) := by decide +kernel
theorem d_Law_law_40 : decode M_Law_law.2.1 40 = .ok (.arraylength, 1) := by decide +kernel
theorem d_Law_law_41 : decode M_Law_law.2.1 41 = .ok (.bipush 6, 2) := by decide +kernel
theorem d_Law_law_43 : decode M_Law_law.2.1 43 = .ok (.isub, 1) := by decide +kernel
theorem d_Law_law_44 : decode M_Law_law.2.1 44 = .ok (.if_icmp .gt 874, 3) := by decide +kernel
theorem d_Law_law_47 : decode M_Law_law.2.1 47 = .ok (.aload_n 0, 1) := by decide +kernel
theorem d_Law_law_48 : decode M_Law_law.2.1 48 = .ok (.iload_n 3, 1) := by decide +kernel
theorem d_Law_law_49 : decode M_Law_law.2.1 49 = .ok (.iaload, 1) := by decide +kernel
theorem d_Law_law_50 : decode M_Law_law.2.1 50 = .ok (.bipush 31, 2) := by decide +kernel
theorem d_Law_law_52 : decode M_Law_law.2.1 52 = .ok (.iand, 1) := by decide +kernel
theorem d_Law_law_53 : decode M_Law_law.2.1 53 = .ok (.tableswitch 859 0 19 #[95, 164, 187, 210, 243, 296, 349, 393, 436, 459, 522, 545, 568, 581, 614, 637, 690, 759, 793, 826], 95) := by decide +kernel
theorem d_Law_law_148 : decode M_Law_law.2.1 148 = .ok (.aload_n 1, 1) := by decide +kernel
theorem d_Law_law_149 : decode M_Law_law.2.1 149 = .ok (.aload_n 0, 1) := by decide +kernel
theorem d_Law_law_150 : decode M_Law_law.2.1 150 = .ok (.iload_n 3, 1) := by decide +kernel
theorem d_Law_law_151 : decode M_Law_law.2.1 151 = .ok (.iconst 1, 1) := by decide +kernel
theorem d_Law_law_152 : decode M_Law_law.2.1 152 = .ok (.iadd, 1) := by decide +kernel
theorem d_Law_law_153 : decode M_Law_law.2.1 153 = .ok (.iaload, 1) := by decide +kernel
theorem d_Law_law_154 : decode M_Law_law.2.1 154 = .ok (.aload_n 0, 1) := by decide +kernel
theorem d_Law_law_155 : decode M_Law_law.2.1 155 = .ok (.iload_n 3, 1) := by decide +kernel
theorem d_Law_law_156 : decode M_Law_law.2.1 156 = .ok (.iconst 2, 1) := by decide +kernel
theorem d_Law_law_157 : decode M_Law_law.2.1 157 = .ok (.iadd, 1) := by decide +kernel
theorem d_Law_law_158 : decode M_Law_law.2.1 158 = .ok (.iaload, 1) := by decide +kernel
theorem d_Law_law_159 : decode M_Law_law.2.1 159 = .ok (.ifCond .eq 7, 3) := by decide +kernel
theorem d_Law_law_162 : decode M_Law_law.2.1 162 = .ok (.iconst 1, 1) := by decide +kernel
theorem d_Law_law_163 : decode M_Law_law.2.1 163 = .ok (.goto 4, 3) := by decide +kernel
theorem d_Law_law_166 : decode M_Law_law.2.1 166 = .ok (.iconst 0, 1) := by decide +kernel
theorem d_Law_law_167 : decode M_Law_law.2.1 167 = .ok (.aload_n 0, 1) := by decide +kernel
theorem d_Law_law_168 : decode M_Law_law.2.1 168 = .ok (.iload_n 3, 1) := by decide +kernel
theorem d_Law_law_169 : decode M_Law_law.2.1 169 = .ok (.iconst 3, 1) := by decide +kernel
theorem d_Law_law_170 : decode M_Law_law.2.1 170 = .ok (.iadd, 1) := by decide +kernel
theorem d_Law_law_171 : decode M_Law_law.2.1 171 = .ok (.iaload, 1) := by decide +kernel
theorem d_Law_law_172 : decode M_Law_law.2.1 172 = .ok (.aload_n 0, 1) := by decide +kernel
theorem d_Law_law_173 : decode M_Law_law.2.1 173 = .ok (.iload_n 3, 1) := by decide +kernel
theorem d_Law_law_174 : decode M_Law_law.2.1 174 = .ok (.iconst 4, 1) := by decide +kernel
theorem d_Law_law_175 : decode M_Law_law.2.1 175 = .ok (.iadd, 1) := by decide +kernel
theorem d_Law_law_176 : decode M_Law_law.2.1 176 = .ok (.iaload, 1) := by decide +kernel
theorem d_Law_law_177 : decode M_Law_law.2.1 177 = .ok (.invokevirtual 21, 3) := by decide +kernel
theorem d_Law_law_180 : decode M_Law_law.2.1 180 = .ok (.aload_n 2, 1) := by decide +kernel
theorem d_Law_law_181 : decode M_Law_law.2.1 181 = .ok (.aload_n 0, 1) := by decide +kernel
theorem d_Law_law_182 : decode M_Law_law.2.1 182 = .ok (.iload_n 3, 1) := by decide +kernel
theorem d_Law_law_183 : decode M_Law_law.2.1 183 = .ok (.iconst 1, 1) := by decide +kernel
theorem d_Law_law_184 : decode M_Law_law.2.1 184 = .ok (.iadd, 1) := by decide +kernel
theorem d_Law_law_185 : decode M_Law_law.2.1 185 = .ok (.iaload, 1) := by decide +kernel
theorem d_Law_law_186 : decode M_Law_law.2.1 186 = .ok (.aload_n 0, 1) := by decide +kernel
theorem d_Law_law_187 : decode M_Law_law.2.1 187 = .ok (.iload_n 3, 1) := by decide +kernel
theorem d_Law_law_188 : decode M_Law_law.2.1 188 = .ok (.iconst 2, 1) := by decide +kernel
theorem d_Law_law_189 : decode M_Law_law.2.1 189 = .ok (.iadd, 1) := by decide +kernel
theorem d_Law_law_190 : decode M_Law_law.2.1 190 = .ok (.iaload, 1) := by decide +kernel
theorem d_Law_law_191 : decode M_Law_law.2.1 191 = .ok (.ifCond .eq 7, 3) := by decide +kernel
theorem d_Law_law_194 : decode M_Law_law.2.1 194 = .ok (.iconst 1, 1) := by decide +kernel
theorem d_Law_law_195 : decode M_Law_law.2.1 195 = .ok (.goto 4, 3) := by decide +kernel
theorem d_Law_law_198 : decode M_Law_law.2.1 198 = .ok (.iconst 0, 1) := by decide +kernel
theorem d_Law_law_199 : decode M_Law_law.2.1 199 = .ok (.aload_n 0, 1) := by decide +kernel
theorem d_Law_law_200 : decode M_Law_law.2.1 200 = .ok (.iload_n 3, 1) := by decide +kernel
theorem d_Law_law_201 : decode M_Law_law.2.1 201 = .ok (.iconst 3, 1) := by decide +kernel
theorem d_Law_law_202 : decode M_Law_law.2.1 202 = .ok (.iadd, 1) := by decide +kernel
theorem d_Law_law_203 : decode M_Law_law.2.1 203 = .ok (.iaload, 1) := by decide +kernel
theorem d_Law_law_204 : decode M_Law_law.2.1 204 = .ok (.aload_n 0, 1) := by decide +kernel
theorem d_Law_law_205 : decode M_Law_law.2.1 205 = .ok (.iload_n 3, 1) := by decide +kernel
theorem d_Law_law_206 : decode M_Law_law.2.1 206 = .ok (.iconst 4, 1) := by decide +kernel
theorem d_Law_law_207 : decode M_Law_law.2.1 207 = .ok (.iadd, 1) := by decide +kernel
theorem d_Law_law_208 : decode M_Law_law.2.1 208 = .ok (.iaload, 1) := by decide +kernel
theorem d_Law_law_209 : decode M_Law_law.2.1 209 = .ok (.invokevirtual 25, 3) := by decide +kernel
theorem d_Law_law_212 : decode M_Law_law.2.1 212 = .ok (.if_icmp .eq 700, 3) := by decide +kernel
theorem d_Law_law_215 : decode M_Law_law.2.1 215 = .ok (.iconst 0, 1) := by decide +kernel
theorem d_Law_law_216 : decode M_Law_law.2.1 216 = .ok (.ireturn, 1) := by decide +kernel
theorem d_Law_law_217 : decode M_Law_law.2.1 217 = .ok (.aload_n 1, 1) := by decide +kernel
theorem d_Law_law_218 : decode M_Law_law.2.1 218 = .ok (.aload_n 0, 1) := by decide +kernel
theorem d_Law_law_219 : decode M_Law_law.2.1 219 = .ok (.iload_n 3, 1) := by decide +kernel
theorem d_Law_law_220 : decode M_Law_law.2.1 220 = .ok (.iconst 1, 1) := by decide +kernel
theorem d_Law_law_221 : decode M_Law_law.2.1 221 = .ok (.iadd, 1) := by decide +kernel
theorem d_Law_law_222 : decode M_Law_law.2.1 222 = .ok (.iaload, 1) := by decide +kernel
theorem d_Law_law_223 : decode M_Law_law.2.1 223 = .ok (.invokevirtual 26, 3) := by decide +kernel
theorem d_Law_law_226 : decode M_Law_law.2.1 226 = .ok (.aload_n 2, 1) := by decide +kernel
theorem d_Law_law_227 : decode M_Law_law.2.1 227 = .ok (.aload_n 0, 1) := by decide +kernel
theorem d_Law_law_228 : decode M_Law_law.2.1 228 = .ok (.iload_n 3, 1) := by decide +kernel
theorem d_Law_law_229 : decode M_Law_law.2.1 229 = .ok (.iconst 1, 1) := by decide +kernel
theorem d_Law_law_230 : decode M_Law_law.2.1 230 = .ok (.iadd, 1) := by decide +kernel
theorem d_Law_law_231 : decode M_Law_law.2.1 231 = .ok (.iaload, 1) := by decide +kernel
theorem d_Law_law_232 : decode M_Law_law.2.1 232 = .ok (.invokevirtual 30, 3) := by decide +kernel
theorem d_Law_law_235 : decode M_Law_law.2.1 235 = .ok (.if_icmp .eq 677, 3) := by decide +kernel
theorem d_Law_law_238 : decode M_Law_law.2.1 238 = .ok (.iconst 0, 1) := by decide +kernel
theorem d_Law_law_239 : decode M_Law_law.2.1 239 = .ok (.ireturn, 1) := by decide +kernel
theorem d_Law_law_240 : decode M_Law_law.2.1 240 = .ok (.aload_n 1, 1) := by decide +kernel
theorem d_Law_law_241 : decode M_Law_law.2.1 241 = .ok (.aload_n 0, 1) := by decide +kernel
theorem d_Law_law_242 : decode M_Law_law.2.1 242 = .ok (.iload_n 3, 1) := by decide +kernel
theorem d_Law_law_243 : decode M_Law_law.2.1 243 = .ok (.iconst 1, 1) := by decide +kernel
theorem d_Law_law_244 : decode M_Law_law.2.1 244 = .ok (.iadd, 1) := by decide +kernel
theorem d_Law_law_245 : decode M_Law_law.2.1 245 = .ok (.iaload, 1) := by decide +kernel
theorem d_Law_law_246 : decode M_Law_law.2.1 246 = .ok (.invokevirtual 31, 3) := by decide +kernel
theorem d_Law_law_249 : decode M_Law_law.2.1 249 = .ok (.aload_n 2, 1) := by decide +kernel
theorem d_Law_law_250 : decode M_Law_law.2.1 250 = .ok (.aload_n 0, 1) := by decide +kernel
theorem d_Law_law_251 : decode M_Law_law.2.1 251 = .ok (.iload_n 3, 1) := by decide +kernel
theorem d_Law_law_252 : decode M_Law_law.2.1 252 = .ok (.iconst 1, 1) := by decide +kernel
theorem d_Law_law_253 : decode M_Law_law.2.1 253 = .ok (.iadd, 1) := by decide +kernel
theorem d_Law_law_254 : decode M_Law_law.2.1 254 = .ok (.iaload, 1) := by decide +kernel
theorem d_Law_law_255 : decode M_Law_law.2.1 255 = .ok (.invokevirtual 34, 3) := by decide +kernel
theorem d_Law_law_258 : decode M_Law_law.2.1 258 = .ok (.if_icmp .eq 654, 3) := by decide +kernel
theorem d_Law_law_261 : decode M_Law_law.2.1 261 = .ok (.iconst 0, 1) := by decide +kernel
theorem d_Law_law_262 : decode M_Law_law.2.1 262 = .ok (.ireturn, 1) := by decide +kernel
theorem d_Law_law_263 : decode M_Law_law.2.1 263 = .ok (.aload_n 1, 1) := by decide +kernel
theorem d_Law_law_264 : decode M_Law_law.2.1 264 = .ok (.aload_n 0, 1) := by decide +kernel
theorem d_Law_law_265 : decode M_Law_law.2.1 265 = .ok (.iload_n 3, 1) := by decide +kernel
theorem d_Law_law_266 : decode M_Law_law.2.1 266 = .ok (.iconst 1, 1) := by decide +kernel
theorem d_Law_law_267 : decode M_Law_law.2.1 267 = .ok (.iadd, 1) := by decide +kernel
theorem d_Law_law_268 : decode M_Law_law.2.1 268 = .ok (.iaload, 1) := by decide +kernel
theorem d_Law_law_269 : decode M_Law_law.2.1 269 = .ok (.aload_n 0, 1) := by decide +kernel
theorem d_Law_law_270 : decode M_Law_law.2.1 270 = .ok (.iload_n 3, 1) := by decide +kernel
theorem d_Law_law_271 : decode M_Law_law.2.1 271 = .ok (.iconst 2, 1) := by decide +kernel
theorem d_Law_law_272 : decode M_Law_law.2.1 272 = .ok (.iadd, 1) := by decide +kernel
theorem d_Law_law_273 : decode M_Law_law.2.1 273 = .ok (.iaload, 1) := by decide +kernel
theorem d_Law_law_274 : decode M_Law_law.2.1 274 = .ok (.invokevirtual 35, 3) := by decide +kernel
theorem d_Law_law_277 : decode M_Law_law.2.1 277 = .ok (.aload_n 2, 1) := by decide +kernel
theorem d_Law_law_278 : decode M_Law_law.2.1 278 = .ok (.aload_n 0, 1) := by decide +kernel
theorem d_Law_law_279 : decode M_Law_law.2.1 279 = .ok (.iload_n 3, 1) := by decide +kernel
theorem d_Law_law_280 : decode M_Law_law.2.1 280 = .ok (.iconst 1, 1) := by decide +kernel
theorem d_Law_law_281 : decode M_Law_law.2.1 281 = .ok (.iadd, 1) := by decide +kernel
theorem d_Law_law_282 : decode M_Law_law.2.1 282 = .ok (.iaload, 1) := by decide +kernel
theorem d_Law_law_283 : decode M_Law_law.2.1 283 = .ok (.aload_n 0, 1) := by decide +kernel
theorem d_Law_law_284 : decode M_Law_law.2.1 284 = .ok (.iload_n 3, 1) := by decide +kernel
theorem d_Law_law_285 : decode M_Law_law.2.1 285 = .ok (.iconst 2, 1) := by decide +kernel
theorem d_Law_law_286 : decode M_Law_law.2.1 286 = .ok (.iadd, 1) := by decide +kernel
theorem d_Law_law_287 : decode M_Law_law.2.1 287 = .ok (.iaload, 1) := by decide +kernel
theorem d_Law_law_288 : decode M_Law_law.2.1 288 = .ok (.invokevirtual 39, 3) := by decide +kernel
theorem d_Law_law_291 : decode M_Law_law.2.1 291 = .ok (.if_icmp .eq 621, 3) := by decide +kernel
theorem d_Law_law_294 : decode M_Law_law.2.1 294 = .ok (.iconst 0, 1) := by decide +kernel
theorem d_Law_law_295 : decode M_Law_law.2.1 295 = .ok (.ireturn, 1) := by decide +kernel
theorem d_Law_law_296 : decode M_Law_law.2.1 296 = .ok (.aload_n 1, 1) := by decide +kernel
theorem d_Law_law_297 : decode M_Law_law.2.1 297 = .ok (.aload_n 0, 1) := by decide +kernel
theorem d_Law_law_298 : decode M_Law_law.2.1 298 = .ok (.iload_n 3, 1) := by decide +kernel
theorem d_Law_law_299 : decode M_Law_law.2.1 299 = .ok (.iconst 1, 1) := by decide +kernel
theorem d_Law_law_300 : decode M_Law_law.2.1 300 = .ok (.iadd, 1) := by decide +kernel
theorem d_Law_law_301 : decode M_Law_law.2.1 301 = .ok (.iaload, 1) := by decide +kernel
theorem d_Law_law_302 : decode M_Law_law.2.1 302 = .ok (.aload_n 0, 1) := by decide +kernel
theorem d_Law_law_303 : decode M_Law_law.2.1 303 = .ok (.iload_n 3, 1) := by decide +kernel
theorem d_Law_law_304 : decode M_Law_law.2.1 304 = .ok (.iconst 2, 1) := by decide +kernel
theorem d_Law_law_305 : decode M_Law_law.2.1 305 = .ok (.iadd, 1) := by decide +kernel
theorem d_Law_law_306 : decode M_Law_law.2.1 306 = .ok (.iaload, 1) := by decide +kernel
theorem d_Law_law_307 : decode M_Law_law.2.1 307 = .ok (.aload_n 0, 1) := by decide +kernel
theorem d_Law_law_308 : decode M_Law_law.2.1 308 = .ok (.iload_n 3, 1) := by decide +kernel
theorem d_Law_law_309 : decode M_Law_law.2.1 309 = .ok (.iconst 3, 1) := by decide +kernel
theorem d_Law_law_310 : decode M_Law_law.2.1 310 = .ok (.iadd, 1) := by decide +kernel
theorem d_Law_law_311 : decode M_Law_law.2.1 311 = .ok (.iaload, 1) := by decide +kernel
theorem d_Law_law_312 : decode M_Law_law.2.1 312 = .ok (.aload_n 0, 1) := by decide +kernel
theorem d_Law_law_313 : decode M_Law_law.2.1 313 = .ok (.iload_n 3, 1) := by decide +kernel
theorem d_Law_law_314 : decode M_Law_law.2.1 314 = .ok (.iconst 4, 1) := by decide +kernel
theorem d_Law_law_315 : decode M_Law_law.2.1 315 = .ok (.iadd, 1) := by decide +kernel
theorem d_Law_law_316 : decode M_Law_law.2.1 316 = .ok (.iaload, 1) := by decide +kernel
theorem d_Law_law_317 : decode M_Law_law.2.1 317 = .ok (.invokevirtual 40, 3) := by decide +kernel
theorem d_Law_law_320 : decode M_Law_law.2.1 320 = .ok (.aload_n 2, 1) := by decide +kernel
theorem d_Law_law_321 : decode M_Law_law.2.1 321 = .ok (.aload_n 0, 1) := by decide +kernel
theorem d_Law_law_322 : decode M_Law_law.2.1 322 = .ok (.iload_n 3, 1) := by decide +kernel
theorem d_Law_law_323 : decode M_Law_law.2.1 323 = .ok (.iconst 1, 1) := by decide +kernel
theorem d_Law_law_324 : decode M_Law_law.2.1 324 = .ok (.iadd, 1) := by decide +kernel
theorem d_Law_law_325 : decode M_Law_law.2.1 325 = .ok (.iaload, 1) := by decide +kernel
theorem d_Law_law_326 : decode M_Law_law.2.1 326 = .ok (.aload_n 0, 1) := by decide +kernel
theorem d_Law_law_327 : decode M_Law_law.2.1 327 = .ok (.iload_n 3, 1) := by decide +kernel
theorem d_Law_law_328 : decode M_Law_law.2.1 328 = .ok (.iconst 2, 1) := by decide +kernel
theorem d_Law_law_329 : decode M_Law_law.2.1 329 = .ok (.iadd, 1) := by decide +kernel
theorem d_Law_law_330 : decode M_Law_law.2.1 330 = .ok (.iaload, 1) := by decide +kernel
theorem d_Law_law_331 : decode M_Law_law.2.1 331 = .ok (.aload_n 0, 1) := by decide +kernel
theorem d_Law_law_332 : decode M_Law_law.2.1 332 = .ok (.iload_n 3, 1) := by decide +kernel
theorem d_Law_law_333 : decode M_Law_law.2.1 333 = .ok (.iconst 3, 1) := by decide +kernel
theorem d_Law_law_334 : decode M_Law_law.2.1 334 = .ok (.iadd, 1) := by decide +kernel
theorem d_Law_law_335 : decode M_Law_law.2.1 335 = .ok (.iaload, 1) := by decide +kernel
theorem d_Law_law_336 : decode M_Law_law.2.1 336 = .ok (.aload_n 0, 1) := by decide +kernel
theorem d_Law_law_337 : decode M_Law_law.2.1 337 = .ok (.iload_n 3, 1) := by decide +kernel
theorem d_Law_law_338 : decode M_Law_law.2.1 338 = .ok (.iconst 4, 1) := by decide +kernel
theorem d_Law_law_339 : decode M_Law_law.2.1 339 = .ok (.iadd, 1) := by decide +kernel
theorem d_Law_law_340 : decode M_Law_law.2.1 340 = .ok (.iaload, 1) := by decide +kernel
theorem d_Law_law_341 : decode M_Law_law.2.1 341 = .ok (.invokevirtual 44, 3) := by decide +kernel
theorem d_Law_law_344 : decode M_Law_law.2.1 344 = .ok (.if_icmp .eq 568, 3) := by decide +kernel
theorem d_Law_law_347 : decode M_Law_law.2.1 347 = .ok (.iconst 0, 1) := by decide +kernel
theorem d_Law_law_348 : decode M_Law_law.2.1 348 = .ok (.ireturn, 1) := by decide +kernel
theorem d_Law_law_349 : decode M_Law_law.2.1 349 = .ok (.aload_n 1, 1) := by decide +kernel
theorem d_Law_law_350 : decode M_Law_law.2.1 350 = .ok (.aload_n 0, 1) := by decide +kernel
theorem d_Law_law_351 : decode M_Law_law.2.1 351 = .ok (.iload_n 3, 1) := by decide +kernel
theorem d_Law_law_352 : decode M_Law_law.2.1 352 = .ok (.iconst 1, 1) := by decide +kernel
theorem d_Law_law_353 : decode M_Law_law.2.1 353 = .ok (.iadd, 1) := by decide +kernel
theorem d_Law_law_354 : decode M_Law_law.2.1 354 = .ok (.iaload, 1) := by decide +kernel
theorem d_Law_law_355 : decode M_Law_law.2.1 355 = .ok (.aload_n 0, 1) := by decide +kernel
theorem d_Law_law_356 : decode M_Law_law.2.1 356 = .ok (.iload_n 3, 1) := by decide +kernel
theorem d_Law_law_357 : decode M_Law_law.2.1 357 = .ok (.iconst 2, 1) := by decide +kernel
theorem d_Law_law_358 : decode M_Law_law.2.1 358 = .ok (.iadd, 1) := by decide +kernel
theorem d_Law_law_359 : decode M_Law_law.2.1 359 = .ok (.iaload, 1) := by decide +kernel
theorem d_Law_law_360 : decode M_Law_law.2.1 360 = .ok (.aload_n 0, 1) := by decide +kernel
theorem d_Law_law_361 : decode M_Law_law.2.1 361 = .ok (.iload_n 3, 1) := by decide +kernel
theorem d_Law_law_362 : decode M_Law_law.2.1 362 = .ok (.iconst 3, 1) := by decide +kernel
theorem d_Law_law_363 : decode M_Law_law.2.1 363 = .ok (.iadd, 1) := by decide +kernel
theorem d_Law_law_364 : decode M_Law_law.2.1 364 = .ok (.iaload, 1) := by decide +kernel
theorem d_Law_law_365 : decode M_Law_law.2.1 365 = .ok (.aload_n 0, 1) := by decide +kernel
theorem d_Law_law_366 : decode M_Law_law.2.1 366 = .ok (.iload_n 3, 1) := by decide +kernel
theorem d_Law_law_367 : decode M_Law_law.2.1 367 = .ok (.iconst 4, 1) := by decide +kernel
theorem d_Law_law_368 : decode M_Law_law.2.1 368 = .ok (.iadd, 1) := by decide +kernel
theorem d_Law_law_369 : decode M_Law_law.2.1 369 = .ok (.iaload, 1) := by decide +kernel
theorem d_Law_law_370 : decode M_Law_law.2.1 370 = .ok (.invokevirtual 45, 3) := by decide +kernel
theorem d_Law_law_373 : decode M_Law_law.2.1 373 = .ok (.aload_n 2, 1) := by decide +kernel
theorem d_Law_law_374 : decode M_Law_law.2.1 374 = .ok (.aload_n 0, 1) := by decide +kernel
theorem d_Law_law_375 : decode M_Law_law.2.1 375 = .ok (.iload_n 3, 1) := by decide +kernel
theorem d_Law_law_376 : decode M_Law_law.2.1 376 = .ok (.iconst 1, 1) := by decide +kernel
theorem d_Law_law_377 : decode M_Law_law.2.1 377 = .ok (.iadd, 1) := by decide +kernel
theorem d_Law_law_378 : decode M_Law_law.2.1 378 = .ok (.iaload, 1) := by decide +kernel
theorem d_Law_law_379 : decode M_Law_law.2.1 379 = .ok (.aload_n 0, 1) := by decide +kernel
theorem d_Law_law_380 : decode M_Law_law.2.1 380 = .ok (.iload_n 3, 1) := by decide +kernel
theorem d_Law_law_381 : decode M_Law_law.2.1 381 = .ok (.iconst 2, 1) := by decide +kernel
theorem d_Law_law_382 : decode M_Law_law.2.1 382 = .ok (.iadd, 1) := by decide +kernel
theorem d_Law_law_383 : decode M_Law_law.2.1 383 = .ok (.iaload, 1) := by decide +kernel
theorem d_Law_law_384 : decode M_Law_law.2.1 384 = .ok (.aload_n 0, 1) := by decide +kernel
theorem d_Law_law_385 : decode M_Law_law.2.1 385 = .ok (.iload_n 3, 1) := by decide +kernel
theorem d_Law_law_386 : decode M_Law_law.2.1 386 = .ok (.iconst 3, 1) := by decide +kernel
theorem d_Law_law_387 : decode M_Law_law.2.1 387 = .ok (.iadd, 1) := by decide +kernel
theorem d_Law_law_388 : decode M_Law_law.2.1 388 = .ok (.iaload, 1) := by decide +kernel
theorem d_Law_law_389 : decode M_Law_law.2.1 389 = .ok (.aload_n 0, 1) := by decide +kernel
theorem d_Law_law_390 : decode M_Law_law.2.1 390 = .ok (.iload_n 3, 1) := by decide +kernel
theorem d_Law_law_391 : decode M_Law_law.2.1 391 = .ok (.iconst 4, 1) := by decide +kernel
theorem d_Law_law_392 : decode M_Law_law.2.1 392 = .ok (.iadd, 1) := by decide +kernel
theorem d_Law_law_393 : decode M_Law_law.2.1 393 = .ok (.iaload, 1) := by decide +kernel
theorem d_Law_law_394 : decode M_Law_law.2.1 394 = .ok (.invokevirtual 48, 3) := by decide +kernel
theorem d_Law_law_397 : decode M_Law_law.2.1 397 = .ok (.if_icmp .eq 515, 3) := by decide +kernel
theorem d_Law_law_400 : decode M_Law_law.2.1 400 = .ok (.iconst 0, 1) := by decide +kernel
theorem d_Law_law_401 : decode M_Law_law.2.1 401 = .ok (.ireturn, 1) := by decide +kernel
theorem d_Law_law_402 : decode M_Law_law.2.1 402 = .ok (.aload_n 1, 1) := by decide +kernel
theorem d_Law_law_403 : decode M_Law_law.2.1 403 = .ok (.aload_n 0, 1) := by decide +kernel
theorem d_Law_law_404 : decode M_Law_law.2.1 404 = .ok (.iload_n 3, 1) := by decide +kernel
theorem d_Law_law_405 : decode M_Law_law.2.1 405 = .ok (.iconst 1, 1) := by decide +kernel
theorem d_Law_law_406 : decode M_Law_law.2.1 406 = .ok (.iadd, 1) := by decide +kernel
theorem d_Law_law_407 : decode M_Law_law.2.1 407 = .ok (.iaload, 1) := by decide +kernel
theorem d_Law_law_408 : decode M_Law_law.2.1 408 = .ok (.aload_n 0, 1) := by decide +kernel
theorem d_Law_law_409 : decode M_Law_law.2.1 409 = .ok (.iload_n 3, 1) := by decide +kernel
theorem d_Law_law_410 : decode M_Law_law.2.1 410 = .ok (.iconst 2, 1) := by decide +kernel
theorem d_Law_law_411 : decode M_Law_law.2.1 411 = .ok (.iadd, 1) := by decide +kernel
theorem d_Law_law_412 : decode M_Law_law.2.1 412 = .ok (.iaload, 1) := by decide +kernel
theorem d_Law_law_413 : decode M_Law_law.2.1 413 = .ok (.aload_n 0, 1) := by decide +kernel
theorem d_Law_law_414 : decode M_Law_law.2.1 414 = .ok (.iload_n 3, 1) := by decide +kernel
theorem d_Law_law_415 : decode M_Law_law.2.1 415 = .ok (.iconst 3, 1) := by decide +kernel
theorem d_Law_law_416 : decode M_Law_law.2.1 416 = .ok (.iadd, 1) := by decide +kernel
theorem d_Law_law_417 : decode M_Law_law.2.1 417 = .ok (.iaload, 1) := by decide +kernel
theorem d_Law_law_418 : decode M_Law_law.2.1 418 = .ok (.invokevirtual 49, 3) := by decide +kernel
theorem d_Law_law_421 : decode M_Law_law.2.1 421 = .ok (.aload_n 2, 1) := by decide +kernel
theorem d_Law_law_422 : decode M_Law_law.2.1 422 = .ok (.aload_n 0, 1) := by decide +kernel
theorem d_Law_law_423 : decode M_Law_law.2.1 423 = .ok (.iload_n 3, 1) := by decide +kernel
theorem d_Law_law_424 : decode M_Law_law.2.1 424 = .ok (.iconst 1, 1) := by decide +kernel
theorem d_Law_law_425 : decode M_Law_law.2.1 425 = .ok (.iadd, 1) := by decide +kernel
theorem d_Law_law_426 : decode M_Law_law.2.1 426 = .ok (.iaload, 1) := by decide +kernel
theorem d_Law_law_427 : decode M_Law_law.2.1 427 = .ok (.aload_n 0, 1) := by decide +kernel
theorem d_Law_law_428 : decode M_Law_law.2.1 428 = .ok (.iload_n 3, 1) := by decide +kernel
theorem d_Law_law_429 : decode M_Law_law.2.1 429 = .ok (.iconst 2, 1) := by decide +kernel
theorem d_Law_law_430 : decode M_Law_law.2.1 430 = .ok (.iadd, 1) := by decide +kernel
theorem d_Law_law_431 : decode M_Law_law.2.1 431 = .ok (.iaload, 1) := by decide +kernel
theorem d_Law_law_432 : decode M_Law_law.2.1 432 = .ok (.aload_n 0, 1) := by decide +kernel
theorem d_Law_law_433 : decode M_Law_law.2.1 433 = .ok (.iload_n 3, 1) := by decide +kernel
theorem d_Law_law_434 : decode M_Law_law.2.1 434 = .ok (.iconst 3, 1) := by decide +kernel
theorem d_Law_law_435 : decode M_Law_law.2.1 435 = .ok (.iadd, 1) := by decide +kernel
theorem d_Law_law_436 : decode M_Law_law.2.1 436 = .ok (.iaload, 1) := by decide +kernel
theorem d_Law_law_437 : decode M_Law_law.2.1 437 = .ok (.invokevirtual 53, 3) := by decide +kernel
theorem d_Law_law_440 : decode M_Law_law.2.1 440 = .ok (.lcmp, 1) := by decide +kernel
theorem d_Law_law_441 : decode M_Law_law.2.1 441 = .ok (.ifCond .eq 471, 3) := by decide +kernel
theorem d_Law_law_444 : decode M_Law_law.2.1 444 = .ok (.iconst 0, 1) := by decide +kernel
theorem d_Law_law_445 : decode M_Law_law.2.1 445 = .ok (.ireturn, 1) := by decide +kernel
theorem d_Law_law_446 : decode M_Law_law.2.1 446 = .ok (.aload_n 1, 1) := by decide +kernel
theorem d_Law_law_447 : decode M_Law_law.2.1 447 = .ok (.aload_n 0, 1) := by decide +kernel
theorem d_Law_law_448 : decode M_Law_law.2.1 448 = .ok (.iload_n 3, 1) := by decide +kernel
theorem d_Law_law_449 : decode M_Law_law.2.1 449 = .ok (.iconst 1, 1) := by decide +kernel
theorem d_Law_law_450 : decode M_Law_law.2.1 450 = .ok (.iadd, 1) := by decide +kernel
theorem d_Law_law_451 : decode M_Law_law.2.1 451 = .ok (.iaload, 1) := by decide +kernel
theorem d_Law_law_452 : decode M_Law_law.2.1 452 = .ok (.aload_n 0, 1) := by decide +kernel
theorem d_Law_law_453 : decode M_Law_law.2.1 453 = .ok (.iload_n 3, 1) := by decide +kernel
theorem d_Law_law_454 : decode M_Law_law.2.1 454 = .ok (.iconst 2, 1) := by decide +kernel
theorem d_Law_law_455 : decode M_Law_law.2.1 455 = .ok (.iadd, 1) := by decide +kernel
theorem d_Law_law_456 : decode M_Law_law.2.1 456 = .ok (.iaload, 1) := by decide +kernel
theorem d_Law_law_457 : decode M_Law_law.2.1 457 = .ok (.aload_n 0, 1) := by decide +kernel
theorem d_Law_law_458 : decode M_Law_law.2.1 458 = .ok (.iload_n 3, 1) := by decide +kernel
theorem d_Law_law_459 : decode M_Law_law.2.1 459 = .ok (.iconst 3, 1) := by decide +kernel
theorem d_Law_law_460 : decode M_Law_law.2.1 460 = .ok (.iadd, 1) := by decide +kernel
theorem d_Law_law_461 : decode M_Law_law.2.1 461 = .ok (.iaload, 1) := by decide +kernel
theorem d_Law_law_462 : decode M_Law_law.2.1 462 = .ok (.invokevirtual 54, 3) := by decide +kernel
theorem d_Law_law_465 : decode M_Law_law.2.1 465 = .ok (.aload_n 2, 1) := by decide +kernel
theorem d_Law_law_466 : decode M_Law_law.2.1 466 = .ok (.aload_n 0, 1) := by decide +kernel
theorem d_Law_law_467 : decode M_Law_law.2.1 467 = .ok (.iload_n 3, 1) := by decide +kernel
theorem d_Law_law_468 : decode M_Law_law.2.1 468 = .ok (.iconst 1, 1) := by decide +kernel
theorem d_Law_law_469 : decode M_Law_law.2.1 469 = .ok (.iadd, 1) := by decide +kernel
theorem d_Law_law_470 : decode M_Law_law.2.1 470 = .ok (.iaload, 1) := by decide +kernel
theorem d_Law_law_471 : decode M_Law_law.2.1 471 = .ok (.aload_n 0, 1) := by decide +kernel
theorem d_Law_law_472 : decode M_Law_law.2.1 472 = .ok (.iload_n 3, 1) := by decide +kernel
theorem d_Law_law_473 : decode M_Law_law.2.1 473 = .ok (.iconst 2, 1) := by decide +kernel
theorem d_Law_law_474 : decode M_Law_law.2.1 474 = .ok (.iadd, 1) := by decide +kernel
theorem d_Law_law_475 : decode M_Law_law.2.1 475 = .ok (.iaload, 1) := by decide +kernel
theorem d_Law_law_476 : decode M_Law_law.2.1 476 = .ok (.aload_n 0, 1) := by decide +kernel
theorem d_Law_law_477 : decode M_Law_law.2.1 477 = .ok (.iload_n 3, 1) := by decide +kernel
theorem d_Law_law_478 : decode M_Law_law.2.1 478 = .ok (.iconst 3, 1) := by decide +kernel
theorem d_Law_law_479 : decode M_Law_law.2.1 479 = .ok (.iadd, 1) := by decide +kernel
theorem d_Law_law_480 : decode M_Law_law.2.1 480 = .ok (.iaload, 1) := by decide +kernel
theorem d_Law_law_481 : decode M_Law_law.2.1 481 = .ok (.invokevirtual 58, 3) := by decide +kernel
theorem d_Law_law_484 : decode M_Law_law.2.1 484 = .ok (.if_icmp .eq 428, 3) := by decide +kernel
theorem d_Law_law_487 : decode M_Law_law.2.1 487 = .ok (.iconst 0, 1) := by decide +kernel
theorem d_Law_law_488 : decode M_Law_law.2.1 488 = .ok (.ireturn, 1) := by decide +kernel
theorem d_Law_law_489 : decode M_Law_law.2.1 489 = .ok (.aload_n 1, 1) := by decide +kernel
theorem d_Law_law_490 : decode M_Law_law.2.1 490 = .ok (.aload_n 0, 1) := by decide +kernel
theorem d_Law_law_491 : decode M_Law_law.2.1 491 = .ok (.iload_n 3, 1) := by decide +kernel
theorem d_Law_law_492 : decode M_Law_law.2.1 492 = .ok (.iconst 1, 1) := by decide +kernel
theorem d_Law_law_493 : decode M_Law_law.2.1 493 = .ok (.iadd, 1) := by decide +kernel
theorem d_Law_law_494 : decode M_Law_law.2.1 494 = .ok (.iaload, 1) := by decide +kernel
theorem d_Law_law_495 : decode M_Law_law.2.1 495 = .ok (.invokevirtual 59, 3) := by decide +kernel
theorem d_Law_law_498 : decode M_Law_law.2.1 498 = .ok (.aload_n 2, 1) := by decide +kernel
theorem d_Law_law_499 : decode M_Law_law.2.1 499 = .ok (.aload_n 0, 1) := by decide +kernel
theorem d_Law_law_500 : decode M_Law_law.2.1 500 = .ok (.iload_n 3, 1) := by decide +kernel
theorem d_Law_law_501 : decode M_Law_law.2.1 501 = .ok (.iconst 1, 1) := by decide +kernel
theorem d_Law_law_502 : decode M_Law_law.2.1 502 = .ok (.iadd, 1) := by decide +kernel
theorem d_Law_law_503 : decode M_Law_law.2.1 503 = .ok (.iaload, 1) := by decide +kernel
theorem d_Law_law_504 : decode M_Law_law.2.1 504 = .ok (.invokevirtual 62, 3) := by decide +kernel
theorem d_Law_law_507 : decode M_Law_law.2.1 507 = .ok (.if_icmp .eq 405, 3) := by decide +kernel
theorem d_Law_law_510 : decode M_Law_law.2.1 510 = .ok (.iconst 0, 1) := by decide +kernel
theorem d_Law_law_511 : decode M_Law_law.2.1 511 = .ok (.ireturn, 1) := by decide +kernel
theorem d_Law_law_512 : decode M_Law_law.2.1 512 = .ok (.aload_n 1, 1) := by decide +kernel
theorem d_Law_law_513 : decode M_Law_law.2.1 513 = .ok (.aload_n 0, 1) := by decide +kernel
theorem d_Law_law_514 : decode M_Law_law.2.1 514 = .ok (.iload_n 3, 1) := by decide +kernel
theorem d_Law_law_515 : decode M_Law_law.2.1 515 = .ok (.iconst 1, 1) := by decide +kernel
theorem d_Law_law_516 : decode M_Law_law.2.1 516 = .ok (.iadd, 1) := by decide +kernel
theorem d_Law_law_517 : decode M_Law_law.2.1 517 = .ok (.iaload, 1) := by decide +kernel
theorem d_Law_law_518 : decode M_Law_law.2.1 518 = .ok (.aload_n 0, 1) := by decide +kernel
theorem d_Law_law_519 : decode M_Law_law.2.1 519 = .ok (.iload_n 3, 1) := by decide +kernel
theorem d_Law_law_520 : decode M_Law_law.2.1 520 = .ok (.iconst 2, 1) := by decide +kernel
theorem d_Law_law_521 : decode M_Law_law.2.1 521 = .ok (.iadd, 1) := by decide +kernel
theorem d_Law_law_522 : decode M_Law_law.2.1 522 = .ok (.iaload, 1) := by decide +kernel
theorem d_Law_law_523 : decode M_Law_law.2.1 523 = .ok (.aload_n 0, 1) := by decide +kernel
theorem d_Law_law_524 : decode M_Law_law.2.1 524 = .ok (.iload_n 3, 1) := by decide +kernel
theorem d_Law_law_525 : decode M_Law_law.2.1 525 = .ok (.iconst 3, 1) := by decide +kernel
theorem d_Law_law_526 : decode M_Law_law.2.1 526 = .ok (.iadd, 1) := by decide +kernel
theorem d_Law_law_527 : decode M_Law_law.2.1 527 = .ok (.iaload, 1) := by decide +kernel
theorem d_Law_law_528 : decode M_Law_law.2.1 528 = .ok (.aload_n 0, 1) := by decide +kernel
theorem d_Law_law_529 : decode M_Law_law.2.1 529 = .ok (.iload_n 3, 1) := by decide +kernel
theorem d_Law_law_530 : decode M_Law_law.2.1 530 = .ok (.iconst 4, 1) := by decide +kernel
theorem d_Law_law_531 : decode M_Law_law.2.1 531 = .ok (.iadd, 1) := by decide +kernel
theorem d_Law_law_532 : decode M_Law_law.2.1 532 = .ok (.iaload, 1) := by decide +kernel
theorem d_Law_law_533 : decode M_Law_law.2.1 533 = .ok (.aload_n 0, 1) := by decide +kernel
theorem d_Law_law_534 : decode M_Law_law.2.1 534 = .ok (.iload_n 3, 1) := by decide +kernel
theorem d_Law_law_535 : decode M_Law_law.2.1 535 = .ok (.iconst 5, 1) := by decide +kernel
theorem d_Law_law_536 : decode M_Law_law.2.1 536 = .ok (.iadd, 1) := by decide +kernel
theorem d_Law_law_537 : decode M_Law_law.2.1 537 = .ok (.iaload, 1) := by decide +kernel
theorem d_Law_law_538 : decode M_Law_law.2.1 538 = .ok (.invokevirtual 63, 3) := by decide +kernel
theorem d_Law_law_541 : decode M_Law_law.2.1 541 = .ok (.aload_n 2, 1) := by decide +kernel
theorem d_Law_law_542 : decode M_Law_law.2.1 542 = .ok (.aload_n 0, 1) := by decide +kernel
theorem d_Law_law_543 : decode M_Law_law.2.1 543 = .ok (.iload_n 3, 1) := by decide +kernel
theorem d_Law_law_544 : decode M_Law_law.2.1 544 = .ok (.iconst 1, 1) := by decide +kernel
theorem d_Law_law_545 : decode M_Law_law.2.1 545 = .ok (.iadd, 1) := by decide +kernel
theorem d_Law_law_546 : decode M_Law_law.2.1 546 = .ok (.iaload, 1) := by decide +kernel
theorem d_Law_law_547 : decode M_Law_law.2.1 547 = .ok (.aload_n 0, 1) := by decide +kernel
theorem d_Law_law_548 : decode M_Law_law.2.1 548 = .ok (.iload_n 3, 1) := by decide +kernel
theorem d_Law_law_549 : decode M_Law_law.2.1 549 = .ok (.iconst 2, 1) := by decide +kernel
theorem d_Law_law_550 : decode M_Law_law.2.1 550 = .ok (.iadd, 1) := by decide +kernel
theorem d_Law_law_551 : decode M_Law_law.2.1 551 = .ok (.iaload, 1) := by decide +kernel
theorem d_Law_law_552 : decode M_Law_law.2.1 552 = .ok (.aload_n 0, 1) := by decide +kernel
theorem d_Law_law_553 : decode M_Law_law.2.1 553 = .ok (.iload_n 3, 1) := by decide +kernel
theorem d_Law_law_554 : decode M_Law_law.2.1 554 = .ok (.iconst 3, 1) := by decide +kernel
theorem d_Law_law_555 : decode M_Law_law.2.1 555 = .ok (.iadd, 1) := by decide +kernel
theorem d_Law_law_556 : decode M_Law_law.2.1 556 = .ok (.iaload, 1) := by decide +kernel
theorem d_Law_law_557 : decode M_Law_law.2.1 557 = .ok (.aload_n 0, 1) := by decide +kernel
theorem d_Law_law_558 : decode M_Law_law.2.1 558 = .ok (.iload_n 3, 1) := by decide +kernel
theorem d_Law_law_559 : decode M_Law_law.2.1 559 = .ok (.iconst 4, 1) := by decide +kernel
theorem d_Law_law_560 : decode M_Law_law.2.1 560 = .ok (.iadd, 1) := by decide +kernel
theorem d_Law_law_561 : decode M_Law_law.2.1 561 = .ok (.iaload, 1) := by decide +kernel
theorem d_Law_law_562 : decode M_Law_law.2.1 562 = .ok (.aload_n 0, 1) := by decide +kernel
theorem d_Law_law_563 : decode M_Law_law.2.1 563 = .ok (.iload_n 3, 1) := by decide +kernel
theorem d_Law_law_564 : decode M_Law_law.2.1 564 = .ok (.iconst 5, 1) := by decide +kernel
theorem d_Law_law_565 : decode M_Law_law.2.1 565 = .ok (.iadd, 1) := by decide +kernel
theorem d_Law_law_566 : decode M_Law_law.2.1 566 = .ok (.iaload, 1) := by decide +kernel
theorem d_Law_law_567 : decode M_Law_law.2.1 567 = .ok (.invokevirtual 67, 3) := by decide +kernel
theorem d_Law_law_570 : decode M_Law_law.2.1 570 = .ok (.if_icmp .eq 342, 3) := by decide +kernel
theorem d_Law_law_573 : decode M_Law_law.2.1 573 = .ok (.iconst 0, 1) := by decide +kernel
theorem d_Law_law_574 : decode M_Law_law.2.1 574 = .ok (.ireturn, 1) := by decide +kernel
theorem d_Law_law_575 : decode M_Law_law.2.1 575 = .ok (.aload_n 1, 1) := by decide +kernel
theorem d_Law_law_576 : decode M_Law_law.2.1 576 = .ok (.aload_n 0, 1) := by decide +kernel
theorem d_Law_law_577 : decode M_Law_law.2.1 577 = .ok (.iload_n 3, 1) := by decide +kernel
theorem d_Law_law_578 : decode M_Law_law.2.1 578 = .ok (.iconst 1, 1) := by decide +kernel
theorem d_Law_law_579 : decode M_Law_law.2.1 579 = .ok (.iadd, 1) := by decide +kernel
theorem d_Law_law_580 : decode M_Law_law.2.1 580 = .ok (.iaload, 1) := by decide +kernel
theorem d_Law_law_581 : decode M_Law_law.2.1 581 = .ok (.invokevirtual 68, 3) := by decide +kernel
theorem d_Law_law_584 : decode M_Law_law.2.1 584 = .ok (.aload_n 2, 1) := by decide +kernel
theorem d_Law_law_585 : decode M_Law_law.2.1 585 = .ok (.aload_n 0, 1) := by decide +kernel
theorem d_Law_law_586 : decode M_Law_law.2.1 586 = .ok (.iload_n 3, 1) := by decide +kernel
theorem d_Law_law_587 : decode M_Law_law.2.1 587 = .ok (.iconst 1, 1) := by decide +kernel
theorem d_Law_law_588 : decode M_Law_law.2.1 588 = .ok (.iadd, 1) := by decide +kernel
theorem d_Law_law_589 : decode M_Law_law.2.1 589 = .ok (.iaload, 1) := by decide +kernel
theorem d_Law_law_590 : decode M_Law_law.2.1 590 = .ok (.invokevirtual 71, 3) := by decide +kernel
theorem d_Law_law_593 : decode M_Law_law.2.1 593 = .ok (.if_icmp .eq 319, 3) := by decide +kernel
theorem d_Law_law_596 : decode M_Law_law.2.1 596 = .ok (.iconst 0, 1) := by decide +kernel
theorem d_Law_law_597 : decode M_Law_law.2.1 597 = .ok (.ireturn, 1) := by decide +kernel
theorem d_Law_law_598 : decode M_Law_law.2.1 598 = .ok (.aload_n 1, 1) := by decide +kernel
theorem d_Law_law_599 : decode M_Law_law.2.1 599 = .ok (.aload_n 0, 1) := by decide +kernel
theorem d_Law_law_600 : decode M_Law_law.2.1 600 = .ok (.iload_n 3, 1) := by decide +kernel
theorem d_Law_law_601 : decode M_Law_law.2.1 601 = .ok (.iconst 1, 1) := by decide +kernel
theorem d_Law_law_602 : decode M_Law_law.2.1 602 = .ok (.iadd, 1) := by decide +kernel
theorem d_Law_law_603 : decode M_Law_law.2.1 603 = .ok (.iaload, 1) := by decide +kernel
theorem d_Law_law_604 : decode M_Law_law.2.1 604 = .ok (.invokevirtual 72, 3) := by decide +kernel
theorem d_Law_law_607 : decode M_Law_law.2.1 607 = .ok (.aload_n 2, 1) := by decide +kernel
theorem d_Law_law_608 : decode M_Law_law.2.1 608 = .ok (.aload_n 0, 1) := by decide +kernel
theorem d_Law_law_609 : decode M_Law_law.2.1 609 = .ok (.iload_n 3, 1) := by decide +kernel
theorem d_Law_law_610 : decode M_Law_law.2.1 610 = .ok (.iconst 1, 1) := by decide +kernel
theorem d_Law_law_611 : decode M_Law_law.2.1 611 = .ok (.iadd, 1) := by decide +kernel
theorem d_Law_law_612 : decode M_Law_law.2.1 612 = .ok (.iaload, 1) := by decide +kernel
theorem d_Law_law_613 : decode M_Law_law.2.1 613 = .ok (.invokevirtual 75, 3) := by decide +kernel
theorem d_Law_law_616 : decode M_Law_law.2.1 616 = .ok (.if_icmp .eq 296, 3) := by decide +kernel
theorem d_Law_law_619 : decode M_Law_law.2.1 619 = .ok (.iconst 0, 1) := by decide +kernel
theorem d_Law_law_620 : decode M_Law_law.2.1 620 = .ok (.ireturn, 1) := by decide +kernel
theorem d_Law_law_621 : decode M_Law_law.2.1 621 = .ok (.aload_n 1, 1) := by decide +kernel
theorem d_Law_law_622 : decode M_Law_law.2.1 622 = .ok (.invokevirtual 76, 3) := by decide +kernel
theorem d_Law_law_625 : decode M_Law_law.2.1 625 = .ok (.aload_n 2, 1) := by decide +kernel
theorem d_Law_law_626 : decode M_Law_law.2.1 626 = .ok (.invokevirtual 80, 3) := by decide +kernel
theorem d_Law_law_629 : decode M_Law_law.2.1 629 = .ok (.if_icmp .eq 283, 3) := by decide +kernel
theorem d_Law_law_632 : decode M_Law_law.2.1 632 = .ok (.iconst 0, 1) := by decide +kernel
theorem d_Law_law_633 : decode M_Law_law.2.1 633 = .ok (.ireturn, 1) := by decide +kernel
theorem d_Law_law_634 : decode M_Law_law.2.1 634 = .ok (.aload_n 1, 1) := by decide +kernel
theorem d_Law_law_635 : decode M_Law_law.2.1 635 = .ok (.aload_n 0, 1) := by decide +kernel
theorem d_Law_law_636 : decode M_Law_law.2.1 636 = .ok (.iload_n 3, 1) := by decide +kernel
theorem d_Law_law_637 : decode M_Law_law.2.1 637 = .ok (.iconst 1, 1) := by decide +kernel
theorem d_Law_law_638 : decode M_Law_law.2.1 638 = .ok (.iadd, 1) := by decide +kernel
theorem d_Law_law_639 : decode M_Law_law.2.1 639 = .ok (.iaload, 1) := by decide +kernel
theorem d_Law_law_640 : decode M_Law_law.2.1 640 = .ok (.aload_n 0, 1) := by decide +kernel
theorem d_Law_law_641 : decode M_Law_law.2.1 641 = .ok (.iload_n 3, 1) := by decide +kernel
theorem d_Law_law_642 : decode M_Law_law.2.1 642 = .ok (.iconst 2, 1) := by decide +kernel
theorem d_Law_law_643 : decode M_Law_law.2.1 643 = .ok (.iadd, 1) := by decide +kernel
theorem d_Law_law_644 : decode M_Law_law.2.1 644 = .ok (.iaload, 1) := by decide +kernel
theorem d_Law_law_645 : decode M_Law_law.2.1 645 = .ok (.invokevirtual 81, 3) := by decide +kernel
theorem d_Law_law_648 : decode M_Law_law.2.1 648 = .ok (.aload_n 2, 1) := by decide +kernel
theorem d_Law_law_649 : decode M_Law_law.2.1 649 = .ok (.aload_n 0, 1) := by decide +kernel
theorem d_Law_law_650 : decode M_Law_law.2.1 650 = .ok (.iload_n 3, 1) := by decide +kernel
theorem d_Law_law_651 : decode M_Law_law.2.1 651 = .ok (.iconst 1, 1) := by decide +kernel
theorem d_Law_law_652 : decode M_Law_law.2.1 652 = .ok (.iadd, 1) := by decide +kernel
theorem d_Law_law_653 : decode M_Law_law.2.1 653 = .ok (.iaload, 1) := by decide +kernel
theorem d_Law_law_654 : decode M_Law_law.2.1 654 = .ok (.aload_n 0, 1) := by decide +kernel
theorem d_Law_law_655 : decode M_Law_law.2.1 655 = .ok (.iload_n 3, 1) := by decide +kernel
theorem d_Law_law_656 : decode M_Law_law.2.1 656 = .ok (.iconst 2, 1) := by decide +kernel
theorem d_Law_law_657 : decode M_Law_law.2.1 657 = .ok (.iadd, 1) := by decide +kernel
theorem d_Law_law_658 : decode M_Law_law.2.1 658 = .ok (.iaload, 1) := by decide +kernel
theorem d_Law_law_659 : decode M_Law_law.2.1 659 = .ok (.invokevirtual 84, 3) := by decide +kernel
theorem d_Law_law_662 : decode M_Law_law.2.1 662 = .ok (.if_icmp .eq 250, 3) := by decide +kernel
theorem d_Law_law_665 : decode M_Law_law.2.1 665 = .ok (.iconst 0, 1) := by decide +kernel
theorem d_Law_law_666 : decode M_Law_law.2.1 666 = .ok (.ireturn, 1) := by decide +kernel
theorem d_Law_law_667 : decode M_Law_law.2.1 667 = .ok (.aload_n 1, 1) := by decide +kernel
theorem d_Law_law_668 : decode M_Law_law.2.1 668 = .ok (.aload_n 0, 1) := by decide +kernel
theorem d_Law_law_669 : decode M_Law_law.2.1 669 = .ok (.iload_n 3, 1) := by decide +kernel
theorem d_Law_law_670 : decode M_Law_law.2.1 670 = .ok (.iconst 1, 1) := by decide +kernel
theorem d_Law_law_671 : decode M_Law_law.2.1 671 = .ok (.iadd, 1) := by decide +kernel
theorem d_Law_law_672 : decode M_Law_law.2.1 672 = .ok (.iaload, 1) := by decide +kernel
theorem d_Law_law_673 : decode M_Law_law.2.1 673 = .ok (.invokevirtual 85, 3) := by decide +kernel
theorem d_Law_law_676 : decode M_Law_law.2.1 676 = .ok (.aload_n 2, 1) := by decide +kernel
theorem d_Law_law_677 : decode M_Law_law.2.1 677 = .ok (.aload_n 0, 1) := by decide +kernel
theorem d_Law_law_678 : decode M_Law_law.2.1 678 = .ok (.iload_n 3, 1) := by decide +kernel
theorem d_Law_law_679 : decode M_Law_law.2.1 679 = .ok (.iconst 1, 1) := by decide +kernel
theorem d_Law_law_680 : decode M_Law_law.2.1 680 = .ok (.iadd, 1) := by decide +kernel
theorem d_Law_law_681 : decode M_Law_law.2.1 681 = .ok (.iaload, 1) := by decide +kernel
theorem d_Law_law_682 : decode M_Law_law.2.1 682 = .ok (.invokevirtual 88, 3) := by decide +kernel
theorem d_Law_law_685 : decode M_Law_law.2.1 685 = .ok (.if_icmp .eq 227, 3) := by decide +kernel
theorem d_Law_law_688 : decode M_Law_law.2.1 688 = .ok (.iconst 0, 1) := by decide +kernel
theorem d_Law_law_689 : decode M_Law_law.2.1 689 = .ok (.ireturn, 1) := by decide +kernel
theorem d_Law_law_690 : decode M_Law_law.2.1 690 = .ok (.aload_n 1, 1) := by decide +kernel
theorem d_Law_law_691 : decode M_Law_law.2.1 691 = .ok (.aload_n 0, 1) := by decide +kernel
theorem d_Law_law_692 : decode M_Law_law.2.1 692 = .ok (.iload_n 3, 1) := by decide +kernel
theorem d_Law_law_693 : decode M_Law_law.2.1 693 = .ok (.iconst 1, 1) := by decide +kernel
theorem d_Law_law_694 : decode M_Law_law.2.1 694 = .ok (.iadd, 1) := by decide +kernel
theorem d_Law_law_695 : decode M_Law_law.2.1 695 = .ok (.iaload, 1) := by decide +kernel
theorem d_Law_law_696 : decode M_Law_law.2.1 696 = .ok (.aload_n 0, 1) := by decide +kernel
theorem d_Law_law_697 : decode M_Law_law.2.1 697 = .ok (.iload_n 3, 1) := by decide +kernel
theorem d_Law_law_698 : decode M_Law_law.2.1 698 = .ok (.iconst 2, 1) := by decide +kernel
theorem d_Law_law_699 : decode M_Law_law.2.1 699 = .ok (.iadd, 1) := by decide +kernel
theorem d_Law_law_700 : decode M_Law_law.2.1 700 = .ok (.iaload, 1) := by decide +kernel
theorem d_Law_law_701 : decode M_Law_law.2.1 701 = .ok (.aload_n 0, 1) := by decide +kernel
theorem d_Law_law_702 : decode M_Law_law.2.1 702 = .ok (.iload_n 3, 1) := by decide +kernel
theorem d_Law_law_703 : decode M_Law_law.2.1 703 = .ok (.iconst 3, 1) := by decide +kernel
theorem d_Law_law_704 : decode M_Law_law.2.1 704 = .ok (.iadd, 1) := by decide +kernel
theorem d_Law_law_705 : decode M_Law_law.2.1 705 = .ok (.iaload, 1) := by decide +kernel
theorem d_Law_law_706 : decode M_Law_law.2.1 706 = .ok (.aload_n 0, 1) := by decide +kernel
theorem d_Law_law_707 : decode M_Law_law.2.1 707 = .ok (.iload_n 3, 1) := by decide +kernel
theorem d_Law_law_708 : decode M_Law_law.2.1 708 = .ok (.iconst 4, 1) := by decide +kernel
theorem d_Law_law_709 : decode M_Law_law.2.1 709 = .ok (.iadd, 1) := by decide +kernel
theorem d_Law_law_710 : decode M_Law_law.2.1 710 = .ok (.iaload, 1) := by decide +kernel
theorem d_Law_law_711 : decode M_Law_law.2.1 711 = .ok (.invokevirtual 89, 3) := by decide +kernel
theorem d_Law_law_714 : decode M_Law_law.2.1 714 = .ok (.aload_n 2, 1) := by decide +kernel
theorem d_Law_law_715 : decode M_Law_law.2.1 715 = .ok (.aload_n 0, 1) := by decide +kernel
theorem d_Law_law_716 : decode M_Law_law.2.1 716 = .ok (.iload_n 3, 1) := by decide +kernel
theorem d_Law_law_717 : decode M_Law_law.2.1 717 = .ok (.iconst 1, 1) := by decide +kernel
theorem d_Law_law_718 : decode M_Law_law.2.1 718 = .ok (.iadd, 1) := by decide +kernel
theorem d_Law_law_719 : decode M_Law_law.2.1 719 = .ok (.iaload, 1) := by decide +kernel
theorem d_Law_law_720 : decode M_Law_law.2.1 720 = .ok (.aload_n 0, 1) := by decide +kernel
theorem d_Law_law_721 : decode M_Law_law.2.1 721 = .ok (.iload_n 3, 1) := by decide +kernel
theorem d_Law_law_722 : decode M_Law_law.2.1 722 = .ok (.iconst 2, 1) := by decide +kernel
theorem d_Law_law_723 : decode M_Law_law.2.1 723 = .ok (.iadd, 1) := by decide +kernel
theorem d_Law_law_724 : decode M_Law_law.2.1 724 = .ok (.iaload, 1) := by decide +kernel
theorem d_Law_law_725 : decode M_Law_law.2.1 725 = .ok (.aload_n 0, 1) := by decide +kernel
theorem d_Law_law_726 : decode M_Law_law.2.1 726 = .ok (.iload_n 3, 1) := by decide +kernel
theorem d_Law_law_727 : decode M_Law_law.2.1 727 = .ok (.iconst 3, 1) := by decide +kernel
theorem d_Law_law_728 : decode M_Law_law.2.1 728 = .ok (.iadd, 1) := by decide +kernel
theorem d_Law_law_729 : decode M_Law_law.2.1 729 = .ok (.iaload, 1) := by decide +kernel
theorem d_Law_law_730 : decode M_Law_law.2.1 730 = .ok (.aload_n 0, 1) := by decide +kernel
theorem d_Law_law_731 : decode M_Law_law.2.1 731 = .ok (.iload_n 3, 1) := by decide +kernel
theorem d_Law_law_732 : decode M_Law_law.2.1 732 = .ok (.iconst 4, 1) := by decide +kernel
theorem d_Law_law_733 : decode M_Law_law.2.1 733 = .ok (.iadd, 1) := by decide +kernel
theorem d_Law_law_734 : decode M_Law_law.2.1 734 = .ok (.iaload, 1) := by decide +kernel
theorem d_Law_law_735 : decode M_Law_law.2.1 735 = .ok (.invokevirtual 92, 3) := by decide +kernel
theorem d_Law_law_738 : decode M_Law_law.2.1 738 = .ok (.if_icmp .eq 174, 3) := by decide +kernel
theorem d_Law_law_741 : decode M_Law_law.2.1 741 = .ok (.iconst 0, 1) := by decide +kernel
theorem d_Law_law_742 : decode M_Law_law.2.1 742 = .ok (.ireturn, 1) := by decide +kernel
theorem d_Law_law_743 : decode M_Law_law.2.1 743 = .ok (.aload_n 1, 1) := by decide +kernel
theorem d_Law_law_744 : decode M_Law_law.2.1 744 = .ok (.aload_n 0, 1) := by decide +kernel
theorem d_Law_law_745 : decode M_Law_law.2.1 745 = .ok (.iload_n 3, 1) := by decide +kernel
theorem d_Law_law_746 : decode M_Law_law.2.1 746 = .ok (.iconst 1, 1) := by decide +kernel
theorem d_Law_law_747 : decode M_Law_law.2.1 747 = .ok (.iadd, 1) := by decide +kernel
theorem d_Law_law_748 : decode M_Law_law.2.1 748 = .ok (.iaload, 1) := by decide +kernel
theorem d_Law_law_749 : decode M_Law_law.2.1 749 = .ok (.aload_n 0, 1) := by decide +kernel
theorem d_Law_law_750 : decode M_Law_law.2.1 750 = .ok (.iload_n 3, 1) := by decide +kernel
theorem d_Law_law_751 : decode M_Law_law.2.1 751 = .ok (.iconst 2, 1) := by decide +kernel
theorem d_Law_law_752 : decode M_Law_law.2.1 752 = .ok (.iadd, 1) := by decide +kernel
theorem d_Law_law_753 : decode M_Law_law.2.1 753 = .ok (.iaload, 1) := by decide +kernel
theorem d_Law_law_754 : decode M_Law_law.2.1 754 = .ok (.aload_n 0, 1) := by decide +kernel
theorem d_Law_law_755 : decode M_Law_law.2.1 755 = .ok (.iload_n 3, 1) := by decide +kernel
theorem d_Law_law_756 : decode M_Law_law.2.1 756 = .ok (.iconst 3, 1) := by decide +kernel
theorem d_Law_law_757 : decode M_Law_law.2.1 757 = .ok (.iadd, 1) := by decide +kernel
theorem d_Law_law_758 : decode M_Law_law.2.1 758 = .ok (.iaload, 1) := by decide +kernel
theorem d_Law_law_759 : decode M_Law_law.2.1 759 = .ok (.aload_n 0, 1) := by decide +kernel
theorem d_Law_law_760 : decode M_Law_law.2.1 760 = .ok (.iload_n 3, 1) := by decide +kernel
theorem d_Law_law_761 : decode M_Law_law.2.1 761 = .ok (.iconst 4, 1) := by decide +kernel
theorem d_Law_law_762 : decode M_Law_law.2.1 762 = .ok (.iadd, 1) := by decide +kernel
theorem d_Law_law_763 : decode M_Law_law.2.1 763 = .ok (.iaload, 1) := by decide +kernel
theorem d_Law_law_764 : decode M_Law_law.2.1 764 = .ok (.ifCond .eq 7, 3) := by decide +kernel
theorem d_Law_law_767 : decode M_Law_law.2.1 767 = .ok (.iconst 1, 1) := by decide +kernel
theorem d_Law_law_768 : decode M_Law_law.2.1 768 = .ok (.goto 4, 3) := by decide +kernel
theorem d_Law_law_771 : decode M_Law_law.2.1 771 = .ok (.iconst 0, 1) := by decide +kernel
theorem d_Law_law_772 : decode M_Law_law.2.1 772 = .ok (.invokevirtual 93, 3) := by decide +kernel
theorem d_Law_law_775 : decode M_Law_law.2.1 775 = .ok (.aload_n 2, 1) := by decide +kernel
theorem d_Law_law_776 : decode M_Law_law.2.1 776 = .ok (.aload_n 0, 1) := by decide +kernel
theorem d_Law_law_777 : decode M_Law_law.2.1 777 = .ok (.iload_n 3, 1) := by decide +kernel
theorem d_Law_law_778 : decode M_Law_law.2.1 778 = .ok (.iconst 1, 1) := by decide +kernel
theorem d_Law_law_779 : decode M_Law_law.2.1 779 = .ok (.iadd, 1) := by decide +kernel
theorem d_Law_law_780 : decode M_Law_law.2.1 780 = .ok (.iaload, 1) := by decide +kernel
theorem d_Law_law_781 : decode M_Law_law.2.1 781 = .ok (.aload_n 0, 1) := by decide +kernel
theorem d_Law_law_782 : decode M_Law_law.2.1 782 = .ok (.iload_n 3, 1) := by decide +kernel
theorem d_Law_law_783 : decode M_Law_law.2.1 783 = .ok (.iconst 2, 1) := by decide +kernel
theorem d_Law_law_784 : decode M_Law_law.2.1 784 = .ok (.iadd, 1) := by decide +kernel
theorem d_Law_law_785 : decode M_Law_law.2.1 785 = .ok (.iaload, 1) := by decide +kernel
theorem d_Law_law_786 : decode M_Law_law.2.1 786 = .ok (.aload_n 0, 1) := by decide +kernel
theorem d_Law_law_787 : decode M_Law_law.2.1 787 = .ok (.iload_n 3, 1) := by decide +kernel
theorem d_Law_law_788 : decode M_Law_law.2.1 788 = .ok (.iconst 3, 1) := by decide +kernel
theorem d_Law_law_789 : decode M_Law_law.2.1 789 = .ok (.iadd, 1) := by decide +kernel
theorem d_Law_law_790 : decode M_Law_law.2.1 790 = .ok (.iaload, 1) := by decide +kernel
theorem d_Law_law_791 : decode M_Law_law.2.1 791 = .ok (.aload_n 0, 1) := by decide +kernel
theorem d_Law_law_792 : decode M_Law_law.2.1 792 = .ok (.iload_n 3, 1) := by decide +kernel
theorem d_Law_law_793 : decode M_Law_law.2.1 793 = .ok (.iconst 4, 1) := by decide +kernel
theorem d_Law_law_794 : decode M_Law_law.2.1 794 = .ok (.iadd, 1) := by decide +kernel
theorem d_Law_law_795 : decode M_Law_law.2.1 795 = .ok (.iaload, 1) := by decide +kernel
theorem d_Law_law_796 : decode M_Law_law.2.1 796 = .ok (.ifCond .eq 7, 3) := by decide +kernel
theorem d_Law_law_799 : decode M_Law_law.2.1 799 = .ok (.iconst 1, 1) := by decide +kernel
theorem d_Law_law_800 : decode M_Law_law.2.1 800 = .ok (.goto 4, 3) := by decide +kernel
theorem d_Law_law_803 : decode M_Law_law.2.1 803 = .ok (.iconst 0, 1) := by decide +kernel
theorem d_Law_law_804 : decode M_Law_law.2.1 804 = .ok (.invokevirtual 97, 3) := by decide +kernel
theorem d_Law_law_807 : decode M_Law_law.2.1 807 = .ok (.if_icmp .eq 105, 3) := by decide +kernel
theorem d_Law_law_810 : decode M_Law_law.2.1 810 = .ok (.iconst 0, 1) := by decide +kernel
theorem d_Law_law_811 : decode M_Law_law.2.1 811 = .ok (.ireturn, 1) := by decide +kernel
theorem d_Law_law_812 : decode M_Law_law.2.1 812 = .ok (.aload_n 1, 1) := by decide +kernel
theorem d_Law_law_813 : decode M_Law_law.2.1 813 = .ok (.aload_n 0, 1) := by decide +kernel
theorem d_Law_law_814 : decode M_Law_law.2.1 814 = .ok (.iload_n 3, 1) := by decide +kernel
theorem d_Law_law_815 : decode M_Law_law.2.1 815 = .ok (.iconst 1, 1) := by decide +kernel
theorem d_Law_law_816 : decode M_Law_law.2.1 816 = .ok (.iadd, 1) := by decide +kernel
theorem d_Law_law_817 : decode M_Law_law.2.1 817 = .ok (.iaload, 1) := by decide +kernel
theorem d_Law_law_818 : decode M_Law_law.2.1 818 = .ok (.aload_n 0, 1) := by decide +kernel
theorem d_Law_law_819 : decode M_Law_law.2.1 819 = .ok (.iload_n 3, 1) := by decide +kernel
theorem d_Law_law_820 : decode M_Law_law.2.1 820 = .ok (.iconst 2, 1) := by decide +kernel
theorem d_Law_law_821 : decode M_Law_law.2.1 821 = .ok (.iadd, 1) := by decide +kernel
theorem d_Law_law_822 : decode M_Law_law.2.1 822 = .ok (.iaload, 1) := by decide +kernel
theorem d_Law_law_823 : decode M_Law_law.2.1 823 = .ok (.invokevirtual 98, 3) := by decide +kernel
theorem d_Law_law_826 : decode M_Law_law.2.1 826 = .ok (.aload_n 2, 1) := by decide +kernel
theorem d_Law_law_827 : decode M_Law_law.2.1 827 = .ok (.aload_n 0, 1) := by decide +kernel
theorem d_Law_law_828 : decode M_Law_law.2.1 828 = .ok (.iload_n 3, 1) := by decide +kernel
theorem d_Law_law_829 : decode M_Law_law.2.1 829 = .ok (.iconst 1, 1) := by decide +kernel
theorem d_Law_law_830 : decode M_Law_law.2.1 830 = .ok (.iadd, 1) := by decide +kernel
theorem d_Law_law_831 : decode M_Law_law.2.1 831 = .ok (.iaload, 1) := by decide +kernel
theorem d_Law_law_832 : decode M_Law_law.2.1 832 = .ok (.aload_n 0, 1) := by decide +kernel
theorem d_Law_law_833 : decode M_Law_law.2.1 833 = .ok (.iload_n 3, 1) := by decide +kernel
theorem d_Law_law_834 : decode M_Law_law.2.1 834 = .ok (.iconst 2, 1) := by decide +kernel
theorem d_Law_law_835 : decode M_Law_law.2.1 835 = .ok (.iadd, 1) := by decide +kernel
theorem d_Law_law_836 : decode M_Law_law.2.1 836 = .ok (.iaload, 1) := by decide +kernel
theorem d_Law_law_837 : decode M_Law_law.2.1 837 = .ok (.invokevirtual 102, 3) := by decide +kernel
theorem d_Law_law_840 : decode M_Law_law.2.1 840 = .ok (.lcmp, 1) := by decide +kernel
theorem d_Law_law_841 : decode M_Law_law.2.1 841 = .ok (.ifCond .eq 71, 3) := by decide +kernel
theorem d_Law_law_844 : decode M_Law_law.2.1 844 = .ok (.iconst 0, 1) := by decide +kernel
theorem d_Law_law_845 : decode M_Law_law.2.1 845 = .ok (.ireturn, 1) := by decide +kernel
theorem d_Law_law_846 : decode M_Law_law.2.1 846 = .ok (.aload_n 1, 1) := by decide +kernel
theorem d_Law_law_847 : decode M_Law_law.2.1 847 = .ok (.aload_n 0, 1) := by decide +kernel
theorem d_Law_law_848 : decode M_Law_law.2.1 848 = .ok (.iload_n 3, 1) := by decide +kernel
theorem d_Law_law_849 : decode M_Law_law.2.1 849 = .ok (.iconst 1, 1) := by decide +kernel
theorem d_Law_law_850 : decode M_Law_law.2.1 850 = .ok (.iadd, 1) := by decide +kernel
theorem d_Law_law_851 : decode M_Law_law.2.1 851 = .ok (.iaload, 1) := by decide +kernel
theorem d_Law_law_852 : decode M_Law_law.2.1 852 = .ok (.aload_n 0, 1) := by decide +kernel
theorem d_Law_law_853 : decode M_Law_law.2.1 853 = .ok (.iload_n 3, 1) := by decide +kernel
theorem d_Law_law_854 : decode M_Law_law.2.1 854 = .ok (.iconst 2, 1) := by decide +kernel
theorem d_Law_law_855 : decode M_Law_law.2.1 855 = .ok (.iadd, 1) := by decide +kernel
theorem d_Law_law_856 : decode M_Law_law.2.1 856 = .ok (.iaload, 1) := by decide +kernel
theorem d_Law_law_857 : decode M_Law_law.2.1 857 = .ok (.invokevirtual 103, 3) := by decide +kernel
theorem d_Law_law_860 : decode M_Law_law.2.1 860 = .ok (.aload_n 2, 1) := by decide +kernel
theorem d_Law_law_861 : decode M_Law_law.2.1 861 = .ok (.aload_n 0, 1) := by decide +kernel
theorem d_Law_law_862 : decode M_Law_law.2.1 862 = .ok (.iload_n 3, 1) := by decide +kernel
theorem d_Law_law_863 : decode M_Law_law.2.1 863 = .ok (.iconst 1, 1) := by decide +kernel
theorem d_Law_law_864 : decode M_Law_law.2.1 864 = .ok (.iadd, 1) := by decide +kernel
theorem d_Law_law_865 : decode M_Law_law.2.1 865 = .ok (.iaload, 1) := by decide +kernel
theorem d_Law_law_866 : decode M_Law_law.2.1 866 = .ok (.aload_n 0, 1) := by decide +kernel
theorem d_Law_law_867 : decode M_Law_law.2.1 867 = .ok (.iload_n 3, 1) := by decide +kernel
theorem d_Law_law_868 : decode M_Law_law.2.1 868 = .ok (.iconst 2, 1) := by decide +kernel
theorem d_Law_law_869 : decode M_Law_law.2.1 869 = .ok (.iadd, 1) := by decide +kernel
theorem d_Law_law_870 : decode M_Law_law.2.1 870 = .ok (.iaload, 1) := by decide +kernel
theorem d_Law_law_871 : decode M_Law_law.2.1 871 = .ok (.invokevirtual 106, 3) := by decide +kernel
theorem d_Law_law_874 : decode M_Law_law.2.1 874 = .ok (.if_icmp .eq 38, 3) := by decide +kernel
theorem d_Law_law_877 : decode M_Law_law.2.1 877 = .ok (.iconst 0, 1) := by decide +kernel
theorem d_Law_law_878 : decode M_Law_law.2.1 878 = .ok (.ireturn, 1) := by decide +kernel
theorem d_Law_law_879 : decode M_Law_law.2.1 879 = .ok (.aload_n 1, 1) := by decide +kernel
theorem d_Law_law_880 : decode M_Law_law.2.1 880 = .ok (.aload_n 0, 1) := by decide +kernel
theorem d_Law_law_881 : decode M_Law_law.2.1 881 = .ok (.iload_n 3, 1) := by decide +kernel
theorem d_Law_law_882 : decode M_Law_law.2.1 882 = .ok (.iconst 1, 1) := by decide +kernel
theorem d_Law_law_883 : decode M_Law_law.2.1 883 = .ok (.iadd, 1) := by decide +kernel
theorem d_Law_law_884 : decode M_Law_law.2.1 884 = .ok (.iaload, 1) := by decide +kernel
theorem d_Law_law_885 : decode M_Law_law.2.1 885 = .ok (.aload_n 0, 1) := by decide +kernel
theorem d_Law_law_886 : decode M_Law_law.2.1 886 = .ok (.iload_n 3, 1) := by decide +kernel
theorem d_Law_law_887 : decode M_Law_law.2.1 887 = .ok (.iconst 2, 1) := by decide +kernel
theorem d_Law_law_888 : decode M_Law_law.2.1 888 = .ok (.iadd, 1) := by decide +kernel
theorem d_Law_law_889 : decode M_Law_law.2.1 889 = .ok (.iaload, 1) := by decide +kernel
theorem d_Law_law_890 : decode M_Law_law.2.1 890 = .ok (.invokevirtual 107, 3) := by decide +kernel
theorem d_Law_law_893 : decode M_Law_law.2.1 893 = .ok (.aload_n 2, 1) := by decide +kernel
theorem d_Law_law_894 : decode M_Law_law.2.1 894 = .ok (.aload_n 0, 1) := by decide +kernel
theorem d_Law_law_895 : decode M_Law_law.2.1 895 = .ok (.iload_n 3, 1) := by decide +kernel
theorem d_Law_law_896 : decode M_Law_law.2.1 896 = .ok (.iconst 1, 1) := by decide +kernel
theorem d_Law_law_897 : decode M_Law_law.2.1 897 = .ok (.iadd, 1) := by decide +kernel
theorem d_Law_law_898 : decode M_Law_law.2.1 898 = .ok (.iaload, 1) := by decide +kernel
theorem d_Law_law_899 : decode M_Law_law.2.1 899 = .ok (.aload_n 0, 1) := by decide +kernel
theorem d_Law_law_900 : decode M_Law_law.2.1 900 = .ok (.iload_n 3, 1) := by decide +kernel
theorem d_Law_law_901 : decode M_Law_law.2.1 901 = .ok (.iconst 2, 1) := by decide +kernel
theorem d_Law_law_902 : decode M_Law_law.2.1 902 = .ok (.iadd, 1) := by decide +kernel
theorem d_Law_law_903 : decode M_Law_law.2.1 903 = .ok (.iaload, 1) := by decide +kernel
theorem d_Law_law_904 : decode M_Law_law.2.1 904 = .ok (.invokevirtual 110, 3) := by decide +kernel
theorem d_Law_law_907 : decode M_Law_law.2.1 907 = .ok (.if_icmp .eq 5, 3) := by decide +kernel
theorem d_Law_law_910 : decode M_Law_law.2.1 910 = .ok (.iconst 0, 1) := by decide +kernel
theorem d_Law_law_911 : decode M_Law_law.2.1 911 = .ok (.ireturn, 1) := by decide +kernel
theorem d_Law_law_912 : decode M_Law_law.2.1 912 = .ok (.iinc 3 6, 3) := by decide +kernel
theorem d_Law_law_915 : decode M_Law_law.2.1 915 = .ok (.goto (-877), 3) := by decide +kernel
theorem d_Law_law_918 : decode M_Law_law.2.1 918 = .ok (.iconst 1, 1) := by decide +kernel
theorem d_Law_law_919 : decode M_Law_law.2.1 919 = .ok (.ireturn, 1) := by decide +kernel
