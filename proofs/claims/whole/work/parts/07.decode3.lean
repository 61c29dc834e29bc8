theorem dM_add_0 : decode cM_add 0 = .ok (.aload_n 0, 1) := by decide +kernel
theorem dM_add_1 : decode cM_add 1 = .ok (.iconst 0, 1) := by decide +kernel
theorem dM_add_2 : decode cM_add 2 = .ok (.putfield 113, 3) := by decide +kernel
theorem dM_add_5 : decode cM_add 5 = .ok (.aload_n 0, 1) := by decide +kernel
theorem dM_add_6 : decode cM_add 6 = .ok (.iload_n 1, 1) := by decide +kernel
theorem dM_add_7 : decode cM_add 7 = .ok (.iload_n 2, 1) := by decide +kernel
theorem dM_add_8 : decode cM_add 8 = .ok (.invokevirtual 123, 3) := by decide +kernel
theorem dM_add_11 : decode cM_add 11 = .ok (.ireturn, 1) := by decide +kernel
theorem dM_add_12 : decode cM_add 12 = .ok (.astore_n 3, 1) := by decide +kernel
theorem dM_add_13 : decode cM_add 13 = .ok (.aload_n 0, 1) := by decide +kernel
theorem dM_add_14 : decode cM_add 14 = .ok (.iconst 1, 1) := by decide +kernel
theorem dM_add_15 : decode cM_add 15 = .ok (.putfield 113, 3) := by decide +kernel
theorem dM_add_18 : decode cM_add 18 = .ok (.goto 18, 3) := by decide +kernel
theorem dM_add_21 : decode cM_add 21 = .ok (.astore_n 3, 1) := by decide +kernel
theorem dM_add_22 : decode cM_add 22 = .ok (.aload_n 0, 1) := by decide +kernel
theorem dM_add_23 : decode cM_add 23 = .ok (.iconst 2, 1) := by decide +kernel
theorem dM_add_24 : decode cM_add 24 = .ok (.putfield 113, 3) := by decide +kernel
theorem dM_add_27 : decode cM_add 27 = .ok (.goto 9, 3) := by decide +kernel
theorem dM_add_30 : decode cM_add 30 = .ok (.astore_n 3, 1) := by decide +kernel
theorem dM_add_31 : decode cM_add 31 = .ok (.aload_n 0, 1) := by decide +kernel
theorem dM_add_32 : decode cM_add 32 = .ok (.iconst 3, 1) := by decide +kernel
theorem dM_add_33 : decode cM_add 33 = .ok (.putfield 113, 3) := by decide +kernel
theorem dM_add_36 : decode cM_add 36 = .ok (.iconst 0, 1) := by decide +kernel
theorem dM_add_37 : decode cM_add 37 = .ok (.ireturn, 1) := by decide +kernel
theorem dM_add0_0 : decode cM_add0 0 = .ok (.iload_n 1, 1) := by decide +kernel
theorem dM_add0_1 : decode cM_add0 1 = .ok (.ifCond .lt 22, 3) := by decide +kernel
theorem dM_add0_4 : decode cM_add0 4 = .ok (.iload_n 1, 1) := by decide +kernel
theorem dM_add0_5 : decode cM_add0 5 = .ok (.sipush 255, 3) := by decide +kernel
theorem dM_add0_8 : decode cM_add0 8 = .ok (.if_icmp .gt 15, 3) := by decide +kernel
theorem dM_add0_11 : decode cM_add0 11 = .ok (.iload_n 2, 1) := by decide +kernel
theorem dM_add0_12 : decode cM_add0 12 = .ok (.iconst 1, 1) := by decide +kernel
theorem dM_add0_13 : decode cM_add0 13 = .ok (.if_icmp .lt 10, 3) := by decide +kernel
theorem dM_add0_16 : decode cM_add0 16 = .ok (.iload_n 2, 1) := by decide +kernel
theorem dM_add0_17 : decode cM_add0 17 = .ok (.sipush 2000, 3) := by decide +kernel
theorem dM_add0_20 : decode cM_add0 20 = .ok (.if_icmp .le 11, 3) := by decide +kernel
theorem dM_add0_23 : decode cM_add0 23 = .ok (.new 87, 3) := by decide +kernel
theorem dM_add0_26 : decode cM_add0 26 = .ok (.dup, 1) := by decide +kernel
theorem dM_add0_27 : decode cM_add0 27 = .ok (.invokespecial 89, 3) := by decide +kernel
theorem dM_add0_30 : decode cM_add0 30 = .ok (.athrow, 1) := by decide +kernel
theorem dM_add0_31 : decode cM_add0 31 = .ok (.aload_n 0, 1) := by decide +kernel
theorem dM_add0_32 : decode cM_add0 32 = .ok (.getfield 66, 3) := by decide +kernel
theorem dM_add0_35 : decode cM_add0 35 = .ok (.istore_n 3, 1) := by decide +kernel
theorem dM_add0_36 : decode cM_add0 36 = .ok (.aload_n 0, 1) := by decide +kernel
theorem dM_add0_37 : decode cM_add0 37 = .ok (.iload_n 1, 1) := by decide +kernel
theorem dM_add0_38 : decode cM_add0 38 = .ok (.invokevirtual 51, 3) := by decide +kernel
theorem dM_add0_41 : decode cM_add0 41 = .ok (.istore 4, 2) := by decide +kernel
theorem dM_add0_43 : decode cM_add0 43 = .ok (.aload_n 0, 1) := by decide +kernel
theorem dM_add0_44 : decode cM_add0 44 = .ok (.iconst 0, 1) := by decide +kernel
theorem dM_add0_45 : decode cM_add0 45 = .ok (.putfield 66, 3) := by decide +kernel
theorem dM_add0_48 : decode cM_add0 48 = .ok (.iconst 0, 1) := by decide +kernel
theorem dM_add0_49 : decode cM_add0 49 = .ok (.istore 5, 2) := by decide +kernel
theorem dM_add0_51 : decode cM_add0 51 = .ok (.iload 5, 2) := by decide +kernel
theorem dM_add0_53 : decode cM_add0 53 = .ok (.iload_n 3, 1) := by decide +kernel
theorem dM_add0_54 : decode cM_add0 54 = .ok (.if_icmp .ge 60, 3) := by decide +kernel
theorem dM_add0_57 : decode cM_add0 57 = .ok (.iconst 0, 1) := by decide +kernel
theorem dM_add0_58 : decode cM_add0 58 = .ok (.istore 6, 2) := by decide +kernel
theorem dM_add0_60 : decode cM_add0 60 = .ok (.iload 6, 2) := by decide +kernel
theorem dM_add0_62 : decode cM_add0 62 = .ok (.iload_n 3, 1) := by decide +kernel
theorem dM_add0_63 : decode cM_add0 63 = .ok (.if_icmp .ge 45, 3) := by decide +kernel
theorem dM_add0_66 : decode cM_add0 66 = .ok (.iload 5, 2) := by decide +kernel
theorem dM_add0_68 : decode cM_add0 68 = .ok (.iload 6, 2) := by decide +kernel
theorem dM_add0_70 : decode cM_add0 70 = .ok (.if_icmp .eq 32, 3) := by decide +kernel
theorem dM_add0_73 : decode cM_add0 73 = .ok (.aload_n 0, 1) := by decide +kernel
theorem dM_add0_74 : decode cM_add0 74 = .ok (.aload_n 0, 1) := by decide +kernel
theorem dM_add0_75 : decode cM_add0 75 = .ok (.getfield 38, 3) := by decide +kernel
theorem dM_add0_78 : decode cM_add0 78 = .ok (.iload 5, 2) := by decide +kernel
theorem dM_add0_80 : decode cM_add0 80 = .ok (.iaload, 1) := by decide +kernel
theorem dM_add0_81 : decode cM_add0 81 = .ok (.aload_n 0, 1) := by decide +kernel
theorem dM_add0_82 : decode cM_add0 82 = .ok (.getfield 38, 3) := by decide +kernel
theorem dM_add0_85 : decode cM_add0 85 = .ok (.iload 6, 2) := by decide +kernel
theorem dM_add0_87 : decode cM_add0 87 = .ok (.iaload, 1) := by decide +kernel
theorem dM_add0_88 : decode cM_add0 88 = .ok (.invokevirtual 75, 3) := by decide +kernel
theorem dM_add0_91 : decode cM_add0 91 = .ok (.ifCond .eq 11, 3) := by decide +kernel
theorem dM_add0_94 : decode cM_add0 94 = .ok (.new 69, 3) := by decide +kernel
theorem dM_add0_97 : decode cM_add0 97 = .ok (.dup, 1) := by decide +kernel
theorem dM_add0_98 : decode cM_add0 98 = .ok (.invokespecial 71, 3) := by decide +kernel
theorem dM_add0_101 : decode cM_add0 101 = .ok (.athrow, 1) := by decide +kernel
theorem dM_add0_102 : decode cM_add0 102 = .ok (.iinc 6 1, 3) := by decide +kernel
theorem dM_add0_105 : decode cM_add0 105 = .ok (.goto (-45), 3) := by decide +kernel
theorem dM_add0_108 : decode cM_add0 108 = .ok (.iinc 5 1, 3) := by decide +kernel
theorem dM_add0_111 : decode cM_add0 111 = .ok (.goto (-60), 3) := by decide +kernel
theorem dM_add0_114 : decode cM_add0 114 = .ok (.iload 4, 2) := by decide +kernel
theorem dM_add0_116 : decode cM_add0 116 = .ok (.ifCond .ge 7, 3) := by decide +kernel
theorem dM_add0_119 : decode cM_add0 119 = .ok (.iconst 1, 1) := by decide +kernel
theorem dM_add0_120 : decode cM_add0 120 = .ok (.goto 4, 3) := by decide +kernel
theorem dM_add0_123 : decode cM_add0 123 = .ok (.iconst 0, 1) := by decide +kernel
theorem dM_add0_124 : decode cM_add0 124 = .ok (.istore 5, 2) := by decide +kernel
theorem dM_add0_126 : decode cM_add0 126 = .ok (.iconst 0, 1) := by decide +kernel
theorem dM_add0_127 : decode cM_add0 127 = .ok (.istore 6, 2) := by decide +kernel
theorem dM_add0_129 : decode cM_add0 129 = .ok (.iload 6, 2) := by decide +kernel
theorem dM_add0_131 : decode cM_add0 131 = .ok (.iload_n 3, 1) := by decide +kernel
theorem dM_add0_132 : decode cM_add0 132 = .ok (.if_icmp .ge 52, 3) := by decide +kernel
theorem dM_add0_135 : decode cM_add0 135 = .ok (.iload 4, 2) := by decide +kernel
theorem dM_add0_137 : decode cM_add0 137 = .ok (.ifCond .lt 47, 3) := by decide +kernel
theorem dM_add0_140 : decode cM_add0 140 = .ok (.iload 5, 2) := by decide +kernel
theorem dM_add0_142 : decode cM_add0 142 = .ok (.aload_n 0, 1) := by decide +kernel
theorem dM_add0_143 : decode cM_add0 143 = .ok (.getfield 35, 3) := by decide +kernel
theorem dM_add0_146 : decode cM_add0 146 = .ok (.bipush 16, 2) := by decide +kernel
theorem dM_add0_148 : decode cM_add0 148 = .ok (.aload_n 0, 1) := by decide +kernel
theorem dM_add0_149 : decode cM_add0 149 = .ok (.getfield 38, 3) := by decide +kernel
theorem dM_add0_152 : decode cM_add0 152 = .ok (.iload 6, 2) := by decide +kernel
theorem dM_add0_154 : decode cM_add0 154 = .ok (.iaload, 1) := by decide +kernel
theorem dM_add0_155 : decode cM_add0 155 = .ok (.imul, 1) := by decide +kernel
theorem dM_add0_156 : decode cM_add0 156 = .ok (.iload 4, 2) := by decide +kernel
theorem dM_add0_158 : decode cM_add0 158 = .ok (.iadd, 1) := by decide +kernel
theorem dM_add0_159 : decode cM_add0 159 = .ok (.saload, 1) := by decide +kernel
theorem dM_add0_160 : decode cM_add0 160 = .ok (.aload_n 0, 1) := by decide +kernel
theorem dM_add0_161 : decode cM_add0 161 = .ok (.getfield 13, 3) := by decide +kernel
theorem dM_add0_164 : decode cM_add0 164 = .ok (.iload 4, 2) := by decide +kernel
theorem dM_add0_166 : decode cM_add0 166 = .ok (.iaload, 1) := by decide +kernel
theorem dM_add0_167 : decode cM_add0 167 = .ok (.if_icmp .ne 7, 3) := by decide +kernel
theorem dM_add0_170 : decode cM_add0 170 = .ok (.iconst 1, 1) := by decide +kernel
theorem dM_add0_171 : decode cM_add0 171 = .ok (.goto 4, 3) := by decide +kernel
theorem dM_add0_174 : decode cM_add0 174 = .ok (.iconst 0, 1) := by decide +kernel
theorem dM_add0_175 : decode cM_add0 175 = .ok (.ior, 1) := by decide +kernel
theorem dM_add0_176 : decode cM_add0 176 = .ok (.istore 5, 2) := by decide +kernel
theorem dM_add0_178 : decode cM_add0 178 = .ok (.iinc 6 1, 3) := by decide +kernel
theorem dM_add0_181 : decode cM_add0 181 = .ok (.goto (-52), 3) := by decide +kernel
theorem dM_add0_184 : decode cM_add0 184 = .ok (.iload 5, 2) := by decide +kernel
theorem dM_add0_186 : decode cM_add0 186 = .ok (.ifCond .ne 11, 3) := by decide +kernel
theorem dM_add0_189 : decode cM_add0 189 = .ok (.new 69, 3) := by decide +kernel
theorem dM_add0_192 : decode cM_add0 192 = .ok (.dup, 1) := by decide +kernel
theorem dM_add0_193 : decode cM_add0 193 = .ok (.invokespecial 71, 3) := by decide +kernel
theorem dM_add0_196 : decode cM_add0 196 = .ok (.athrow, 1) := by decide +kernel
theorem dM_add0_197 : decode cM_add0 197 = .ok (.aload_n 0, 1) := by decide +kernel
theorem dM_add0_198 : decode cM_add0 198 = .ok (.getfield 55, 3) := by decide +kernel
theorem dM_add0_201 : decode cM_add0 201 = .ok (.iload_n 2, 1) := by decide +kernel
theorem dM_add0_202 : decode cM_add0 202 = .ok (.iadd, 1) := by decide +kernel
theorem dM_add0_203 : decode cM_add0 203 = .ok (.sipush 8192, 3) := by decide +kernel
theorem dM_add0_206 : decode cM_add0 206 = .ok (.if_icmp .gt 17, 3) := by decide +kernel
theorem dM_add0_209 : decode cM_add0 209 = .ok (.iload 4, 2) := by decide +kernel
theorem dM_add0_211 : decode cM_add0 211 = .ok (.ifCond .ge 20, 3) := by decide +kernel
theorem dM_add0_214 : decode cM_add0 214 = .ok (.aload_n 0, 1) := by decide +kernel
theorem dM_add0_215 : decode cM_add0 215 = .ok (.getfield 47, 3) := by decide +kernel
theorem dM_add0_218 : decode cM_add0 218 = .ok (.bipush 16, 2) := by decide +kernel
theorem dM_add0_220 : decode cM_add0 220 = .ok (.if_icmp .ne 11, 3) := by decide +kernel
theorem dM_add0_223 : decode cM_add0 223 = .ok (.new 72, 3) := by decide +kernel
theorem dM_add0_226 : decode cM_add0 226 = .ok (.dup, 1) := by decide +kernel
theorem dM_add0_227 : decode cM_add0 227 = .ok (.invokespecial 74, 3) := by decide +kernel
theorem dM_add0_230 : decode cM_add0 230 = .ok (.athrow, 1) := by decide +kernel
theorem dM_add0_231 : decode cM_add0 231 = .ok (.iload 4, 2) := by decide +kernel
theorem dM_add0_233 : decode cM_add0 233 = .ok (.ifCond .ge 27, 3) := by decide +kernel
theorem dM_add0_236 : decode cM_add0 236 = .ok (.aload_n 0, 1) := by decide +kernel
theorem dM_add0_237 : decode cM_add0 237 = .ok (.getfield 47, 3) := by decide +kernel
theorem dM_add0_240 : decode cM_add0 240 = .ok (.istore 4, 2) := by decide +kernel
theorem dM_add0_242 : decode cM_add0 242 = .ok (.aload_n 0, 1) := by decide +kernel
theorem dM_add0_243 : decode cM_add0 243 = .ok (.getfield 9, 3) := by decide +kernel
theorem dM_add0_246 : decode cM_add0 246 = .ok (.iload 4, 2) := by decide +kernel
theorem dM_add0_248 : decode cM_add0 248 = .ok (.iload_n 1, 1) := by decide +kernel
theorem dM_add0_249 : decode cM_add0 249 = .ok (.iastore, 1) := by decide +kernel
theorem dM_add0_250 : decode cM_add0 250 = .ok (.aload_n 0, 1) := by decide +kernel
theorem dM_add0_251 : decode cM_add0 251 = .ok (.dup, 1) := by decide +kernel
theorem dM_add0_252 : decode cM_add0 252 = .ok (.getfield 47, 3) := by decide +kernel
theorem dM_add0_255 : decode cM_add0 255 = .ok (.iconst 1, 1) := by decide +kernel
theorem dM_add0_256 : decode cM_add0 256 = .ok (.iadd, 1) := by decide +kernel
theorem dM_add0_257 : decode cM_add0 257 = .ok (.putfield 47, 3) := by decide +kernel
theorem dM_add0_260 : decode cM_add0 260 = .ok (.iconst 0, 1) := by decide +kernel
theorem dM_add0_261 : decode cM_add0 261 = .ok (.istore 6, 2) := by decide +kernel
theorem dM_add0_263 : decode cM_add0 263 = .ok (.iload 6, 2) := by decide +kernel
theorem dM_add0_265 : decode cM_add0 265 = .ok (.iload_n 2, 1) := by decide +kernel
theorem dM_add0_266 : decode cM_add0 266 = .ok (.if_icmp .ge 35, 3) := by decide +kernel
theorem dM_add0_269 : decode cM_add0 269 = .ok (.aload_n 0, 1) := by decide +kernel
theorem dM_add0_270 : decode cM_add0 270 = .ok (.iload 4, 2) := by decide +kernel
theorem dM_add0_272 : decode cM_add0 272 = .ok (.iload 6, 2) := by decide +kernel
theorem dM_add0_274 : decode cM_add0 274 = .ok (.ifCond .ne 7, 3) := by decide +kernel
theorem dM_add0_277 : decode cM_add0 277 = .ok (.iload_n 3, 1) := by decide +kernel
theorem dM_add0_278 : decode cM_add0 278 = .ok (.goto 4, 3) := by decide +kernel
theorem dM_add0_281 : decode cM_add0 281 = .ok (.iconst 1, 1) := by decide +kernel
theorem dM_add0_282 : decode cM_add0 282 = .ok (.iload 6, 2) := by decide +kernel
theorem dM_add0_284 : decode cM_add0 284 = .ok (.ifCond .ne 7, 3) := by decide +kernel
theorem dM_add0_287 : decode cM_add0 287 = .ok (.iconst 1, 1) := by decide +kernel
theorem dM_add0_288 : decode cM_add0 288 = .ok (.goto 4, 3) := by decide +kernel
theorem dM_add0_291 : decode cM_add0 291 = .ok (.iconst 0, 1) := by decide +kernel
theorem dM_add0_292 : decode cM_add0 292 = .ok (.invokevirtual 90, 3) := by decide +kernel
theorem dM_add0_295 : decode cM_add0 295 = .ok (.iinc 6 1, 3) := by decide +kernel
theorem dM_add0_298 : decode cM_add0 298 = .ok (.goto (-35), 3) := by decide +kernel
theorem dM_add0_301 : decode cM_add0 301 = .ok (.aload_n 0, 1) := by decide +kernel
theorem dM_add0_302 : decode cM_add0 302 = .ok (.getfield 55, 3) := by decide +kernel
theorem dM_add0_305 : decode cM_add0 305 = .ok (.iconst 1, 1) := by decide +kernel
theorem dM_add0_306 : decode cM_add0 306 = .ok (.isub, 1) := by decide +kernel
theorem dM_add0_307 : decode cM_add0 307 = .ok (.ireturn, 1) := by decide +kernel
theorem dM_come_0 : decode cM_come 0 = .ok (.aload_n 0, 1) := by decide +kernel
theorem dM_come_1 : decode cM_come 1 = .ok (.getfield 55, 3) := by decide +kernel
theorem dM_come_4 : decode cM_come 4 = .ok (.istore 4, 2) := by decide +kernel
theorem dM_come_6 : decode cM_come 6 = .ok (.aload_n 0, 1) := by decide +kernel
theorem dM_come_7 : decode cM_come 7 = .ok (.getfield 21, 3) := by decide +kernel
theorem dM_come_10 : decode cM_come 10 = .ok (.iload 4, 2) := by decide +kernel
theorem dM_come_12 : decode cM_come 12 = .ok (.iload_n 1, 1) := by decide +kernel
theorem dM_come_13 : decode cM_come 13 = .ok (.i2s, 1) := by decide +kernel
theorem dM_come_14 : decode cM_come 14 = .ok (.sastore, 1) := by decide +kernel
theorem dM_come_15 : decode cM_come 15 = .ok (.aload_n 0, 1) := by decide +kernel
theorem dM_come_16 : decode cM_come 16 = .ok (.getfield 25, 3) := by decide +kernel
theorem dM_come_19 : decode cM_come 19 = .ok (.iload 4, 2) := by decide +kernel
theorem dM_come_21 : decode cM_come 21 = .ok (.aload_n 0, 1) := by decide +kernel
theorem dM_come_22 : decode cM_come 22 = .ok (.getfield 13, 3) := by decide +kernel
theorem dM_come_25 : decode cM_come 25 = .ok (.iload_n 1, 1) := by decide +kernel
theorem dM_come_26 : decode cM_come 26 = .ok (.iaload, 1) := by decide +kernel
theorem dM_come_27 : decode cM_come 27 = .ok (.i2s, 1) := by decide +kernel
theorem dM_come_28 : decode cM_come 28 = .ok (.sastore, 1) := by decide +kernel
theorem dM_come_29 : decode cM_come 29 = .ok (.aload_n 0, 1) := by decide +kernel
theorem dM_come_30 : decode cM_come 30 = .ok (.getfield 28, 3) := by decide +kernel
theorem dM_come_33 : decode cM_come 33 = .ok (.iload 4, 2) := by decide +kernel
theorem dM_come_35 : decode cM_come 35 = .ok (.iload_n 2, 1) := by decide +kernel
theorem dM_come_36 : decode cM_come 36 = .ok (.i2s, 1) := by decide +kernel
theorem dM_come_37 : decode cM_come 37 = .ok (.sastore, 1) := by decide +kernel
theorem dM_come_38 : decode cM_come 38 = .ok (.iconst 0, 1) := by decide +kernel
theorem dM_come_39 : decode cM_come 39 = .ok (.istore 5, 2) := by decide +kernel
theorem dM_come_41 : decode cM_come 41 = .ok (.iload 5, 2) := by decide +kernel
theorem dM_come_43 : decode cM_come 43 = .ok (.bipush 16, 2) := by decide +kernel
theorem dM_come_45 : decode cM_come 45 = .ok (.if_icmp .ge 23, 3) := by decide +kernel
theorem dM_come_48 : decode cM_come 48 = .ok (.aload_n 0, 1) := by decide +kernel
theorem dM_come_49 : decode cM_come 49 = .ok (.getfield 35, 3) := by decide +kernel
theorem dM_come_52 : decode cM_come 52 = .ok (.bipush 16, 2) := by decide +kernel
theorem dM_come_54 : decode cM_come 54 = .ok (.iload 4, 2) := by decide +kernel
theorem dM_come_56 : decode cM_come 56 = .ok (.imul, 1) := by decide +kernel
theorem dM_come_57 : decode cM_come 57 = .ok (.iload 5, 2) := by decide +kernel
theorem dM_come_59 : decode cM_come 59 = .ok (.iadd, 1) := by decide +kernel
theorem dM_come_60 : decode cM_come 60 = .ok (.iconst 0, 1) := by decide +kernel
theorem dM_come_61 : decode cM_come 61 = .ok (.sastore, 1) := by decide +kernel
theorem dM_come_62 : decode cM_come 62 = .ok (.iinc 5 1, 3) := by decide +kernel
theorem dM_come_65 : decode cM_come 65 = .ok (.goto (-24), 3) := by decide +kernel
theorem dM_come_68 : decode cM_come 68 = .ok (.iconst 0, 1) := by decide +kernel
theorem dM_come_69 : decode cM_come 69 = .ok (.istore 5, 2) := by decide +kernel
theorem dM_come_71 : decode cM_come 71 = .ok (.iload 5, 2) := by decide +kernel
theorem dM_come_73 : decode cM_come 73 = .ok (.iload_n 2, 1) := by decide +kernel
theorem dM_come_74 : decode cM_come 74 = .ok (.if_icmp .ge 179, 3) := by decide +kernel
theorem dM_come_77 : decode cM_come 77 = .ok (.iload_n 3, 1) := by decide +kernel
theorem dM_come_78 : decode cM_come 78 = .ok (.ifCond .eq 13, 3) := by decide +kernel
theorem dM_come_81 : decode cM_come 81 = .ok (.aload_n 0, 1) := by decide +kernel
theorem dM_come_82 : decode cM_come 82 = .ok (.getfield 38, 3) := by decide +kernel
theorem dM_come_85 : decode cM_come 85 = .ok (.iload 5, 2) := by decide +kernel
theorem dM_come_87 : decode cM_come 87 = .ok (.iaload, 1) := by decide +kernel
theorem dM_come_88 : decode cM_come 88 = .ok (.goto 7, 3) := by decide +kernel
theorem dM_come_91 : decode cM_come 91 = .ok (.iload 4, 2) := by decide +kernel
theorem dM_come_93 : decode cM_come 93 = .ok (.iconst 1, 1) := by decide +kernel
theorem dM_come_94 : decode cM_come 94 = .ok (.isub, 1) := by decide +kernel
theorem dM_come_95 : decode cM_come 95 = .ok (.istore 6, 2) := by decide +kernel
theorem dM_come_97 : decode cM_come 97 = .ok (.iload 5, 2) := by decide +kernel
theorem dM_come_99 : decode cM_come 99 = .ok (.istore 7, 2) := by decide +kernel
theorem dM_come_101 : decode cM_come 101 = .ok (.iload 7, 2) := by decide +kernel
theorem dM_come_103 : decode cM_come 103 = .ok (.ifCond .le 57, 3) := by decide +kernel
theorem dM_come_106 : decode cM_come 106 = .ok (.aload_n 0, 1) := by decide +kernel
theorem dM_come_107 : decode cM_come 107 = .ok (.getfield 32, 3) := by decide +kernel
theorem dM_come_110 : decode cM_come 110 = .ok (.bipush 16, 2) := by decide +kernel
theorem dM_come_112 : decode cM_come 112 = .ok (.iload 4, 2) := by decide +kernel
theorem dM_come_114 : decode cM_come 114 = .ok (.imul, 1) := by decide +kernel
theorem dM_come_115 : decode cM_come 115 = .ok (.iload 7, 2) := by decide +kernel
theorem dM_come_117 : decode cM_come 117 = .ok (.iadd, 1) := by decide +kernel
theorem dM_come_118 : decode cM_come 118 = .ok (.iconst 1, 1) := by decide +kernel
theorem dM_come_119 : decode cM_come 119 = .ok (.isub, 1) := by decide +kernel
theorem dM_come_120 : decode cM_come 120 = .ok (.saload, 1) := by decide +kernel
theorem dM_come_121 : decode cM_come 121 = .ok (.iload 6, 2) := by decide +kernel
theorem dM_come_123 : decode cM_come 123 = .ok (.if_icmp .le 37, 3) := by decide +kernel
theorem dM_come_126 : decode cM_come 126 = .ok (.aload_n 0, 1) := by decide +kernel
theorem dM_come_127 : decode cM_come 127 = .ok (.getfield 32, 3) := by decide +kernel
theorem dM_come_130 : decode cM_come 130 = .ok (.bipush 16, 2) := by decide +kernel
theorem dM_come_132 : decode cM_come 132 = .ok (.iload 4, 2) := by decide +kernel
theorem dM_come_134 : decode cM_come 134 = .ok (.imul, 1) := by decide +kernel
theorem dM_come_135 : decode cM_come 135 = .ok (.iload 7, 2) := by decide +kernel
theorem dM_come_137 : decode cM_come 137 = .ok (.iadd, 1) := by decide +kernel
theorem dM_come_138 : decode cM_come 138 = .ok (.aload_n 0, 1) := by decide +kernel
theorem dM_come_139 : decode cM_come 139 = .ok (.getfield 32, 3) := by decide +kernel
theorem dM_come_142 : decode cM_come 142 = .ok (.bipush 16, 2) := by decide +kernel
theorem dM_come_144 : decode cM_come 144 = .ok (.iload 4, 2) := by decide +kernel
theorem dM_come_146 : decode cM_come 146 = .ok (.imul, 1) := by decide +kernel
theorem dM_come_147 : decode cM_come 147 = .ok (.iload 7, 2) := by decide +kernel
theorem dM_come_149 : decode cM_come 149 = .ok (.iadd, 1) := by decide +kernel
theorem dM_come_150 : decode cM_come 150 = .ok (.iconst 1, 1) := by decide +kernel
theorem dM_come_151 : decode cM_come 151 = .ok (.isub, 1) := by decide +kernel
theorem dM_come_152 : decode cM_come 152 = .ok (.saload, 1) := by decide +kernel
theorem dM_come_153 : decode cM_come 153 = .ok (.sastore, 1) := by decide +kernel
theorem dM_come_154 : decode cM_come 154 = .ok (.iinc 7 (-1), 3) := by decide +kernel
theorem dM_come_157 : decode cM_come 157 = .ok (.goto (-56), 3) := by decide +kernel
theorem dM_come_160 : decode cM_come 160 = .ok (.aload_n 0, 1) := by decide +kernel
theorem dM_come_161 : decode cM_come 161 = .ok (.getfield 32, 3) := by decide +kernel
theorem dM_come_164 : decode cM_come 164 = .ok (.bipush 16, 2) := by decide +kernel
theorem dM_come_166 : decode cM_come 166 = .ok (.iload 4, 2) := by decide +kernel
theorem dM_come_168 : decode cM_come 168 = .ok (.imul, 1) := by decide +kernel
theorem dM_come_169 : decode cM_come 169 = .ok (.iload 7, 2) := by decide +kernel
theorem dM_come_171 : decode cM_come 171 = .ok (.iadd, 1) := by decide +kernel
theorem dM_come_172 : decode cM_come 172 = .ok (.iload 6, 2) := by decide +kernel
theorem dM_come_174 : decode cM_come 174 = .ok (.i2s, 1) := by decide +kernel
theorem dM_come_175 : decode cM_come 175 = .ok (.sastore, 1) := by decide +kernel
theorem dM_come_176 : decode cM_come 176 = .ok (.iconst 0, 1) := by decide +kernel
theorem dM_come_177 : decode cM_come 177 = .ok (.istore 8, 2) := by decide +kernel
theorem dM_come_179 : decode cM_come 179 = .ok (.iload 8, 2) := by decide +kernel
theorem dM_come_181 : decode cM_come 181 = .ok (.bipush 16, 2) := by decide +kernel
theorem dM_come_183 : decode cM_come 183 = .ok (.if_icmp .ge 64, 3) := by decide +kernel
theorem dM_come_186 : decode cM_come 186 = .ok (.aload_n 0, 1) := by decide +kernel
theorem dM_come_187 : decode cM_come 187 = .ok (.getfield 35, 3) := by decide +kernel
theorem dM_come_190 : decode cM_come 190 = .ok (.bipush 16, 2) := by decide +kernel
theorem dM_come_192 : decode cM_come 192 = .ok (.iload 6, 2) := by decide +kernel
theorem dM_come_194 : decode cM_come 194 = .ok (.imul, 1) := by decide +kernel
theorem dM_come_195 : decode cM_come 195 = .ok (.iload 8, 2) := by decide +kernel
theorem dM_come_197 : decode cM_come 197 = .ok (.iadd, 1) := by decide +kernel
theorem dM_come_198 : decode cM_come 198 = .ok (.saload, 1) := by decide +kernel
theorem dM_come_199 : decode cM_come 199 = .ok (.aload_n 0, 1) := by decide +kernel
theorem dM_come_200 : decode cM_come 200 = .ok (.getfield 35, 3) := by decide +kernel
theorem dM_come_203 : decode cM_come 203 = .ok (.bipush 16, 2) := by decide +kernel
theorem dM_come_205 : decode cM_come 205 = .ok (.iload 4, 2) := by decide +kernel
theorem dM_come_207 : decode cM_come 207 = .ok (.imul, 1) := by decide +kernel
theorem dM_come_208 : decode cM_come 208 = .ok (.iload 8, 2) := by decide +kernel
theorem dM_come_210 : decode cM_come 210 = .ok (.iadd, 1) := by decide +kernel
theorem dM_come_211 : decode cM_come 211 = .ok (.saload, 1) := by decide +kernel
theorem dM_come_212 : decode cM_come 212 = .ok (.if_icmp .le 29, 3) := by decide +kernel
theorem dM_come_215 : decode cM_come 215 = .ok (.aload_n 0, 1) := by decide +kernel
theorem dM_come_216 : decode cM_come 216 = .ok (.getfield 35, 3) := by decide +kernel
theorem dM_come_219 : decode cM_come 219 = .ok (.bipush 16, 2) := by decide +kernel
theorem dM_come_221 : decode cM_come 221 = .ok (.iload 4, 2) := by decide +kernel
theorem dM_come_223 : decode cM_come 223 = .ok (.imul, 1) := by decide +kernel
theorem dM_come_224 : decode cM_come 224 = .ok (.iload 8, 2) := by decide +kernel
theorem dM_come_226 : decode cM_come 226 = .ok (.iadd, 1) := by decide +kernel
theorem dM_come_227 : decode cM_come 227 = .ok (.aload_n 0, 1) := by decide +kernel
theorem dM_come_228 : decode cM_come 228 = .ok (.getfield 35, 3) := by decide +kernel
theorem dM_come_231 : decode cM_come 231 = .ok (.bipush 16, 2) := by decide +kernel
theorem dM_come_233 : decode cM_come 233 = .ok (.iload 6, 2) := by decide +kernel
theorem dM_come_235 : decode cM_come 235 = .ok (.imul, 1) := by decide +kernel
theorem dM_come_236 : decode cM_come 236 = .ok (.iload 8, 2) := by decide +kernel
theorem dM_come_238 : decode cM_come 238 = .ok (.iadd, 1) := by decide +kernel
theorem dM_come_239 : decode cM_come 239 = .ok (.saload, 1) := by decide +kernel
theorem dM_come_240 : decode cM_come 240 = .ok (.sastore, 1) := by decide +kernel
theorem dM_come_241 : decode cM_come 241 = .ok (.iinc 8 1, 3) := by decide +kernel
theorem dM_come_244 : decode cM_come 244 = .ok (.goto (-65), 3) := by decide +kernel
theorem dM_come_247 : decode cM_come 247 = .ok (.iinc 5 1, 3) := by decide +kernel
theorem dM_come_250 : decode cM_come 250 = .ok (.goto (-179), 3) := by decide +kernel
theorem dM_come_253 : decode cM_come 253 = .ok (.aload_n 0, 1) := by decide +kernel
theorem dM_come_254 : decode cM_come 254 = .ok (.getfield 13, 3) := by decide +kernel
theorem dM_come_257 : decode cM_come 257 = .ok (.iload_n 1, 1) := by decide +kernel
theorem dM_come_258 : decode cM_come 258 = .ok (.iaload, 1) := by decide +kernel
theorem dM_come_259 : decode cM_come 259 = .ok (.aload_n 0, 1) := by decide +kernel
theorem dM_come_260 : decode cM_come 260 = .ok (.getfield 18, 3) := by decide +kernel
theorem dM_come_263 : decode cM_come 263 = .ok (.iload_n 1, 1) := by decide +kernel
theorem dM_come_264 : decode cM_come 264 = .ok (.aaload, 1) := by decide +kernel
theorem dM_come_265 : decode cM_come 265 = .ok (.arraylength, 1) := by decide +kernel
theorem dM_come_266 : decode cM_come 266 = .ok (.if_icmp .ne 26, 3) := by decide +kernel
theorem dM_come_269 : decode cM_come 269 = .ok (.aload_n 0, 1) := by decide +kernel
theorem dM_come_270 : decode cM_come 270 = .ok (.getfield 18, 3) := by decide +kernel
theorem dM_come_273 : decode cM_come 273 = .ok (.iload_n 1, 1) := by decide +kernel
theorem dM_come_274 : decode cM_come 274 = .ok (.aload_n 0, 1) := by decide +kernel
theorem dM_come_275 : decode cM_come 275 = .ok (.getfield 18, 3) := by decide +kernel
theorem dM_come_278 : decode cM_come 278 = .ok (.iload_n 1, 1) := by decide +kernel
theorem dM_come_279 : decode cM_come 279 = .ok (.aaload, 1) := by decide +kernel
theorem dM_come_280 : decode cM_come 280 = .ok (.iconst 2, 1) := by decide +kernel
theorem dM_come_281 : decode cM_come 281 = .ok (.aload_n 0, 1) := by decide +kernel
theorem dM_come_282 : decode cM_come 282 = .ok (.getfield 13, 3) := by decide +kernel
theorem dM_come_285 : decode cM_come 285 = .ok (.iload_n 1, 1) := by decide +kernel
theorem dM_come_286 : decode cM_come 286 = .ok (.iaload, 1) := by decide +kernel
theorem dM_come_287 : decode cM_come 287 = .ok (.imul, 1) := by decide +kernel
theorem dM_come_288 : decode cM_come 288 = .ok (.invokestatic 94, 3) := by decide +kernel
theorem dM_come_291 : decode cM_come 291 = .ok (.aastore, 1) := by decide +kernel
theorem dM_come_292 : decode cM_come 292 = .ok (.aload_n 0, 1) := by decide +kernel
theorem dM_come_293 : decode cM_come 293 = .ok (.getfield 18, 3) := by decide +kernel
theorem dM_come_296 : decode cM_come 296 = .ok (.iload_n 1, 1) := by decide +kernel
theorem dM_come_297 : decode cM_come 297 = .ok (.aaload, 1) := by decide +kernel
theorem dM_come_298 : decode cM_come 298 = .ok (.aload_n 0, 1) := by decide +kernel
theorem dM_come_299 : decode cM_come 299 = .ok (.getfield 13, 3) := by decide +kernel
theorem dM_come_302 : decode cM_come 302 = .ok (.iload_n 1, 1) := by decide +kernel
theorem dM_come_303 : decode cM_come 303 = .ok (.iaload, 1) := by decide +kernel
theorem dM_come_304 : decode cM_come 304 = .ok (.iload 4, 2) := by decide +kernel
theorem dM_come_306 : decode cM_come 306 = .ok (.iastore, 1) := by decide +kernel
theorem dM_come_307 : decode cM_come 307 = .ok (.aload_n 0, 1) := by decide +kernel
theorem dM_come_308 : decode cM_come 308 = .ok (.getfield 13, 3) := by decide +kernel
theorem dM_come_311 : decode cM_come 311 = .ok (.iload_n 1, 1) := by decide +kernel
theorem dM_come_312 : decode cM_come 312 = .ok (.dup2, 1) := by decide +kernel
theorem dM_come_313 : decode cM_come 313 = .ok (.iaload, 1) := by decide +kernel
theorem dM_come_314 : decode cM_come 314 = .ok (.iconst 1, 1) := by decide +kernel
theorem dM_come_315 : decode cM_come 315 = .ok (.iadd, 1) := by decide +kernel
theorem dM_come_316 : decode cM_come 316 = .ok (.iastore, 1) := by decide +kernel
theorem dM_come_317 : decode cM_come 317 = .ok (.aload_n 0, 1) := by decide +kernel
theorem dM_come_318 : decode cM_come 318 = .ok (.getfield 35, 3) := by decide +kernel
theorem dM_come_321 : decode cM_come 321 = .ok (.bipush 16, 2) := by decide +kernel
theorem dM_come_323 : decode cM_come 323 = .ok (.iload 4, 2) := by decide +kernel
theorem dM_come_325 : decode cM_come 325 = .ok (.imul, 1) := by decide +kernel
theorem dM_come_326 : decode cM_come 326 = .ok (.iload_n 1, 1) := by decide +kernel
theorem dM_come_327 : decode cM_come 327 = .ok (.iadd, 1) := by decide +kernel
theorem dM_come_328 : decode cM_come 328 = .ok (.aload_n 0, 1) := by decide +kernel
theorem dM_come_329 : decode cM_come 329 = .ok (.getfield 13, 3) := by decide +kernel
theorem dM_come_332 : decode cM_come 332 = .ok (.iload_n 1, 1) := by decide +kernel
theorem dM_come_333 : decode cM_come 333 = .ok (.iaload, 1) := by decide +kernel
theorem dM_come_334 : decode cM_come 334 = .ok (.i2s, 1) := by decide +kernel
theorem dM_come_335 : decode cM_come 335 = .ok (.sastore, 1) := by decide +kernel
theorem dM_come_336 : decode cM_come 336 = .ok (.aload_n 0, 1) := by decide +kernel
theorem dM_come_337 : decode cM_come 337 = .ok (.dup, 1) := by decide +kernel
theorem dM_come_338 : decode cM_come 338 = .ok (.getfield 55, 3) := by decide +kernel
theorem dM_come_341 : decode cM_come 341 = .ok (.iconst 1, 1) := by decide +kernel
theorem dM_come_342 : decode cM_come 342 = .ok (.iadd, 1) := by decide +kernel
theorem dM_come_343 : decode cM_come 343 = .ok (.putfield 55, 3) := by decide +kernel
theorem dM_come_346 : decode cM_come 346 = .ok (.return_, 1) := by decide +kernel
theorem dM_events_0 : decode cM_events 0 = .ok (.aload_n 0, 1) := by decide +kernel
theorem dM_events_1 : decode cM_events 1 = .ok (.iconst 0, 1) := by decide +kernel
theorem dM_events_2 : decode cM_events 2 = .ok (.putfield 113, 3) := by decide +kernel
theorem dM_events_5 : decode cM_events 5 = .ok (.aload_n 0, 1) := by decide +kernel
theorem dM_events_6 : decode cM_events 6 = .ok (.iload_n 1, 1) := by decide +kernel
theorem dM_events_7 : decode cM_events 7 = .ok (.invokevirtual 126, 3) := by decide +kernel
theorem dM_events_10 : decode cM_events 10 = .ok (.ireturn, 1) := by decide +kernel
theorem dM_events_11 : decode cM_events 11 = .ok (.astore_n 2, 1) := by decide +kernel
theorem dM_events_12 : decode cM_events 12 = .ok (.aload_n 0, 1) := by decide +kernel
theorem dM_events_13 : decode cM_events 13 = .ok (.iconst 1, 1) := by decide +kernel
theorem dM_events_14 : decode cM_events 14 = .ok (.putfield 113, 3) := by decide +kernel
theorem dM_events_17 : decode cM_events 17 = .ok (.iconst 0, 1) := by decide +kernel
theorem dM_events_18 : decode cM_events 18 = .ok (.ireturn, 1) := by decide +kernel
theorem dM_events0_0 : decode cM_events0 0 = .ok (.iload_n 1, 1) := by decide +kernel
theorem dM_events0_1 : decode cM_events0 1 = .ok (.iconst (-1), 1) := by decide +kernel
theorem dM_events0_2 : decode cM_events0 2 = .ok (.if_icmp .lt 10, 3) := by decide +kernel
theorem dM_events0_5 : decode cM_events0 5 = .ok (.iload_n 1, 1) := by decide +kernel
theorem dM_events0_6 : decode cM_events0 6 = .ok (.sipush 255, 3) := by decide +kernel
theorem dM_events0_9 : decode cM_events0 9 = .ok (.if_icmp .le 11, 3) := by decide +kernel
theorem dM_events0_12 : decode cM_events0 12 = .ok (.new 87, 3) := by decide +kernel
theorem dM_events0_15 : decode cM_events0 15 = .ok (.dup, 1) := by decide +kernel
theorem dM_events0_16 : decode cM_events0 16 = .ok (.invokespecial 89, 3) := by decide +kernel
theorem dM_events0_19 : decode cM_events0 19 = .ok (.athrow, 1) := by decide +kernel
theorem dM_events0_20 : decode cM_events0 20 = .ok (.aload_n 0, 1) := by decide +kernel
theorem dM_events0_21 : decode cM_events0 21 = .ok (.iload_n 1, 1) := by decide +kernel
theorem dM_events0_22 : decode cM_events0 22 = .ok (.invokevirtual 51, 3) := by decide +kernel
theorem dM_events0_25 : decode cM_events0 25 = .ok (.istore_n 2, 1) := by decide +kernel
theorem dM_events0_26 : decode cM_events0 26 = .ok (.iload_n 1, 1) := by decide +kernel
theorem dM_events0_27 : decode cM_events0 27 = .ok (.ifCond .ge 10, 3) := by decide +kernel
theorem dM_events0_30 : decode cM_events0 30 = .ok (.aload_n 0, 1) := by decide +kernel
theorem dM_events0_31 : decode cM_events0 31 = .ok (.getfield 55, 3) := by decide +kernel
theorem dM_events0_34 : decode cM_events0 34 = .ok (.goto 17, 3) := by decide +kernel
theorem dM_events0_37 : decode cM_events0 37 = .ok (.iload_n 2, 1) := by decide +kernel
theorem dM_events0_38 : decode cM_events0 38 = .ok (.ifCond .ge 7, 3) := by decide +kernel
theorem dM_events0_41 : decode cM_events0 41 = .ok (.iconst 0, 1) := by decide +kernel
theorem dM_events0_42 : decode cM_events0 42 = .ok (.goto 9, 3) := by decide +kernel
theorem dM_events0_45 : decode cM_events0 45 = .ok (.aload_n 0, 1) := by decide +kernel
theorem dM_events0_46 : decode cM_events0 46 = .ok (.getfield 13, 3) := by decide +kernel
theorem dM_events0_49 : decode cM_events0 49 = .ok (.iload_n 2, 1) := by decide +kernel
theorem dM_events0_50 : decode cM_events0 50 = .ok (.iaload, 1) := by decide +kernel
theorem dM_events0_51 : decode cM_events0 51 = .ok (.ireturn, 1) := by decide +kernel
theorem dM_place_0 : decode cM_place 0 = .ok (.aload_n 0, 1) := by decide +kernel
theorem dM_place_1 : decode cM_place 1 = .ok (.iconst 0, 1) := by decide +kernel
theorem dM_place_2 : decode cM_place 2 = .ok (.putfield 113, 3) := by decide +kernel
theorem dM_place_5 : decode cM_place 5 = .ok (.aload_n 0, 1) := by decide +kernel
theorem dM_place_6 : decode cM_place 6 = .ok (.iload_n 1, 1) := by decide +kernel
theorem dM_place_7 : decode cM_place 7 = .ok (.iload_n 2, 1) := by decide +kernel
theorem dM_place_8 : decode cM_place 8 = .ok (.invokevirtual 129, 3) := by decide +kernel
theorem dM_place_11 : decode cM_place 11 = .ok (.ireturn, 1) := by decide +kernel
theorem dM_place_12 : decode cM_place 12 = .ok (.astore_n 3, 1) := by decide +kernel
theorem dM_place_13 : decode cM_place 13 = .ok (.aload_n 0, 1) := by decide +kernel
theorem dM_place_14 : decode cM_place 14 = .ok (.iconst 1, 1) := by decide +kernel
theorem dM_place_15 : decode cM_place 15 = .ok (.putfield 113, 3) := by decide +kernel
theorem dM_place_18 : decode cM_place 18 = .ok (.iconst 0, 1) := by decide +kernel
theorem dM_place_19 : decode cM_place 19 = .ok (.ireturn, 1) := by decide +kernel
theorem dM_place0_0 : decode cM_place0 0 = .ok (.aload_n 0, 1) := by decide +kernel
theorem dM_place0_1 : decode cM_place0 1 = .ok (.iload_n 1, 1) := by decide +kernel
theorem dM_place0_2 : decode cM_place0 2 = .ok (.iload_n 2, 1) := by decide +kernel
theorem dM_place0_3 : decode cM_place0 3 = .ok (.invokevirtual 58, 3) := by decide +kernel
theorem dM_place0_6 : decode cM_place0 6 = .ok (.istore_n 3, 1) := by decide +kernel
theorem dM_place0_7 : decode cM_place0 7 = .ok (.iload_n 3, 1) := by decide +kernel
theorem dM_place0_8 : decode cM_place0 8 = .ok (.ifCond .lt 7, 3) := by decide +kernel
theorem dM_place0_11 : decode cM_place0 11 = .ok (.iconst 1, 1) := by decide +kernel
theorem dM_place0_12 : decode cM_place0 12 = .ok (.goto 4, 3) := by decide +kernel
theorem dM_place0_15 : decode cM_place0 15 = .ok (.iconst 0, 1) := by decide +kernel
theorem dM_place0_16 : decode cM_place0 16 = .ok (.invokestatic 62, 3) := by decide +kernel
theorem dM_place0_19 : decode cM_place0 19 = .ok (.iload_n 3, 1) := by decide +kernel
theorem dM_place0_20 : decode cM_place0 20 = .ok (.ireturn, 1) := by decide +kernel
