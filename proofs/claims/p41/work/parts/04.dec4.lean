theorem dL_areShots_185 : decode cL_areShots 185 = .ok (.iconst 0, 1) := by decide +kernel
theorem dL_areShots_186 : decode cL_areShots 186 = .ok (.istore 4, 2) := by decide +kernel
theorem dL_areShots_188 : decode cL_areShots 188 = .ok (.iconst 0, 1) := by decide +kernel
theorem dL_areShots_189 : decode cL_areShots 189 = .ok (.istore 7, 2) := by decide +kernel
theorem dL_areShots_191 : decode cL_areShots 191 = .ok (.iload 7, 2) := by decide +kernel
theorem dL_areShots_193 : decode cL_areShots 193 = .ok (.iconst 3, 1) := by decide +kernel
theorem dL_areShots_194 : decode cL_areShots 194 = .ok (.if_icmp .ge 100, 3) := by decide +kernel
theorem dL_areShots_197 : decode cL_areShots 197 = .ok (.iload 4, 2) := by decide +kernel
theorem dL_areShots_199 : decode cL_areShots 199 = .ok (.ifCond .eq 95, 3) := by decide +kernel
theorem dL_areShots_202 : decode cL_areShots 202 = .ok (.iload 6, 2) := by decide +kernel
theorem dL_areShots_204 : decode cL_areShots 204 = .ok (.ifCond .lt 90, 3) := by decide +kernel
theorem dL_areShots_207 : decode cL_areShots 207 = .ok (.iconst 0, 1) := by decide +kernel
theorem dL_areShots_208 : decode cL_areShots 208 = .ok (.istore 8, 2) := by decide +kernel
theorem dL_areShots_210 : decode cL_areShots 210 = .ok (.iconst 0, 1) := by decide +kernel
theorem dL_areShots_211 : decode cL_areShots 211 = .ok (.istore 9, 2) := by decide +kernel
theorem dL_areShots_213 : decode cL_areShots 213 = .ok (.iload 9, 2) := by decide +kernel
theorem dL_areShots_215 : decode cL_areShots 215 = .ok (.iconst 4, 1) := by decide +kernel
theorem dL_areShots_216 : decode cL_areShots 216 = .ok (.if_icmp .ge 43, 3) := by decide +kernel
theorem dL_areShots_219 : decode cL_areShots 219 = .ok (.iload 8, 2) := by decide +kernel
theorem dL_areShots_221 : decode cL_areShots 221 = .ok (.aload_n 1, 1) := by decide +kernel
theorem dL_areShots_222 : decode cL_areShots 222 = .ok (.iconst 4, 1) := by decide +kernel
theorem dL_areShots_223 : decode cL_areShots 223 = .ok (.iload 7, 2) := by decide +kernel
theorem dL_areShots_225 : decode cL_areShots 225 = .ok (.imul, 1) := by decide +kernel
theorem dL_areShots_226 : decode cL_areShots 226 = .ok (.iload 9, 2) := by decide +kernel
theorem dL_areShots_228 : decode cL_areShots 228 = .ok (.iadd, 1) := by decide +kernel
theorem dL_areShots_229 : decode cL_areShots 229 = .ok (.iaload, 1) := by decide +kernel
theorem dL_areShots_230 : decode cL_areShots 230 = .ok (.aload_n 1, 1) := by decide +kernel
theorem dL_areShots_231 : decode cL_areShots 231 = .ok (.bipush 12, 2) := by decide +kernel
theorem dL_areShots_233 : decode cL_areShots 233 = .ok (.iconst 4, 1) := by decide +kernel
theorem dL_areShots_234 : decode cL_areShots 234 = .ok (.iload 5, 2) := by decide +kernel
theorem dL_areShots_236 : decode cL_areShots 236 = .ok (.imul, 1) := by decide +kernel
theorem dL_areShots_237 : decode cL_areShots 237 = .ok (.iadd, 1) := by decide +kernel
theorem dL_areShots_238 : decode cL_areShots 238 = .ok (.iload 9, 2) := by decide +kernel
theorem dL_areShots_240 : decode cL_areShots 240 = .ok (.iadd, 1) := by decide +kernel
theorem dL_areShots_241 : decode cL_areShots 241 = .ok (.iaload, 1) := by decide +kernel
theorem dL_areShots_242 : decode cL_areShots 242 = .ok (.if_icmp .eq 7, 3) := by decide +kernel
theorem dL_areShots_245 : decode cL_areShots 245 = .ok (.iconst 1, 1) := by decide +kernel
theorem dL_areShots_246 : decode cL_areShots 246 = .ok (.goto 4, 3) := by decide +kernel
theorem dL_areShots_249 : decode cL_areShots 249 = .ok (.iconst 0, 1) := by decide +kernel
theorem dL_areShots_250 : decode cL_areShots 250 = .ok (.iadd, 1) := by decide +kernel
theorem dL_areShots_251 : decode cL_areShots 251 = .ok (.istore 8, 2) := by decide +kernel
theorem dL_areShots_253 : decode cL_areShots 253 = .ok (.iinc 9 1, 3) := by decide +kernel
theorem dL_areShots_256 : decode cL_areShots 256 = .ok (.goto (-43), 3) := by decide +kernel
theorem dL_areShots_259 : decode cL_areShots 259 = .ok (.aload_n 3, 1) := by decide +kernel
theorem dL_areShots_260 : decode cL_areShots 260 = .ok (.iconst 4, 1) := by decide +kernel
theorem dL_areShots_261 : decode cL_areShots 261 = .ok (.iload 7, 2) := by decide +kernel
theorem dL_areShots_263 : decode cL_areShots 263 = .ok (.iadd, 1) := by decide +kernel
theorem dL_areShots_264 : decode cL_areShots 264 = .ok (.iaload, 1) := by decide +kernel
theorem dL_areShots_265 : decode cL_areShots 265 = .ok (.ifCond .eq 16, 3) := by decide +kernel
theorem dL_areShots_268 : decode cL_areShots 268 = .ok (.aload_n 0, 1) := by decide +kernel
theorem dL_areShots_269 : decode cL_areShots 269 = .ok (.iload 6, 2) := by decide +kernel
theorem dL_areShots_271 : decode cL_areShots 271 = .ok (.iload 7, 2) := by decide +kernel
theorem dL_areShots_273 : decode cL_areShots 273 = .ok (.invokevirtual 140, 3) := by decide +kernel
theorem dL_areShots_276 : decode cL_areShots 276 = .ok (.iload 8, 2) := by decide +kernel
theorem dL_areShots_278 : decode cL_areShots 278 = .ok (.if_icmp .ne 7, 3) := by decide +kernel
theorem dL_areShots_281 : decode cL_areShots 281 = .ok (.iconst 1, 1) := by decide +kernel
theorem dL_areShots_282 : decode cL_areShots 282 = .ok (.goto 4, 3) := by decide +kernel
theorem dL_areShots_285 : decode cL_areShots 285 = .ok (.iconst 0, 1) := by decide +kernel
theorem dL_areShots_286 : decode cL_areShots 286 = .ok (.istore 4, 2) := by decide +kernel
theorem dL_areShots_288 : decode cL_areShots 288 = .ok (.iinc 7 1, 3) := by decide +kernel
theorem dL_areShots_291 : decode cL_areShots 291 = .ok (.goto (-100), 3) := by decide +kernel
theorem dL_areShots_294 : decode cL_areShots 294 = .ok (.iinc 5 1, 3) := by decide +kernel
theorem dL_areShots_297 : decode cL_areShots 297 = .ok (.goto (-291), 3) := by decide +kernel
theorem dL_areShots_300 : decode cL_areShots 300 = .ok (.iload 4, 2) := by decide +kernel
theorem dL_areShots_302 : decode cL_areShots 302 = .ok (.ireturn, 1) := by decide +kernel
theorem dL_isTold_0 : decode cL_isTold 0 = .ok (.aload_n 0, 1) := by decide +kernel
theorem dL_isTold_1 : decode cL_isTold 1 = .ok (.aload_n 1, 1) := by decide +kernel
theorem dL_isTold_2 : decode cL_isTold 2 = .ok (.aload_n 2, 1) := by decide +kernel
theorem dL_isTold_3 : decode cL_isTold 3 = .ok (.aload_n 3, 1) := by decide +kernel
theorem dL_isTold_4 : decode cL_isTold 4 = .ok (.invokestatic 143, 3) := by decide +kernel
theorem dL_isTold_7 : decode cL_isTold 7 = .ok (.ifCond .eq 36, 3) := by decide +kernel
theorem dL_isTold_10 : decode cL_isTold 10 = .ok (.aload_n 0, 1) := by decide +kernel
theorem dL_isTold_11 : decode cL_isTold 11 = .ok (.aload_n 1, 1) := by decide +kernel
theorem dL_isTold_12 : decode cL_isTold 12 = .ok (.aload_n 2, 1) := by decide +kernel
theorem dL_isTold_13 : decode cL_isTold 13 = .ok (.aload_n 3, 1) := by decide +kernel
theorem dL_isTold_14 : decode cL_isTold 14 = .ok (.invokestatic 147, 3) := by decide +kernel
theorem dL_isTold_17 : decode cL_isTold 17 = .ok (.ifCond .eq 26, 3) := by decide +kernel
theorem dL_isTold_20 : decode cL_isTold 20 = .ok (.aload_n 0, 1) := by decide +kernel
theorem dL_isTold_21 : decode cL_isTold 21 = .ok (.invokevirtual 150, 3) := by decide +kernel
theorem dL_isTold_24 : decode cL_isTold 24 = .ok (.aload_n 3, 1) := by decide +kernel
theorem dL_isTold_25 : decode cL_isTold 25 = .ok (.iconst 4, 1) := by decide +kernel
theorem dL_isTold_26 : decode cL_isTold 26 = .ok (.iaload, 1) := by decide +kernel
theorem dL_isTold_27 : decode cL_isTold 27 = .ok (.aload_n 3, 1) := by decide +kernel
theorem dL_isTold_28 : decode cL_isTold 28 = .ok (.iconst 5, 1) := by decide +kernel
theorem dL_isTold_29 : decode cL_isTold 29 = .ok (.iaload, 1) := by decide +kernel
theorem dL_isTold_30 : decode cL_isTold 30 = .ok (.iadd, 1) := by decide +kernel
theorem dL_isTold_31 : decode cL_isTold 31 = .ok (.aload_n 3, 1) := by decide +kernel
theorem dL_isTold_32 : decode cL_isTold 32 = .ok (.bipush 6, 2) := by decide +kernel
theorem dL_isTold_34 : decode cL_isTold 34 = .ok (.iaload, 1) := by decide +kernel
theorem dL_isTold_35 : decode cL_isTold 35 = .ok (.iadd, 1) := by decide +kernel
theorem dL_isTold_36 : decode cL_isTold 36 = .ok (.if_icmp .ne 7, 3) := by decide +kernel
theorem dL_isTold_39 : decode cL_isTold 39 = .ok (.iconst 1, 1) := by decide +kernel
theorem dL_isTold_40 : decode cL_isTold 40 = .ok (.goto 4, 3) := by decide +kernel
theorem dL_isTold_43 : decode cL_isTold 43 = .ok (.iconst 0, 1) := by decide +kernel
theorem dL_isTold_44 : decode cL_isTold 44 = .ok (.istore 4, 2) := by decide +kernel
theorem dL_isTold_46 : decode cL_isTold 46 = .ok (.iconst 0, 1) := by decide +kernel
theorem dL_isTold_47 : decode cL_isTold 47 = .ok (.istore 5, 2) := by decide +kernel
theorem dL_isTold_49 : decode cL_isTold 49 = .ok (.iload 5, 2) := by decide +kernel
theorem dL_isTold_51 : decode cL_isTold 51 = .ok (.iconst 3, 1) := by decide +kernel
theorem dL_isTold_52 : decode cL_isTold 52 = .ok (.if_icmp .ge 42, 3) := by decide +kernel
theorem dL_isTold_55 : decode cL_isTold 55 = .ok (.iload 4, 2) := by decide +kernel
theorem dL_isTold_57 : decode cL_isTold 57 = .ok (.ifCond .eq 37, 3) := by decide +kernel
theorem dL_isTold_60 : decode cL_isTold 60 = .ok (.aload_n 3, 1) := by decide +kernel
theorem dL_isTold_61 : decode cL_isTold 61 = .ok (.iconst 4, 1) := by decide +kernel
theorem dL_isTold_62 : decode cL_isTold 62 = .ok (.iload 5, 2) := by decide +kernel
theorem dL_isTold_64 : decode cL_isTold 64 = .ok (.iadd, 1) := by decide +kernel
theorem dL_isTold_65 : decode cL_isTold 65 = .ok (.iaload, 1) := by decide +kernel
theorem dL_isTold_66 : decode cL_isTold 66 = .ok (.ifCond .eq 15, 3) := by decide +kernel
theorem dL_isTold_69 : decode cL_isTold 69 = .ok (.aload_n 0, 1) := by decide +kernel
theorem dL_isTold_70 : decode cL_isTold 70 = .ok (.aload_n 1, 1) := by decide +kernel
theorem dL_isTold_71 : decode cL_isTold 71 = .ok (.aload_n 2, 1) := by decide +kernel
theorem dL_isTold_72 : decode cL_isTold 72 = .ok (.aload_n 3, 1) := by decide +kernel
theorem dL_isTold_73 : decode cL_isTold 73 = .ok (.iload 5, 2) := by decide +kernel
theorem dL_isTold_75 : decode cL_isTold 75 = .ok (.invokestatic 153, 3) := by decide +kernel
theorem dL_isTold_78 : decode cL_isTold 78 = .ok (.ifCond .eq 7, 3) := by decide +kernel
theorem dL_isTold_81 : decode cL_isTold 81 = .ok (.iconst 1, 1) := by decide +kernel
theorem dL_isTold_82 : decode cL_isTold 82 = .ok (.goto 4, 3) := by decide +kernel
theorem dL_isTold_85 : decode cL_isTold 85 = .ok (.iconst 0, 1) := by decide +kernel
theorem dL_isTold_86 : decode cL_isTold 86 = .ok (.istore 4, 2) := by decide +kernel
theorem dL_isTold_88 : decode cL_isTold 88 = .ok (.iinc 5 1, 3) := by decide +kernel
theorem dL_isTold_91 : decode cL_isTold 91 = .ok (.goto (-42), 3) := by decide +kernel
theorem dL_isTold_94 : decode cL_isTold 94 = .ok (.iload 4, 2) := by decide +kernel
theorem dL_isTold_96 : decode cL_isTold 96 = .ok (.ireturn, 1) := by decide +kernel
theorem dL_places_0 : decode cL_places 0 = .ok (.iload 6, 2) := by decide +kernel
theorem dL_places_2 : decode cL_places 2 = .ok (.iconst 4, 1) := by decide +kernel
theorem dL_places_3 : decode cL_places 3 = .ok (.irem, 1) := by decide +kernel
theorem dL_places_4 : decode cL_places 4 = .ok (.istore 7, 2) := by decide +kernel
theorem dL_places_6 : decode cL_places 6 = .ok (.iconst 4, 1) := by decide +kernel
theorem dL_places_7 : decode cL_places 7 = .ok (.iload 5, 2) := by decide +kernel
theorem dL_places_9 : decode cL_places 9 = .ok (.imul, 1) := by decide +kernel
theorem dL_places_10 : decode cL_places 10 = .ok (.iload 7, 2) := by decide +kernel
theorem dL_places_12 : decode cL_places 12 = .ok (.iadd, 1) := by decide +kernel
theorem dL_places_13 : decode cL_places 13 = .ok (.istore 8, 2) := by decide +kernel
theorem dL_places_15 : decode cL_places 15 = .ok (.iload 4, 2) := by decide +kernel
theorem dL_places_17 : decode cL_places 17 = .ok (.bipush 7, 2) := by decide +kernel
theorem dL_places_19 : decode cL_places 19 = .ok (.if_icmp .ge 170, 3) := by decide +kernel
theorem dL_places_22 : decode cL_places 22 = .ok (.aload_n 1, 1) := by decide +kernel
theorem dL_places_23 : decode cL_places 23 = .ok (.iload 8, 2) := by decide +kernel
theorem dL_places_25 : decode cL_places 25 = .ok (.iaload, 1) := by decide +kernel
theorem dL_places_26 : decode cL_places 26 = .ok (.ifCond .le 15, 3) := by decide +kernel
theorem dL_places_29 : decode cL_places 29 = .ok (.aload_n 1, 1) := by decide +kernel
theorem dL_places_30 : decode cL_places 30 = .ok (.iload 8, 2) := by decide +kernel
theorem dL_places_32 : decode cL_places 32 = .ok (.iaload, 1) := by decide +kernel
theorem dL_places_33 : decode cL_places 33 = .ok (.iconst 1, 1) := by decide +kernel
theorem dL_places_34 : decode cL_places 34 = .ok (.isub, 1) := by decide +kernel
theorem dL_places_35 : decode cL_places 35 = .ok (.invokestatic 83, 3) := by decide +kernel
theorem dL_places_38 : decode cL_places 38 = .ok (.goto 4, 3) := by decide +kernel
theorem dL_places_41 : decode cL_places 41 = .ok (.iconst (-1), 1) := by decide +kernel
theorem dL_places_42 : decode cL_places 42 = .ok (.istore 9, 2) := by decide +kernel
theorem dL_places_44 : decode cL_places 44 = .ok (.iload 9, 2) := by decide +kernel
theorem dL_places_46 : decode cL_places 46 = .ok (.ifCond .lt 36, 3) := by decide +kernel
theorem dL_places_49 : decode cL_places 49 = .ok (.aload_n 2, 1) := by decide +kernel
theorem dL_places_50 : decode cL_places 50 = .ok (.iload 9, 2) := by decide +kernel
theorem dL_places_52 : decode cL_places 52 = .ok (.invokestatic 27, 3) := by decide +kernel
theorem dL_places_55 : decode cL_places 55 = .ok (.aload_n 3, 1) := by decide +kernel
theorem dL_places_56 : decode cL_places 56 = .ok (.iconst 0, 1) := by decide +kernel
theorem dL_places_57 : decode cL_places 57 = .ok (.iaload, 1) := by decide +kernel
theorem dL_places_58 : decode cL_places 58 = .ok (.if_icmp .ne 24, 3) := by decide +kernel
theorem dL_places_61 : decode cL_places 61 = .ok (.aload_n 1, 1) := by decide +kernel
theorem dL_places_62 : decode cL_places 62 = .ok (.aload_n 1, 1) := by decide +kernel
theorem dL_places_63 : decode cL_places 63 = .ok (.iload 8, 2) := by decide +kernel
theorem dL_places_65 : decode cL_places 65 = .ok (.iaload, 1) := by decide +kernel
theorem dL_places_66 : decode cL_places 66 = .ok (.iconst 1, 1) := by decide +kernel
theorem dL_places_67 : decode cL_places 67 = .ok (.isub, 1) := by decide +kernel
theorem dL_places_68 : decode cL_places 68 = .ok (.iconst 0, 1) := by decide +kernel
theorem dL_places_69 : decode cL_places 69 = .ok (.bipush 28, 2) := by decide +kernel
theorem dL_places_71 : decode cL_places 71 = .ok (.invokestatic 19, 3) := by decide +kernel
theorem dL_places_74 : decode cL_places 74 = .ok (.iconst 1, 1) := by decide +kernel
theorem dL_places_75 : decode cL_places 75 = .ok (.if_icmp .ne 7, 3) := by decide +kernel
theorem dL_places_78 : decode cL_places 78 = .ok (.iconst 1, 1) := by decide +kernel
theorem dL_places_79 : decode cL_places 79 = .ok (.goto 4, 3) := by decide +kernel
theorem dL_places_82 : decode cL_places 82 = .ok (.iconst 0, 1) := by decide +kernel
theorem dL_places_83 : decode cL_places 83 = .ok (.istore 10, 2) := by decide +kernel
theorem dL_places_85 : decode cL_places 85 = .ok (.iload 10, 2) := by decide +kernel
theorem dL_places_87 : decode cL_places 87 = .ok (.ifCond .eq 8, 3) := by decide +kernel
theorem dL_places_90 : decode cL_places 90 = .ok (.iload 9, 2) := by decide +kernel
theorem dL_places_92 : decode cL_places 92 = .ok (.goto 7, 3) := by decide +kernel
theorem dL_places_95 : decode cL_places 95 = .ok (.aload_n 2, 1) := by decide +kernel
theorem dL_places_96 : decode cL_places 96 = .ok (.invokestatic 157, 3) := by decide +kernel
theorem dL_places_99 : decode cL_places 99 = .ok (.istore 9, 2) := by decide +kernel
theorem dL_places_101 : decode cL_places 101 = .ok (.iload 6, 2) := by decide +kernel
theorem dL_places_103 : decode cL_places 103 = .ok (.ldc 161, 2) := by decide +kernel
theorem dL_places_105 : decode cL_places 105 = .ok (.imul, 1) := by decide +kernel
theorem dL_places_106 : decode cL_places 106 = .ok (.bipush 77, 2) := by decide +kernel
theorem dL_places_108 : decode cL_places 108 = .ok (.isub, 1) := by decide +kernel
theorem dL_places_109 : decode cL_places 109 = .ok (.istore 11, 2) := by decide +kernel
theorem dL_places_111 : decode cL_places 111 = .ok (.aload_n 2, 1) := by decide +kernel
theorem dL_places_112 : decode cL_places 112 = .ok (.iload 9, 2) := by decide +kernel
theorem dL_places_114 : decode cL_places 114 = .ok (.aload_n 2, 1) := by decide +kernel
theorem dL_places_115 : decode cL_places 115 = .ok (.iload 9, 2) := by decide +kernel
theorem dL_places_117 : decode cL_places 117 = .ok (.laload, 1) := by decide +kernel
theorem dL_places_118 : decode cL_places 118 = .ok (.ldc2_w 162, 3) := by decide +kernel
theorem dL_places_121 : decode cL_places 121 = .ok (.land, 1) := by decide +kernel
theorem dL_places_122 : decode cL_places 122 = .ok (.iload 11, 2) := by decide +kernel
theorem dL_places_124 : decode cL_places 124 = .ok (.i2l, 1) := by decide +kernel
theorem dL_places_125 : decode cL_places 125 = .ok (.ldc2_w 164, 3) := by decide +kernel
theorem dL_places_128 : decode cL_places 128 = .ok (.land, 1) := by decide +kernel
theorem dL_places_129 : decode cL_places 129 = .ok (.lor, 1) := by decide +kernel
theorem dL_places_130 : decode cL_places 130 = .ok (.aload_n 3, 1) := by decide +kernel
theorem dL_places_131 : decode cL_places 131 = .ok (.iconst 0, 1) := by decide +kernel
theorem dL_places_132 : decode cL_places 132 = .ok (.iaload, 1) := by decide +kernel
theorem dL_places_133 : decode cL_places 133 = .ok (.i2l, 1) := by decide +kernel
theorem dL_places_134 : decode cL_places 134 = .ok (.bipush 32, 2) := by decide +kernel
theorem dL_places_136 : decode cL_places 136 = .ok (.lshl, 1) := by decide +kernel
theorem dL_places_137 : decode cL_places 137 = .ok (.lor, 1) := by decide +kernel
theorem dL_places_138 : decode cL_places 138 = .ok (.lastore, 1) := by decide +kernel
theorem dL_places_139 : decode cL_places 139 = .ok (.aload_n 1, 1) := by decide +kernel
theorem dL_places_140 : decode cL_places 140 = .ok (.iload 8, 2) := by decide +kernel
theorem dL_places_142 : decode cL_places 142 = .ok (.iload 9, 2) := by decide +kernel
theorem dL_places_144 : decode cL_places 144 = .ok (.invokestatic 13, 3) := by decide +kernel
theorem dL_places_147 : decode cL_places 147 = .ok (.iconst 1, 1) := by decide +kernel
theorem dL_places_148 : decode cL_places 148 = .ok (.iadd, 1) := by decide +kernel
theorem dL_places_149 : decode cL_places 149 = .ok (.iastore, 1) := by decide +kernel
theorem dL_places_150 : decode cL_places 150 = .ok (.aload_n 1, 1) := by decide +kernel
theorem dL_places_151 : decode cL_places 151 = .ok (.aload_n 2, 1) := by decide +kernel
theorem dL_places_152 : decode cL_places 152 = .ok (.aload_n 3, 1) := by decide +kernel
theorem dL_places_153 : decode cL_places 153 = .ok (.invokestatic 166, 3) := by decide +kernel
theorem dL_places_156 : decode cL_places 156 = .ok (.ifCond .lt 31, 3) := by decide +kernel
theorem dL_places_159 : decode cL_places 159 = .ok (.aload_n 0, 1) := by decide +kernel
theorem dL_places_160 : decode cL_places 160 = .ok (.iload 5, 2) := by decide +kernel
theorem dL_places_162 : decode cL_places 162 = .ok (.iload 7, 2) := by decide +kernel
theorem dL_places_164 : decode cL_places 164 = .ok (.iconst 2, 1) := by decide +kernel
theorem dL_places_165 : decode cL_places 165 = .ok (.idiv, 1) := by decide +kernel
theorem dL_places_166 : decode cL_places 166 = .ok (.iload 7, 2) := by decide +kernel
theorem dL_places_168 : decode cL_places 168 = .ok (.iconst 2, 1) := by decide +kernel
theorem dL_places_169 : decode cL_places 169 = .ok (.irem, 1) := by decide +kernel
theorem dL_places_170 : decode cL_places 170 = .ok (.iload 11, 2) := by decide +kernel
theorem dL_places_172 : decode cL_places 172 = .ok (.invokevirtual 170, 3) := by decide +kernel
theorem dL_places_175 : decode cL_places 175 = .ok (.iload 9, 2) := by decide +kernel
theorem dL_places_177 : decode cL_places 177 = .ok (.invokestatic 13, 3) := by decide +kernel
theorem dL_places_180 : decode cL_places 180 = .ok (.if_icmp .ne 7, 3) := by decide +kernel
theorem dL_places_183 : decode cL_places 183 = .ok (.iconst 1, 1) := by decide +kernel
theorem dL_places_184 : decode cL_places 184 = .ok (.goto 4, 3) := by decide +kernel
theorem dL_places_187 : decode cL_places 187 = .ok (.iconst 0, 1) := by decide +kernel
theorem dL_places_188 : decode cL_places 188 = .ok (.ireturn, 1) := by decide +kernel
theorem dL_places_189 : decode cL_places 189 = .ok (.iload 7, 2) := by decide +kernel
theorem dL_places_191 : decode cL_places 191 = .ok (.iconst 2, 1) := by decide +kernel
theorem dL_places_192 : decode cL_places 192 = .ok (.idiv, 1) := by decide +kernel
theorem dL_places_193 : decode cL_places 193 = .ok (.istore 9, 2) := by decide +kernel
theorem dL_places_195 : decode cL_places 195 = .ok (.iload 7, 2) := by decide +kernel
theorem dL_places_197 : decode cL_places 197 = .ok (.iconst 2, 1) := by decide +kernel
theorem dL_places_198 : decode cL_places 198 = .ok (.irem, 1) := by decide +kernel
theorem dL_places_199 : decode cL_places 199 = .ok (.istore 10, 2) := by decide +kernel
theorem dL_places_201 : decode cL_places 201 = .ok (.iconst 1, 1) := by decide +kernel
theorem dL_places_202 : decode cL_places 202 = .ok (.iload 6, 2) := by decide +kernel
theorem dL_places_204 : decode cL_places 204 = .ok (.iconst 4, 1) := by decide +kernel
theorem dL_places_205 : decode cL_places 205 = .ok (.idiv, 1) := by decide +kernel
theorem dL_places_206 : decode cL_places 206 = .ok (.iconst 2, 1) := by decide +kernel
theorem dL_places_207 : decode cL_places 207 = .ok (.iload 10, 2) := by decide +kernel
theorem dL_places_209 : decode cL_places 209 = .ok (.isub, 1) := by decide +kernel
theorem dL_places_210 : decode cL_places 210 = .ok (.irem, 1) := by decide +kernel
theorem dL_places_211 : decode cL_places 211 = .ok (.iadd, 1) := by decide +kernel
theorem dL_places_212 : decode cL_places 212 = .ok (.istore 11, 2) := by decide +kernel
theorem dL_places_214 : decode cL_places 214 = .ok (.iload 4, 2) := by decide +kernel
theorem dL_places_216 : decode cL_places 216 = .ok (.bipush 7, 2) := by decide +kernel
theorem dL_places_218 : decode cL_places 218 = .ok (.if_icmp .ne 82, 3) := by decide +kernel
theorem dL_places_221 : decode cL_places 221 = .ok (.iconst 0, 1) := by decide +kernel
theorem dL_places_222 : decode cL_places 222 = .ok (.istore 12, 2) := by decide +kernel
theorem dL_places_224 : decode cL_places 224 = .ok (.iconst 0, 1) := by decide +kernel
theorem dL_places_225 : decode cL_places 225 = .ok (.istore 13, 2) := by decide +kernel
theorem dL_places_227 : decode cL_places 227 = .ok (.iload 13, 2) := by decide +kernel
theorem dL_places_229 : decode cL_places 229 = .ok (.iload 11, 2) := by decide +kernel
theorem dL_places_231 : decode cL_places 231 = .ok (.if_icmp .ge 37, 3) := by decide +kernel
theorem dL_places_234 : decode cL_places 234 = .ok (.iload 12, 2) := by decide +kernel
theorem dL_places_236 : decode cL_places 236 = .ok (.aload_n 1, 1) := by decide +kernel
theorem dL_places_237 : decode cL_places 237 = .ok (.iload 8, 2) := by decide +kernel
theorem dL_places_239 : decode cL_places 239 = .ok (.iload 13, 2) := by decide +kernel
theorem dL_places_241 : decode cL_places 241 = .ok (.iadd, 1) := by decide +kernel
theorem dL_places_242 : decode cL_places 242 = .ok (.iaload, 1) := by decide +kernel
theorem dL_places_243 : decode cL_places 243 = .ok (.ifCond .le 7, 3) := by decide +kernel
theorem dL_places_246 : decode cL_places 246 = .ok (.iconst 1, 1) := by decide +kernel
theorem dL_places_247 : decode cL_places 247 = .ok (.goto 4, 3) := by decide +kernel
theorem dL_places_250 : decode cL_places 250 = .ok (.iconst 0, 1) := by decide +kernel
theorem dL_places_251 : decode cL_places 251 = .ok (.iadd, 1) := by decide +kernel
theorem dL_places_252 : decode cL_places 252 = .ok (.istore 12, 2) := by decide +kernel
theorem dL_places_254 : decode cL_places 254 = .ok (.aload_n 1, 1) := by decide +kernel
theorem dL_places_255 : decode cL_places 255 = .ok (.iload 8, 2) := by decide +kernel
theorem dL_places_257 : decode cL_places 257 = .ok (.iload 13, 2) := by decide +kernel
theorem dL_places_259 : decode cL_places 259 = .ok (.iadd, 1) := by decide +kernel
theorem dL_places_260 : decode cL_places 260 = .ok (.iconst 0, 1) := by decide +kernel
theorem dL_places_261 : decode cL_places 261 = .ok (.iastore, 1) := by decide +kernel
theorem dL_places_262 : decode cL_places 262 = .ok (.iinc 13 1, 3) := by decide +kernel
theorem dL_places_265 : decode cL_places 265 = .ok (.goto (-38), 3) := by decide +kernel
theorem dL_places_268 : decode cL_places 268 = .ok (.aload_n 1, 1) := by decide +kernel
theorem dL_places_269 : decode cL_places 269 = .ok (.aload_n 2, 1) := by decide +kernel
theorem dL_places_270 : decode cL_places 270 = .ok (.aload_n 3, 1) := by decide +kernel
theorem dL_places_271 : decode cL_places 271 = .ok (.invokestatic 166, 3) := by decide +kernel
theorem dL_places_274 : decode cL_places 274 = .ok (.ifCond .lt 24, 3) := by decide +kernel
theorem dL_places_277 : decode cL_places 277 = .ok (.aload_n 0, 1) := by decide +kernel
theorem dL_places_278 : decode cL_places 278 = .ok (.iload 5, 2) := by decide +kernel
theorem dL_places_280 : decode cL_places 280 = .ok (.iload 9, 2) := by decide +kernel
theorem dL_places_282 : decode cL_places 282 = .ok (.iload 10, 2) := by decide +kernel
theorem dL_places_284 : decode cL_places 284 = .ok (.iload 11, 2) := by decide +kernel
theorem dL_places_286 : decode cL_places 286 = .ok (.invokevirtual 174, 3) := by decide +kernel
theorem dL_places_289 : decode cL_places 289 = .ok (.iload 12, 2) := by decide +kernel
theorem dL_places_291 : decode cL_places 291 = .ok (.if_icmp .ne 7, 3) := by decide +kernel
theorem dL_places_294 : decode cL_places 294 = .ok (.iconst 1, 1) := by decide +kernel
theorem dL_places_295 : decode cL_places 295 = .ok (.goto 4, 3) := by decide +kernel
theorem dL_places_298 : decode cL_places 298 = .ok (.iconst 0, 1) := by decide +kernel
theorem dL_places_299 : decode cL_places 299 = .ok (.ireturn, 1) := by decide +kernel
theorem dL_places_300 : decode cL_places 300 = .ok (.iload 6, 2) := by decide +kernel
theorem dL_places_302 : decode cL_places 302 = .ok (.bipush 8, 2) := by decide +kernel
theorem dL_places_304 : decode cL_places 304 = .ok (.idiv, 1) := by decide +kernel
theorem dL_places_305 : decode cL_places 305 = .ok (.iconst 2, 1) := by decide +kernel
theorem dL_places_306 : decode cL_places 306 = .ok (.irem, 1) := by decide +kernel
theorem dL_places_307 : decode cL_places 307 = .ok (.istore 12, 2) := by decide +kernel
theorem dL_places_309 : decode cL_places 309 = .ok (.iload 11, 2) := by decide +kernel
theorem dL_places_311 : decode cL_places 311 = .ok (.iconst 2, 1) := by decide +kernel
theorem dL_places_312 : decode cL_places 312 = .ok (.if_icmp .ne 7, 3) := by decide +kernel
theorem dL_places_315 : decode cL_places 315 = .ok (.iconst 0, 1) := by decide +kernel
theorem dL_places_316 : decode cL_places 316 = .ok (.goto 10, 3) := by decide +kernel
theorem dL_places_319 : decode cL_places 319 = .ok (.iload 6, 2) := by decide +kernel
theorem dL_places_321 : decode cL_places 321 = .ok (.bipush 16, 2) := by decide +kernel
theorem dL_places_323 : decode cL_places 323 = .ok (.idiv, 1) := by decide +kernel
theorem dL_places_324 : decode cL_places 324 = .ok (.iconst 2, 1) := by decide +kernel
theorem dL_places_325 : decode cL_places 325 = .ok (.irem, 1) := by decide +kernel
theorem dL_places_326 : decode cL_places 326 = .ok (.istore 13, 2) := by decide +kernel
theorem dL_places_328 : decode cL_places 328 = .ok (.aload_n 1, 1) := by decide +kernel
theorem dL_places_329 : decode cL_places 329 = .ok (.iload 8, 2) := by decide +kernel
theorem dL_places_331 : decode cL_places 331 = .ok (.iaload, 1) := by decide +kernel
theorem dL_places_332 : decode cL_places 332 = .ok (.istore 14, 2) := by decide +kernel
theorem dL_places_334 : decode cL_places 334 = .ok (.aload_n 1, 1) := by decide +kernel
theorem dL_places_335 : decode cL_places 335 = .ok (.iconst 4, 1) := by decide +kernel
theorem dL_places_336 : decode cL_places 336 = .ok (.iload 5, 2) := by decide +kernel
theorem dL_places_338 : decode cL_places 338 = .ok (.imul, 1) := by decide +kernel
theorem dL_places_339 : decode cL_places 339 = .ok (.iconst 2, 1) := by decide +kernel
theorem dL_places_340 : decode cL_places 340 = .ok (.iload 9, 2) := by decide +kernel
theorem dL_places_342 : decode cL_places 342 = .ok (.imul, 1) := by decide +kernel
theorem dL_places_343 : decode cL_places 343 = .ok (.iadd, 1) := by decide +kernel
theorem dL_places_344 : decode cL_places 344 = .ok (.iconst 1, 1) := by decide +kernel
theorem dL_places_345 : decode cL_places 345 = .ok (.iadd, 1) := by decide +kernel
theorem dL_places_346 : decode cL_places 346 = .ok (.iaload, 1) := by decide +kernel
theorem dL_places_347 : decode cL_places 347 = .ok (.istore 15, 2) := by decide +kernel
theorem dL_places_349 : decode cL_places 349 = .ok (.iconst 4, 1) := by decide +kernel
theorem dL_places_350 : decode cL_places 350 = .ok (.iload 5, 2) := by decide +kernel
theorem dL_places_352 : decode cL_places 352 = .ok (.imul, 1) := by decide +kernel
theorem dL_places_353 : decode cL_places 353 = .ok (.iconst 2, 1) := by decide +kernel
theorem dL_places_354 : decode cL_places 354 = .ok (.iload 12, 2) := by decide +kernel
theorem dL_places_356 : decode cL_places 356 = .ok (.imul, 1) := by decide +kernel
theorem dL_places_357 : decode cL_places 357 = .ok (.iadd, 1) := by decide +kernel
theorem dL_places_358 : decode cL_places 358 = .ok (.iload 13, 2) := by decide +kernel
theorem dL_places_360 : decode cL_places 360 = .ok (.iadd, 1) := by decide +kernel
theorem dL_places_361 : decode cL_places 361 = .ok (.istore 16, 2) := by decide +kernel
theorem dL_places_363 : decode cL_places 363 = .ok (.aload_n 1, 1) := by decide +kernel
theorem dL_places_364 : decode cL_places 364 = .ok (.iload 16, 2) := by decide +kernel
theorem dL_places_366 : decode cL_places 366 = .ok (.iaload, 1) := by decide +kernel
theorem dL_places_367 : decode cL_places 367 = .ok (.iload 14, 2) := by decide +kernel
theorem dL_places_369 : decode cL_places 369 = .ok (.if_icmp .eq 7, 3) := by decide +kernel
theorem dL_places_372 : decode cL_places 372 = .ok (.iconst 1, 1) := by decide +kernel
theorem dL_places_373 : decode cL_places 373 = .ok (.goto 4, 3) := by decide +kernel
theorem dL_places_376 : decode cL_places 376 = .ok (.iconst 0, 1) := by decide +kernel
theorem dL_places_377 : decode cL_places 377 = .ok (.istore 17, 2) := by decide +kernel
theorem dL_places_379 : decode cL_places 379 = .ok (.aload_n 1, 1) := by decide +kernel
theorem dL_places_380 : decode cL_places 380 = .ok (.iload 16, 2) := by decide +kernel
theorem dL_places_382 : decode cL_places 382 = .ok (.iload 14, 2) := by decide +kernel
theorem dL_places_384 : decode cL_places 384 = .ok (.iastore, 1) := by decide +kernel
theorem dL_places_385 : decode cL_places 385 = .ok (.iload 11, 2) := by decide +kernel
theorem dL_places_387 : decode cL_places 387 = .ok (.iconst 2, 1) := by decide +kernel
theorem dL_places_388 : decode cL_places 388 = .ok (.if_icmp .ne 32, 3) := by decide +kernel
theorem dL_places_391 : decode cL_places 391 = .ok (.iload 17, 2) := by decide +kernel
theorem dL_places_393 : decode cL_places 393 = .ok (.aload_n 1, 1) := by decide +kernel
theorem dL_places_394 : decode cL_places 394 = .ok (.iload 16, 2) := by decide +kernel
theorem dL_places_396 : decode cL_places 396 = .ok (.iconst 1, 1) := by decide +kernel
theorem dL_places_397 : decode cL_places 397 = .ok (.iadd, 1) := by decide +kernel
theorem dL_places_398 : decode cL_places 398 = .ok (.iaload, 1) := by decide +kernel
theorem dL_places_399 : decode cL_places 399 = .ok (.iload 15, 2) := by decide +kernel
theorem dL_places_401 : decode cL_places 401 = .ok (.if_icmp .eq 7, 3) := by decide +kernel
theorem dL_places_404 : decode cL_places 404 = .ok (.iconst 1, 1) := by decide +kernel
theorem dL_places_405 : decode cL_places 405 = .ok (.goto 4, 3) := by decide +kernel
theorem dL_places_408 : decode cL_places 408 = .ok (.iconst 0, 1) := by decide +kernel
theorem dL_places_409 : decode cL_places 409 = .ok (.iadd, 1) := by decide +kernel
theorem dL_places_410 : decode cL_places 410 = .ok (.istore 17, 2) := by decide +kernel
theorem dL_places_412 : decode cL_places 412 = .ok (.aload_n 1, 1) := by decide +kernel
theorem dL_places_413 : decode cL_places 413 = .ok (.iload 16, 2) := by decide +kernel
theorem dL_places_415 : decode cL_places 415 = .ok (.iconst 1, 1) := by decide +kernel
theorem dL_places_416 : decode cL_places 416 = .ok (.iadd, 1) := by decide +kernel
theorem dL_places_417 : decode cL_places 417 = .ok (.iload 15, 2) := by decide +kernel
theorem dL_places_419 : decode cL_places 419 = .ok (.iastore, 1) := by decide +kernel
theorem dL_places_420 : decode cL_places 420 = .ok (.aload_n 1, 1) := by decide +kernel
theorem dL_places_421 : decode cL_places 421 = .ok (.aload_n 2, 1) := by decide +kernel
theorem dL_places_422 : decode cL_places 422 = .ok (.aload_n 3, 1) := by decide +kernel
theorem dL_places_423 : decode cL_places 423 = .ok (.invokestatic 166, 3) := by decide +kernel
theorem dL_places_426 : decode cL_places 426 = .ok (.ifCond .lt 28, 3) := by decide +kernel
theorem dL_places_429 : decode cL_places 429 = .ok (.aload_n 0, 1) := by decide +kernel
theorem dL_places_430 : decode cL_places 430 = .ok (.iload 5, 2) := by decide +kernel
theorem dL_places_432 : decode cL_places 432 = .ok (.iload 9, 2) := by decide +kernel
theorem dL_places_434 : decode cL_places 434 = .ok (.iload 10, 2) := by decide +kernel
theorem dL_places_436 : decode cL_places 436 = .ok (.iload 12, 2) := by decide +kernel
theorem dL_places_438 : decode cL_places 438 = .ok (.iload 13, 2) := by decide +kernel
theorem dL_places_440 : decode cL_places 440 = .ok (.iload 11, 2) := by decide +kernel
theorem dL_places_442 : decode cL_places 442 = .ok (.invokevirtual 177, 3) := by decide +kernel
theorem dL_places_445 : decode cL_places 445 = .ok (.iload 17, 2) := by decide +kernel
theorem dL_places_447 : decode cL_places 447 = .ok (.if_icmp .ne 7, 3) := by decide +kernel
theorem dL_places_450 : decode cL_places 450 = .ok (.iconst 1, 1) := by decide +kernel
theorem dL_places_451 : decode cL_places 451 = .ok (.goto 4, 3) := by decide +kernel
theorem dL_places_454 : decode cL_places 454 = .ok (.iconst 0, 1) := by decide +kernel
theorem dL_places_455 : decode cL_places 455 = .ok (.ireturn, 1) := by decide +kernel
theorem dL_destroyed_0 : decode cL_destroyed 0 = .ok (.aload_n 0, 1) := by decide +kernel
theorem dL_destroyed_1 : decode cL_destroyed 1 = .ok (.iload_n 1, 1) := by decide +kernel
theorem dL_destroyed_2 : decode cL_destroyed 2 = .ok (.invokevirtual 181, 3) := by decide +kernel
theorem dL_destroyed_5 : decode cL_destroyed 5 = .ok (.ireturn, 1) := by decide +kernel
theorem dL_destroyed_6 : decode cL_destroyed 6 = .ok (.astore_n 2, 1) := by decide +kernel
theorem dL_destroyed_7 : decode cL_destroyed 7 = .ok (.bipush (-2), 2) := by decide +kernel
theorem dL_destroyed_9 : decode cL_destroyed 9 = .ok (.ireturn, 1) := by decide +kernel
theorem dL_rolled_0 : decode cL_rolled 0 = .ok (.aload_n 0, 1) := by decide +kernel
theorem dL_rolled_1 : decode cL_rolled 1 = .ok (.iload_n 1, 1) := by decide +kernel
theorem dL_rolled_2 : decode cL_rolled 2 = .ok (.iload_n 2, 1) := by decide +kernel
theorem dL_rolled_3 : decode cL_rolled 3 = .ok (.invokevirtual 186, 3) := by decide +kernel
theorem dL_rolled_6 : decode cL_rolled 6 = .ok (.ireturn, 1) := by decide +kernel
theorem dL_rolled_7 : decode cL_rolled 7 = .ok (.astore_n 3, 1) := by decide +kernel
theorem dL_rolled_8 : decode cL_rolled 8 = .ok (.bipush (-2), 2) := by decide +kernel
theorem dL_rolled_10 : decode cL_rolled 10 = .ok (.ireturn, 1) := by decide +kernel
theorem dL_removed_0 : decode cL_removed 0 = .ok (.aload_n 0, 1) := by decide +kernel
theorem dL_removed_1 : decode cL_removed 1 = .ok (.iload_n 1, 1) := by decide +kernel
theorem dL_removed_2 : decode cL_removed 2 = .ok (.invokevirtual 189, 3) := by decide +kernel
theorem dL_removed_5 : decode cL_removed 5 = .ok (.ireturn, 1) := by decide +kernel
theorem dL_removed_6 : decode cL_removed 6 = .ok (.astore_n 2, 1) := by decide +kernel
theorem dL_removed_7 : decode cL_removed 7 = .ok (.bipush (-2), 2) := by decide +kernel
theorem dL_removed_9 : decode cL_removed 9 = .ok (.ireturn, 1) := by decide +kernel
theorem dL_snapshots_0 : decode cL_snapshots 0 = .ok (.aload_n 3, 1) := by decide +kernel
theorem dL_snapshots_1 : decode cL_snapshots 1 = .ok (.bipush 12, 2) := by decide +kernel
theorem dL_snapshots_3 : decode cL_snapshots 3 = .ok (.iload 5, 2) := by decide +kernel
theorem dL_snapshots_5 : decode cL_snapshots 5 = .ok (.iadd, 1) := by decide +kernel
theorem dL_snapshots_6 : decode cL_snapshots 6 = .ok (.iaload, 1) := by decide +kernel
theorem dL_snapshots_7 : decode cL_snapshots 7 = .ok (.iconst 1, 1) := by decide +kernel
theorem dL_snapshots_8 : decode cL_snapshots 8 = .ok (.isub, 1) := by decide +kernel
theorem dL_snapshots_9 : decode cL_snapshots 9 = .ok (.istore 6, 2) := by decide +kernel
theorem dL_snapshots_11 : decode cL_snapshots 11 = .ok (.aload_n 3, 1) := by decide +kernel
theorem dL_snapshots_12 : decode cL_snapshots 12 = .ok (.bipush 16, 2) := by decide +kernel
theorem dL_snapshots_14 : decode cL_snapshots 14 = .ok (.iload 5, 2) := by decide +kernel
theorem dL_snapshots_16 : decode cL_snapshots 16 = .ok (.iadd, 1) := by decide +kernel
theorem dL_snapshots_17 : decode cL_snapshots 17 = .ok (.iaload, 1) := by decide +kernel
theorem dL_snapshots_18 : decode cL_snapshots 18 = .ok (.istore 7, 2) := by decide +kernel
theorem dL_snapshots_20 : decode cL_snapshots 20 = .ok (.iload 4, 2) := by decide +kernel
theorem dL_snapshots_22 : decode cL_snapshots 22 = .ok (.bipush 12, 2) := by decide +kernel
theorem dL_snapshots_24 : decode cL_snapshots 24 = .ok (.if_icmp .ge 62, 3) := by decide +kernel
theorem dL_snapshots_27 : decode cL_snapshots 27 = .ok (.aload_n 3, 1) := by decide +kernel
theorem dL_snapshots_28 : decode cL_snapshots 28 = .ok (.iload 5, 2) := by decide +kernel
theorem dL_snapshots_30 : decode cL_snapshots 30 = .ok (.invokestatic 192, 3) := by decide +kernel
theorem dL_snapshots_33 : decode cL_snapshots 33 = .ok (.ifCond .ne 7, 3) := by decide +kernel
theorem dL_snapshots_36 : decode cL_snapshots 36 = .ok (.iconst 1, 1) := by decide +kernel
theorem dL_snapshots_37 : decode cL_snapshots 37 = .ok (.goto 4, 3) := by decide +kernel
theorem dL_snapshots_40 : decode cL_snapshots 40 = .ok (.iconst 0, 1) := by decide +kernel
theorem dL_snapshots_41 : decode cL_snapshots 41 = .ok (.istore 8, 2) := by decide +kernel
theorem dL_snapshots_43 : decode cL_snapshots 43 = .ok (.iload 8, 2) := by decide +kernel
theorem dL_snapshots_45 : decode cL_snapshots 45 = .ok (.ifCond .eq 10, 3) := by decide +kernel
theorem dL_snapshots_48 : decode cL_snapshots 48 = .ok (.aload_n 1, 1) := by decide +kernel
theorem dL_snapshots_49 : decode cL_snapshots 49 = .ok (.aload_n 3, 1) := by decide +kernel
theorem dL_snapshots_50 : decode cL_snapshots 50 = .ok (.iload 5, 2) := by decide +kernel
theorem dL_snapshots_52 : decode cL_snapshots 52 = .ok (.invokestatic 196, 3) := by decide +kernel
theorem dL_snapshots_55 : decode cL_snapshots 55 = .ok (.aload_n 0, 1) := by decide +kernel
theorem dL_snapshots_56 : decode cL_snapshots 56 = .ok (.iload 6, 2) := by decide +kernel
theorem dL_snapshots_58 : decode cL_snapshots 58 = .ok (.invokestatic 200, 3) := by decide +kernel
theorem dL_snapshots_61 : decode cL_snapshots 61 = .ok (.iload 8, 2) := by decide +kernel
theorem dL_snapshots_63 : decode cL_snapshots 63 = .ok (.ifCond .eq 12, 3) := by decide +kernel
theorem dL_snapshots_66 : decode cL_snapshots 66 = .ok (.aload_n 1, 1) := by decide +kernel
theorem dL_snapshots_67 : decode cL_snapshots 67 = .ok (.aload_n 2, 1) := by decide +kernel
theorem dL_snapshots_68 : decode cL_snapshots 68 = .ok (.aload_n 3, 1) := by decide +kernel
theorem dL_snapshots_69 : decode cL_snapshots 69 = .ok (.invokestatic 166, 3) := by decide +kernel
theorem dL_snapshots_72 : decode cL_snapshots 72 = .ok (.goto 5, 3) := by decide +kernel
theorem dL_snapshots_75 : decode cL_snapshots 75 = .ok (.bipush (-2), 2) := by decide +kernel
theorem dL_snapshots_77 : decode cL_snapshots 77 = .ok (.if_icmp .ne 7, 3) := by decide +kernel
theorem dL_snapshots_80 : decode cL_snapshots 80 = .ok (.iconst 1, 1) := by decide +kernel
theorem dL_snapshots_81 : decode cL_snapshots 81 = .ok (.goto 4, 3) := by decide +kernel
theorem dL_snapshots_84 : decode cL_snapshots 84 = .ok (.iconst 0, 1) := by decide +kernel
theorem dL_snapshots_85 : decode cL_snapshots 85 = .ok (.ireturn, 1) := by decide +kernel
theorem dL_snapshots_86 : decode cL_snapshots 86 = .ok (.iload 4, 2) := by decide +kernel
theorem dL_snapshots_88 : decode cL_snapshots 88 = .ok (.bipush 14, 2) := by decide +kernel
theorem dL_snapshots_90 : decode cL_snapshots 90 = .ok (.if_icmp .ge 210, 3) := by decide +kernel
theorem dL_snapshots_93 : decode cL_snapshots 93 = .ok (.iconst 0, 1) := by decide +kernel
theorem dL_snapshots_94 : decode cL_snapshots 94 = .ok (.istore 8, 2) := by decide +kernel
theorem dL_snapshots_96 : decode cL_snapshots 96 = .ok (.iconst 1, 1) := by decide +kernel
theorem dL_snapshots_97 : decode cL_snapshots 97 = .ok (.istore 9, 2) := by decide +kernel
theorem dL_snapshots_99 : decode cL_snapshots 99 = .ok (.iconst 0, 1) := by decide +kernel
theorem dL_snapshots_100 : decode cL_snapshots 100 = .ok (.istore 10, 2) := by decide +kernel
theorem dL_snapshots_102 : decode cL_snapshots 102 = .ok (.iload 10, 2) := by decide +kernel
theorem dL_snapshots_104 : decode cL_snapshots 104 = .ok (.iconst 4, 1) := by decide +kernel
theorem dL_snapshots_105 : decode cL_snapshots 105 = .ok (.if_icmp .ge 83, 3) := by decide +kernel
theorem dL_snapshots_108 : decode cL_snapshots 108 = .ok (.aload_n 3, 1) := by decide +kernel
theorem dL_snapshots_109 : decode cL_snapshots 109 = .ok (.bipush 12, 2) := by decide +kernel
theorem dL_snapshots_111 : decode cL_snapshots 111 = .ok (.iload 10, 2) := by decide +kernel
theorem dL_snapshots_113 : decode cL_snapshots 113 = .ok (.iadd, 1) := by decide +kernel
theorem dL_snapshots_114 : decode cL_snapshots 114 = .ok (.iaload, 1) := by decide +kernel
theorem dL_snapshots_115 : decode cL_snapshots 115 = .ok (.iconst 1, 1) := by decide +kernel
theorem dL_snapshots_116 : decode cL_snapshots 116 = .ok (.isub, 1) := by decide +kernel
theorem dL_snapshots_117 : decode cL_snapshots 117 = .ok (.iload 6, 2) := by decide +kernel
theorem dL_snapshots_119 : decode cL_snapshots 119 = .ok (.if_icmp .le 19, 3) := by decide +kernel
theorem dL_snapshots_122 : decode cL_snapshots 122 = .ok (.aload_n 3, 1) := by decide +kernel
theorem dL_snapshots_123 : decode cL_snapshots 123 = .ok (.bipush 16, 2) := by decide +kernel
theorem dL_snapshots_125 : decode cL_snapshots 125 = .ok (.iload 10, 2) := by decide +kernel
theorem dL_snapshots_127 : decode cL_snapshots 127 = .ok (.iadd, 1) := by decide +kernel
theorem dL_snapshots_128 : decode cL_snapshots 128 = .ok (.iaload, 1) := by decide +kernel
theorem dL_snapshots_129 : decode cL_snapshots 129 = .ok (.iload 7, 2) := by decide +kernel
theorem dL_snapshots_131 : decode cL_snapshots 131 = .ok (.if_icmp .ne 7, 3) := by decide +kernel
theorem dL_snapshots_134 : decode cL_snapshots 134 = .ok (.iconst 1, 1) := by decide +kernel
theorem dL_snapshots_135 : decode cL_snapshots 135 = .ok (.goto 4, 3) := by decide +kernel
theorem dL_snapshots_138 : decode cL_snapshots 138 = .ok (.iconst 0, 1) := by decide +kernel
theorem dL_snapshots_139 : decode cL_snapshots 139 = .ok (.istore 11, 2) := by decide +kernel
theorem dL_snapshots_141 : decode cL_snapshots 141 = .ok (.iload 8, 2) := by decide +kernel
theorem dL_snapshots_143 : decode cL_snapshots 143 = .ok (.iload 11, 2) := by decide +kernel
theorem dL_snapshots_145 : decode cL_snapshots 145 = .ok (.ifCond .eq 7, 3) := by decide +kernel
theorem dL_snapshots_148 : decode cL_snapshots 148 = .ok (.iconst 1, 1) := by decide +kernel
theorem dL_snapshots_149 : decode cL_snapshots 149 = .ok (.goto 4, 3) := by decide +kernel
theorem dL_snapshots_152 : decode cL_snapshots 152 = .ok (.iconst 0, 1) := by decide +kernel
theorem dL_snapshots_153 : decode cL_snapshots 153 = .ok (.iadd, 1) := by decide +kernel
theorem dL_snapshots_154 : decode cL_snapshots 154 = .ok (.istore 8, 2) := by decide +kernel
theorem dL_snapshots_156 : decode cL_snapshots 156 = .ok (.iload 9, 2) := by decide +kernel
theorem dL_snapshots_158 : decode cL_snapshots 158 = .ok (.ifCond .eq 21, 3) := by decide +kernel
theorem dL_snapshots_161 : decode cL_snapshots 161 = .ok (.iload 11, 2) := by decide +kernel
theorem dL_snapshots_163 : decode cL_snapshots 163 = .ok (.ifCond .eq 12, 3) := by decide +kernel
theorem dL_snapshots_166 : decode cL_snapshots 166 = .ok (.aload_n 3, 1) := by decide +kernel
theorem dL_snapshots_167 : decode cL_snapshots 167 = .ok (.iload 10, 2) := by decide +kernel
theorem dL_snapshots_169 : decode cL_snapshots 169 = .ok (.invokestatic 192, 3) := by decide +kernel
theorem dL_snapshots_172 : decode cL_snapshots 172 = .ok (.ifCond .ne 7, 3) := by decide +kernel
theorem dL_snapshots_175 : decode cL_snapshots 175 = .ok (.iconst 1, 1) := by decide +kernel
theorem dL_snapshots_176 : decode cL_snapshots 176 = .ok (.goto 4, 3) := by decide +kernel
theorem dL_snapshots_179 : decode cL_snapshots 179 = .ok (.iconst 0, 1) := by decide +kernel
theorem dL_snapshots_180 : decode cL_snapshots 180 = .ok (.istore 9, 2) := by decide +kernel
theorem dL_snapshots_182 : decode cL_snapshots 182 = .ok (.iinc 10 1, 3) := by decide +kernel
theorem dL_snapshots_185 : decode cL_snapshots 185 = .ok (.goto (-83), 3) := by decide +kernel
theorem dL_snapshots_188 : decode cL_snapshots 188 = .ok (.iconst 0, 1) := by decide +kernel
theorem dL_snapshots_189 : decode cL_snapshots 189 = .ok (.istore 10, 2) := by decide +kernel
theorem dL_snapshots_191 : decode cL_snapshots 191 = .ok (.iload 10, 2) := by decide +kernel
theorem dL_snapshots_193 : decode cL_snapshots 193 = .ok (.iconst 4, 1) := by decide +kernel
theorem dL_snapshots_194 : decode cL_snapshots 194 = .ok (.if_icmp .ge 68, 3) := by decide +kernel
theorem dL_snapshots_197 : decode cL_snapshots 197 = .ok (.iload 9, 2) := by decide +kernel
theorem dL_snapshots_199 : decode cL_snapshots 199 = .ok (.ifCond .eq 63, 3) := by decide +kernel
theorem dL_snapshots_202 : decode cL_snapshots 202 = .ok (.aload_n 3, 1) := by decide +kernel
theorem dL_snapshots_203 : decode cL_snapshots 203 = .ok (.bipush 12, 2) := by decide +kernel
theorem dL_snapshots_205 : decode cL_snapshots 205 = .ok (.iload 10, 2) := by decide +kernel
theorem dL_snapshots_207 : decode cL_snapshots 207 = .ok (.iadd, 1) := by decide +kernel
theorem dL_snapshots_208 : decode cL_snapshots 208 = .ok (.iaload, 1) := by decide +kernel
theorem dL_snapshots_209 : decode cL_snapshots 209 = .ok (.iconst 1, 1) := by decide +kernel
theorem dL_snapshots_210 : decode cL_snapshots 210 = .ok (.isub, 1) := by decide +kernel
theorem dL_snapshots_211 : decode cL_snapshots 211 = .ok (.iload 6, 2) := by decide +kernel
theorem dL_snapshots_213 : decode cL_snapshots 213 = .ok (.if_icmp .le 22, 3) := by decide +kernel
theorem dL_snapshots_216 : decode cL_snapshots 216 = .ok (.aload_n 3, 1) := by decide +kernel
theorem dL_snapshots_217 : decode cL_snapshots 217 = .ok (.bipush 16, 2) := by decide +kernel
theorem dL_snapshots_219 : decode cL_snapshots 219 = .ok (.iload 10, 2) := by decide +kernel
theorem dL_snapshots_221 : decode cL_snapshots 221 = .ok (.iadd, 1) := by decide +kernel
theorem dL_snapshots_222 : decode cL_snapshots 222 = .ok (.iaload, 1) := by decide +kernel
theorem dL_snapshots_223 : decode cL_snapshots 223 = .ok (.iload 7, 2) := by decide +kernel
theorem dL_snapshots_225 : decode cL_snapshots 225 = .ok (.if_icmp .ne 10, 3) := by decide +kernel
theorem dL_snapshots_228 : decode cL_snapshots 228 = .ok (.aload_n 1, 1) := by decide +kernel
theorem dL_snapshots_229 : decode cL_snapshots 229 = .ok (.aload_n 3, 1) := by decide +kernel
theorem dL_snapshots_230 : decode cL_snapshots 230 = .ok (.iload 10, 2) := by decide +kernel
theorem dL_snapshots_232 : decode cL_snapshots 232 = .ok (.invokestatic 196, 3) := by decide +kernel
theorem dL_snapshots_235 : decode cL_snapshots 235 = .ok (.aload_n 1, 1) := by decide +kernel
theorem dL_snapshots_236 : decode cL_snapshots 236 = .ok (.iconst 4, 1) := by decide +kernel
theorem dL_snapshots_237 : decode cL_snapshots 237 = .ok (.iload 7, 2) := by decide +kernel
theorem dL_snapshots_239 : decode cL_snapshots 239 = .ok (.imul, 1) := by decide +kernel
theorem dL_snapshots_240 : decode cL_snapshots 240 = .ok (.iload 10, 2) := by decide +kernel
theorem dL_snapshots_242 : decode cL_snapshots 242 = .ok (.iadd, 1) := by decide +kernel
theorem dL_snapshots_243 : decode cL_snapshots 243 = .ok (.aload_n 1, 1) := by decide +kernel
theorem dL_snapshots_244 : decode cL_snapshots 244 = .ok (.bipush 12, 2) := by decide +kernel
theorem dL_snapshots_246 : decode cL_snapshots 246 = .ok (.iconst 4, 1) := by decide +kernel
theorem dL_snapshots_247 : decode cL_snapshots 247 = .ok (.iload 5, 2) := by decide +kernel
theorem dL_snapshots_249 : decode cL_snapshots 249 = .ok (.imul, 1) := by decide +kernel
theorem dL_snapshots_250 : decode cL_snapshots 250 = .ok (.iadd, 1) := by decide +kernel
theorem dL_snapshots_251 : decode cL_snapshots 251 = .ok (.iload 10, 2) := by decide +kernel
theorem dL_snapshots_253 : decode cL_snapshots 253 = .ok (.iadd, 1) := by decide +kernel
theorem dL_snapshots_254 : decode cL_snapshots 254 = .ok (.iaload, 1) := by decide +kernel
theorem dL_snapshots_255 : decode cL_snapshots 255 = .ok (.iastore, 1) := by decide +kernel
theorem dL_snapshots_256 : decode cL_snapshots 256 = .ok (.iinc 10 1, 3) := by decide +kernel
theorem dL_snapshots_259 : decode cL_snapshots 259 = .ok (.goto (-68), 3) := by decide +kernel
theorem dL_snapshots_262 : decode cL_snapshots 262 = .ok (.aload_n 0, 1) := by decide +kernel
theorem dL_snapshots_263 : decode cL_snapshots 263 = .ok (.iload 7, 2) := by decide +kernel
theorem dL_snapshots_265 : decode cL_snapshots 265 = .ok (.iload 6, 2) := by decide +kernel
theorem dL_snapshots_267 : decode cL_snapshots 267 = .ok (.invokestatic 204, 3) := by decide +kernel
theorem dL_snapshots_270 : decode cL_snapshots 270 = .ok (.iload 9, 2) := by decide +kernel
theorem dL_snapshots_272 : decode cL_snapshots 272 = .ok (.ifCond .eq 8, 3) := by decide +kernel
theorem dL_snapshots_275 : decode cL_snapshots 275 = .ok (.iload 8, 2) := by decide +kernel
theorem dL_snapshots_277 : decode cL_snapshots 277 = .ok (.goto 5, 3) := by decide +kernel
theorem dL_snapshots_280 : decode cL_snapshots 280 = .ok (.bipush (-2), 2) := by decide +kernel
theorem dL_snapshots_282 : decode cL_snapshots 282 = .ok (.if_icmp .ne 16, 3) := by decide +kernel
theorem dL_snapshots_285 : decode cL_snapshots 285 = .ok (.aload_n 1, 1) := by decide +kernel
theorem dL_snapshots_286 : decode cL_snapshots 286 = .ok (.aload_n 2, 1) := by decide +kernel
theorem dL_snapshots_287 : decode cL_snapshots 287 = .ok (.aload_n 3, 1) := by decide +kernel
theorem dL_snapshots_288 : decode cL_snapshots 288 = .ok (.invokestatic 166, 3) := by decide +kernel
theorem dL_snapshots_291 : decode cL_snapshots 291 = .ok (.ifCond .lt 7, 3) := by decide +kernel
theorem dL_snapshots_294 : decode cL_snapshots 294 = .ok (.iconst 1, 1) := by decide +kernel
theorem dL_snapshots_295 : decode cL_snapshots 295 = .ok (.goto 4, 3) := by decide +kernel
theorem dL_snapshots_298 : decode cL_snapshots 298 = .ok (.iconst 0, 1) := by decide +kernel
theorem dL_snapshots_299 : decode cL_snapshots 299 = .ok (.ireturn, 1) := by decide +kernel
theorem dL_snapshots_300 : decode cL_snapshots 300 = .ok (.aload_n 3, 1) := by decide +kernel
theorem dL_snapshots_301 : decode cL_snapshots 301 = .ok (.iconst 4, 1) := by decide +kernel
theorem dL_snapshots_302 : decode cL_snapshots 302 = .ok (.iaload, 1) := by decide +kernel
theorem dL_snapshots_303 : decode cL_snapshots 303 = .ok (.ifCond .ne 7, 3) := by decide +kernel
theorem dL_snapshots_306 : decode cL_snapshots 306 = .ok (.iconst 0, 1) := by decide +kernel
theorem dL_snapshots_307 : decode cL_snapshots 307 = .ok (.goto 25, 3) := by decide +kernel
theorem dL_snapshots_310 : decode cL_snapshots 310 = .ok (.aload_n 3, 1) := by decide +kernel
theorem dL_snapshots_311 : decode cL_snapshots 311 = .ok (.iconst 5, 1) := by decide +kernel
theorem dL_snapshots_312 : decode cL_snapshots 312 = .ok (.iaload, 1) := by decide +kernel
theorem dL_snapshots_313 : decode cL_snapshots 313 = .ok (.ifCond .ne 7, 3) := by decide +kernel
theorem dL_snapshots_316 : decode cL_snapshots 316 = .ok (.iconst 1, 1) := by decide +kernel
theorem dL_snapshots_317 : decode cL_snapshots 317 = .ok (.goto 15, 3) := by decide +kernel
theorem dL_snapshots_320 : decode cL_snapshots 320 = .ok (.aload_n 3, 1) := by decide +kernel
theorem dL_snapshots_321 : decode cL_snapshots 321 = .ok (.bipush 6, 2) := by decide +kernel
theorem dL_snapshots_323 : decode cL_snapshots 323 = .ok (.iaload, 1) := by decide +kernel
theorem dL_snapshots_324 : decode cL_snapshots 324 = .ok (.ifCond .ne 7, 3) := by decide +kernel
theorem dL_snapshots_327 : decode cL_snapshots 327 = .ok (.iconst 2, 1) := by decide +kernel
theorem dL_snapshots_328 : decode cL_snapshots 328 = .ok (.goto 4, 3) := by decide +kernel
theorem dL_snapshots_331 : decode cL_snapshots 331 = .ok (.iconst (-1), 1) := by decide +kernel
theorem dL_snapshots_332 : decode cL_snapshots 332 = .ok (.istore 8, 2) := by decide +kernel
theorem dL_snapshots_334 : decode cL_snapshots 334 = .ok (.iload 8, 2) := by decide +kernel
theorem dL_snapshots_336 : decode cL_snapshots 336 = .ok (.ifCond .ge 5, 3) := by decide +kernel
theorem dL_snapshots_339 : decode cL_snapshots 339 = .ok (.iconst 1, 1) := by decide +kernel
theorem dL_snapshots_340 : decode cL_snapshots 340 = .ok (.ireturn, 1) := by decide +kernel
theorem dL_snapshots_341 : decode cL_snapshots 341 = .ok (.aload_n 3, 1) := by decide +kernel
theorem dL_snapshots_342 : decode cL_snapshots 342 = .ok (.iconst 4, 1) := by decide +kernel
theorem dL_snapshots_343 : decode cL_snapshots 343 = .ok (.iload 8, 2) := by decide +kernel
theorem dL_snapshots_345 : decode cL_snapshots 345 = .ok (.iadd, 1) := by decide +kernel
theorem dL_snapshots_346 : decode cL_snapshots 346 = .ok (.iconst 1, 1) := by decide +kernel
theorem dL_snapshots_347 : decode cL_snapshots 347 = .ok (.iastore, 1) := by decide +kernel
theorem dL_snapshots_348 : decode cL_snapshots 348 = .ok (.aload_n 3, 1) := by decide +kernel
theorem dL_snapshots_349 : decode cL_snapshots 349 = .ok (.bipush 8, 2) := by decide +kernel
theorem dL_snapshots_351 : decode cL_snapshots 351 = .ok (.iload 8, 2) := by decide +kernel
theorem dL_snapshots_353 : decode cL_snapshots 353 = .ok (.iadd, 1) := by decide +kernel
theorem dL_snapshots_354 : decode cL_snapshots 354 = .ok (.iload 6, 2) := by decide +kernel
theorem dL_snapshots_356 : decode cL_snapshots 356 = .ok (.iconst 1, 1) := by decide +kernel
theorem dL_snapshots_357 : decode cL_snapshots 357 = .ok (.iadd, 1) := by decide +kernel
theorem dL_snapshots_358 : decode cL_snapshots 358 = .ok (.iastore, 1) := by decide +kernel
theorem dL_snapshots_359 : decode cL_snapshots 359 = .ok (.iconst 0, 1) := by decide +kernel
theorem dL_snapshots_360 : decode cL_snapshots 360 = .ok (.istore 9, 2) := by decide +kernel
theorem dL_snapshots_362 : decode cL_snapshots 362 = .ok (.iload 9, 2) := by decide +kernel
theorem dL_snapshots_364 : decode cL_snapshots 364 = .ok (.iconst 4, 1) := by decide +kernel
theorem dL_snapshots_365 : decode cL_snapshots 365 = .ok (.if_icmp .ge 30, 3) := by decide +kernel
theorem dL_snapshots_368 : decode cL_snapshots 368 = .ok (.aload_n 1, 1) := by decide +kernel
theorem dL_snapshots_369 : decode cL_snapshots 369 = .ok (.iconst 4, 1) := by decide +kernel
theorem dL_snapshots_370 : decode cL_snapshots 370 = .ok (.iload 8, 2) := by decide +kernel
theorem dL_snapshots_372 : decode cL_snapshots 372 = .ok (.imul, 1) := by decide +kernel
theorem dL_snapshots_373 : decode cL_snapshots 373 = .ok (.iload 9, 2) := by decide +kernel
theorem dL_snapshots_375 : decode cL_snapshots 375 = .ok (.iadd, 1) := by decide +kernel
theorem dL_snapshots_376 : decode cL_snapshots 376 = .ok (.aload_n 1, 1) := by decide +kernel
theorem dL_snapshots_377 : decode cL_snapshots 377 = .ok (.bipush 12, 2) := by decide +kernel
theorem dL_snapshots_379 : decode cL_snapshots 379 = .ok (.iconst 4, 1) := by decide +kernel
theorem dL_snapshots_380 : decode cL_snapshots 380 = .ok (.iload 5, 2) := by decide +kernel
theorem dL_snapshots_382 : decode cL_snapshots 382 = .ok (.imul, 1) := by decide +kernel
theorem dL_snapshots_383 : decode cL_snapshots 383 = .ok (.iadd, 1) := by decide +kernel
theorem dL_snapshots_384 : decode cL_snapshots 384 = .ok (.iload 9, 2) := by decide +kernel
theorem dL_snapshots_386 : decode cL_snapshots 386 = .ok (.iadd, 1) := by decide +kernel
theorem dL_snapshots_387 : decode cL_snapshots 387 = .ok (.iaload, 1) := by decide +kernel
theorem dL_snapshots_388 : decode cL_snapshots 388 = .ok (.iastore, 1) := by decide +kernel
theorem dL_snapshots_389 : decode cL_snapshots 389 = .ok (.iinc 9 1, 3) := by decide +kernel
theorem dL_snapshots_392 : decode cL_snapshots 392 = .ok (.goto (-30), 3) := by decide +kernel
theorem dL_snapshots_395 : decode cL_snapshots 395 = .ok (.aload_n 0, 1) := by decide +kernel
theorem dL_snapshots_396 : decode cL_snapshots 396 = .ok (.iload 6, 2) := by decide +kernel
theorem dL_snapshots_398 : decode cL_snapshots 398 = .ok (.invokevirtual 208, 3) := by decide +kernel
theorem dL_snapshots_401 : decode cL_snapshots 401 = .ok (.iload 8, 2) := by decide +kernel
theorem dL_snapshots_403 : decode cL_snapshots 403 = .ok (.if_icmp .ne 16, 3) := by decide +kernel
theorem dL_snapshots_406 : decode cL_snapshots 406 = .ok (.aload_n 1, 1) := by decide +kernel
theorem dL_snapshots_407 : decode cL_snapshots 407 = .ok (.aload_n 2, 1) := by decide +kernel
theorem dL_snapshots_408 : decode cL_snapshots 408 = .ok (.aload_n 3, 1) := by decide +kernel
theorem dL_snapshots_409 : decode cL_snapshots 409 = .ok (.invokestatic 166, 3) := by decide +kernel
theorem dL_snapshots_412 : decode cL_snapshots 412 = .ok (.ifCond .ne 7, 3) := by decide +kernel
theorem dL_snapshots_415 : decode cL_snapshots 415 = .ok (.iconst 1, 1) := by decide +kernel
theorem dL_snapshots_416 : decode cL_snapshots 416 = .ok (.goto 4, 3) := by decide +kernel
theorem dL_snapshots_419 : decode cL_snapshots 419 = .ok (.iconst 0, 1) := by decide +kernel
theorem dL_snapshots_420 : decode cL_snapshots 420 = .ok (.ireturn, 1) := by decide +kernel
theorem dL_datasets_0 : decode cL_datasets 0 = .ok (.iload 4, 2) := by decide +kernel
theorem dL_datasets_2 : decode cL_datasets 2 = .ok (.bipush 18, 2) := by decide +kernel
theorem dL_datasets_4 : decode cL_datasets 4 = .ok (.if_icmp .ge 196, 3) := by decide +kernel
theorem dL_datasets_7 : decode cL_datasets 7 = .ok (.aload_n 3, 1) := by decide +kernel
theorem dL_datasets_8 : decode cL_datasets 8 = .ok (.bipush 8, 2) := by decide +kernel
theorem dL_datasets_10 : decode cL_datasets 10 = .ok (.iload 5, 2) := by decide +kernel
theorem dL_datasets_12 : decode cL_datasets 12 = .ok (.iadd, 1) := by decide +kernel
theorem dL_datasets_13 : decode cL_datasets 13 = .ok (.iaload, 1) := by decide +kernel
theorem dL_datasets_14 : decode cL_datasets 14 = .ok (.ifCond .le 186, 3) := by decide +kernel
theorem dL_datasets_17 : decode cL_datasets 17 = .ok (.aload_n 3, 1) := by decide +kernel
theorem dL_datasets_18 : decode cL_datasets 18 = .ok (.bipush 8, 2) := by decide +kernel
theorem dL_datasets_20 : decode cL_datasets 20 = .ok (.iload 5, 2) := by decide +kernel
theorem dL_datasets_22 : decode cL_datasets 22 = .ok (.iadd, 1) := by decide +kernel
theorem dL_datasets_23 : decode cL_datasets 23 = .ok (.iaload, 1) := by decide +kernel
theorem dL_datasets_24 : decode cL_datasets 24 = .ok (.iconst 1, 1) := by decide +kernel
theorem dL_datasets_25 : decode cL_datasets 25 = .ok (.isub, 1) := by decide +kernel
theorem dL_datasets_26 : decode cL_datasets 26 = .ok (.istore 6, 2) := by decide +kernel
theorem dL_datasets_28 : decode cL_datasets 28 = .ok (.aload_n 3, 1) := by decide +kernel
theorem dL_datasets_29 : decode cL_datasets 29 = .ok (.bipush 16, 2) := by decide +kernel
theorem dL_datasets_31 : decode cL_datasets 31 = .ok (.aload_n 3, 1) := by decide +kernel
theorem dL_datasets_32 : decode cL_datasets 32 = .ok (.iload 6, 2) := by decide +kernel
theorem dL_datasets_34 : decode cL_datasets 34 = .ok (.invokestatic 35, 3) := by decide +kernel
theorem dL_datasets_37 : decode cL_datasets 37 = .ok (.iadd, 1) := by decide +kernel
theorem dL_datasets_38 : decode cL_datasets 38 = .ok (.iaload, 1) := by decide +kernel
theorem dL_datasets_39 : decode cL_datasets 39 = .ok (.istore 7, 2) := by decide +kernel
theorem dL_datasets_41 : decode cL_datasets 41 = .ok (.iconst 0, 1) := by decide +kernel
theorem dL_datasets_42 : decode cL_datasets 42 = .ok (.istore 8, 2) := by decide +kernel
theorem dL_datasets_44 : decode cL_datasets 44 = .ok (.iconst 0, 1) := by decide +kernel
theorem dL_datasets_45 : decode cL_datasets 45 = .ok (.istore 9, 2) := by decide +kernel
theorem dL_datasets_47 : decode cL_datasets 47 = .ok (.iload 9, 2) := by decide +kernel
theorem dL_datasets_49 : decode cL_datasets 49 = .ok (.iconst 4, 1) := by decide +kernel
theorem dL_datasets_50 : decode cL_datasets 50 = .ok (.if_icmp .ge 108, 3) := by decide +kernel
theorem dL_datasets_53 : decode cL_datasets 53 = .ok (.aload_n 3, 1) := by decide +kernel
theorem dL_datasets_54 : decode cL_datasets 54 = .ok (.bipush 12, 2) := by decide +kernel
theorem dL_datasets_56 : decode cL_datasets 56 = .ok (.iload 9, 2) := by decide +kernel
theorem dL_datasets_58 : decode cL_datasets 58 = .ok (.iadd, 1) := by decide +kernel
theorem dL_datasets_59 : decode cL_datasets 59 = .ok (.iaload, 1) := by decide +kernel
theorem dL_datasets_60 : decode cL_datasets 60 = .ok (.ifCond .le 33, 3) := by decide +kernel
theorem dL_datasets_63 : decode cL_datasets 63 = .ok (.aload_n 3, 1) := by decide +kernel
theorem dL_datasets_64 : decode cL_datasets 64 = .ok (.bipush 16, 2) := by decide +kernel
theorem dL_datasets_66 : decode cL_datasets 66 = .ok (.iload 9, 2) := by decide +kernel
theorem dL_datasets_68 : decode cL_datasets 68 = .ok (.iadd, 1) := by decide +kernel
theorem dL_datasets_69 : decode cL_datasets 69 = .ok (.iaload, 1) := by decide +kernel
theorem dL_datasets_70 : decode cL_datasets 70 = .ok (.iload 7, 2) := by decide +kernel
theorem dL_datasets_72 : decode cL_datasets 72 = .ok (.if_icmp .ne 21, 3) := by decide +kernel
theorem dL_datasets_75 : decode cL_datasets 75 = .ok (.aload_n 3, 1) := by decide +kernel
theorem dL_datasets_76 : decode cL_datasets 76 = .ok (.bipush 12, 2) := by decide +kernel
theorem dL_datasets_78 : decode cL_datasets 78 = .ok (.iload 9, 2) := by decide +kernel
theorem dL_datasets_80 : decode cL_datasets 80 = .ok (.iadd, 1) := by decide +kernel
theorem dL_datasets_81 : decode cL_datasets 81 = .ok (.iaload, 1) := by decide +kernel
theorem dL_datasets_82 : decode cL_datasets 82 = .ok (.iconst 1, 1) := by decide +kernel
theorem dL_datasets_83 : decode cL_datasets 83 = .ok (.isub, 1) := by decide +kernel
theorem dL_datasets_84 : decode cL_datasets 84 = .ok (.iload 6, 2) := by decide +kernel
theorem dL_datasets_86 : decode cL_datasets 86 = .ok (.if_icmp .gt 7, 3) := by decide +kernel
theorem dL_datasets_89 : decode cL_datasets 89 = .ok (.iconst 1, 1) := by decide +kernel
theorem dL_datasets_90 : decode cL_datasets 90 = .ok (.goto 4, 3) := by decide +kernel
theorem dL_datasets_93 : decode cL_datasets 93 = .ok (.iconst 0, 1) := by decide +kernel
theorem dL_datasets_94 : decode cL_datasets 94 = .ok (.istore 10, 2) := by decide +kernel
theorem dL_datasets_96 : decode cL_datasets 96 = .ok (.aload_n 3, 1) := by decide +kernel
theorem dL_datasets_97 : decode cL_datasets 97 = .ok (.bipush 16, 2) := by decide +kernel
theorem dL_datasets_99 : decode cL_datasets 99 = .ok (.iload 9, 2) := by decide +kernel
theorem dL_datasets_101 : decode cL_datasets 101 = .ok (.iadd, 1) := by decide +kernel
theorem dL_datasets_102 : decode cL_datasets 102 = .ok (.iload 10, 2) := by decide +kernel
theorem dL_datasets_104 : decode cL_datasets 104 = .ok (.ifCond .eq 8, 3) := by decide +kernel
theorem dL_datasets_107 : decode cL_datasets 107 = .ok (.iload 5, 2) := by decide +kernel
theorem dL_datasets_109 : decode cL_datasets 109 = .ok (.goto 10, 3) := by decide +kernel
theorem dL_datasets_112 : decode cL_datasets 112 = .ok (.aload_n 3, 1) := by decide +kernel
theorem dL_datasets_113 : decode cL_datasets 113 = .ok (.bipush 16, 2) := by decide +kernel
theorem dL_datasets_115 : decode cL_datasets 115 = .ok (.iload 9, 2) := by decide +kernel
theorem dL_datasets_117 : decode cL_datasets 117 = .ok (.iadd, 1) := by decide +kernel
theorem dL_datasets_118 : decode cL_datasets 118 = .ok (.iaload, 1) := by decide +kernel
theorem dL_datasets_119 : decode cL_datasets 119 = .ok (.iastore, 1) := by decide +kernel
theorem dL_datasets_120 : decode cL_datasets 120 = .ok (.iload 8, 2) := by decide +kernel
theorem dL_datasets_122 : decode cL_datasets 122 = .ok (.aload_n 3, 1) := by decide +kernel
theorem dL_datasets_123 : decode cL_datasets 123 = .ok (.bipush 12, 2) := by decide +kernel
theorem dL_datasets_125 : decode cL_datasets 125 = .ok (.iload 9, 2) := by decide +kernel
theorem dL_datasets_127 : decode cL_datasets 127 = .ok (.iadd, 1) := by decide +kernel
theorem dL_datasets_128 : decode cL_datasets 128 = .ok (.iaload, 1) := by decide +kernel
theorem dL_datasets_129 : decode cL_datasets 129 = .ok (.ifCond .le 19, 3) := by decide +kernel
theorem dL_datasets_132 : decode cL_datasets 132 = .ok (.aload_n 3, 1) := by decide +kernel
theorem dL_datasets_133 : decode cL_datasets 133 = .ok (.bipush 16, 2) := by decide +kernel
theorem dL_datasets_135 : decode cL_datasets 135 = .ok (.iload 9, 2) := by decide +kernel
theorem dL_datasets_137 : decode cL_datasets 137 = .ok (.iadd, 1) := by decide +kernel
theorem dL_datasets_138 : decode cL_datasets 138 = .ok (.iaload, 1) := by decide +kernel
theorem dL_datasets_139 : decode cL_datasets 139 = .ok (.iload 5, 2) := by decide +kernel
theorem dL_datasets_141 : decode cL_datasets 141 = .ok (.if_icmp .ne 7, 3) := by decide +kernel
theorem dL_datasets_144 : decode cL_datasets 144 = .ok (.iconst 1, 1) := by decide +kernel
theorem dL_datasets_145 : decode cL_datasets 145 = .ok (.goto 4, 3) := by decide +kernel
theorem dL_datasets_148 : decode cL_datasets 148 = .ok (.iconst 0, 1) := by decide +kernel
theorem dL_datasets_149 : decode cL_datasets 149 = .ok (.iadd, 1) := by decide +kernel
theorem dL_datasets_150 : decode cL_datasets 150 = .ok (.istore 8, 2) := by decide +kernel
theorem dL_datasets_152 : decode cL_datasets 152 = .ok (.iinc 9 1, 3) := by decide +kernel
theorem dL_datasets_155 : decode cL_datasets 155 = .ok (.goto (-108), 3) := by decide +kernel
theorem dL_datasets_158 : decode cL_datasets 158 = .ok (.aload_n 3, 1) := by decide +kernel
theorem dL_datasets_159 : decode cL_datasets 159 = .ok (.bipush 8, 2) := by decide +kernel
theorem dL_datasets_161 : decode cL_datasets 161 = .ok (.iload 5, 2) := by decide +kernel
theorem dL_datasets_163 : decode cL_datasets 163 = .ok (.iadd, 1) := by decide +kernel
theorem dL_datasets_164 : decode cL_datasets 164 = .ok (.aload_n 3, 1) := by decide +kernel
theorem dL_datasets_165 : decode cL_datasets 165 = .ok (.bipush 8, 2) := by decide +kernel
theorem dL_datasets_167 : decode cL_datasets 167 = .ok (.iload 7, 2) := by decide +kernel
theorem dL_datasets_169 : decode cL_datasets 169 = .ok (.iadd, 1) := by decide +kernel
theorem dL_datasets_170 : decode cL_datasets 170 = .ok (.iaload, 1) := by decide +kernel
theorem dL_datasets_171 : decode cL_datasets 171 = .ok (.iastore, 1) := by decide +kernel
theorem dL_datasets_172 : decode cL_datasets 172 = .ok (.aload_n 3, 1) := by decide +kernel
theorem dL_datasets_173 : decode cL_datasets 173 = .ok (.bipush 8, 2) := by decide +kernel
theorem dL_datasets_175 : decode cL_datasets 175 = .ok (.iload 7, 2) := by decide +kernel
theorem dL_datasets_177 : decode cL_datasets 177 = .ok (.iadd, 1) := by decide +kernel
theorem dL_datasets_178 : decode cL_datasets 178 = .ok (.iload 6, 2) := by decide +kernel
theorem dL_datasets_180 : decode cL_datasets 180 = .ok (.iconst 1, 1) := by decide +kernel
theorem dL_datasets_181 : decode cL_datasets 181 = .ok (.iadd, 1) := by decide +kernel
theorem dL_datasets_182 : decode cL_datasets 182 = .ok (.iastore, 1) := by decide +kernel
theorem dL_datasets_183 : decode cL_datasets 183 = .ok (.aload_n 0, 1) := by decide +kernel
theorem dL_datasets_184 : decode cL_datasets 184 = .ok (.iload 5, 2) := by decide +kernel
theorem dL_datasets_186 : decode cL_datasets 186 = .ok (.invokevirtual 211, 3) := by decide +kernel
theorem dL_datasets_189 : decode cL_datasets 189 = .ok (.iload 8, 2) := by decide +kernel
theorem dL_datasets_191 : decode cL_datasets 191 = .ok (.if_icmp .ne 7, 3) := by decide +kernel
theorem dL_datasets_194 : decode cL_datasets 194 = .ok (.iconst 1, 1) := by decide +kernel
theorem dL_datasets_195 : decode cL_datasets 195 = .ok (.goto 4, 3) := by decide +kernel
theorem dL_datasets_198 : decode cL_datasets 198 = .ok (.iconst 0, 1) := by decide +kernel
theorem dL_datasets_199 : decode cL_datasets 199 = .ok (.ireturn, 1) := by decide +kernel
theorem dL_datasets_200 : decode cL_datasets 200 = .ok (.aload_n 3, 1) := by decide +kernel
theorem dL_datasets_201 : decode cL_datasets 201 = .ok (.iload 5, 2) := by decide +kernel
theorem dL_datasets_203 : decode cL_datasets 203 = .ok (.iconst 0, 1) := by decide +kernel
theorem dL_datasets_204 : decode cL_datasets 204 = .ok (.invokestatic 112, 3) := by decide +kernel
theorem dL_datasets_207 : decode cL_datasets 207 = .ok (.ifCond .ge 23, 3) := by decide +kernel
theorem dL_datasets_210 : decode cL_datasets 210 = .ok (.aload_n 3, 1) := by decide +kernel
theorem dL_datasets_211 : decode cL_datasets 211 = .ok (.iconst 4, 1) := by decide +kernel
theorem dL_datasets_212 : decode cL_datasets 212 = .ok (.iaload, 1) := by decide +kernel
theorem dL_datasets_213 : decode cL_datasets 213 = .ok (.aload_n 3, 1) := by decide +kernel
theorem dL_datasets_214 : decode cL_datasets 214 = .ok (.iconst 5, 1) := by decide +kernel
theorem dL_datasets_215 : decode cL_datasets 215 = .ok (.iaload, 1) := by decide +kernel
theorem dL_datasets_216 : decode cL_datasets 216 = .ok (.iadd, 1) := by decide +kernel
theorem dL_datasets_217 : decode cL_datasets 217 = .ok (.aload_n 3, 1) := by decide +kernel
theorem dL_datasets_218 : decode cL_datasets 218 = .ok (.bipush 6, 2) := by decide +kernel
theorem dL_datasets_220 : decode cL_datasets 220 = .ok (.iaload, 1) := by decide +kernel
theorem dL_datasets_221 : decode cL_datasets 221 = .ok (.iadd, 1) := by decide +kernel
theorem dL_datasets_222 : decode cL_datasets 222 = .ok (.iconst 1, 1) := by decide +kernel
theorem dL_datasets_223 : decode cL_datasets 223 = .ok (.if_icmp .le 7, 3) := by decide +kernel
theorem dL_datasets_226 : decode cL_datasets 226 = .ok (.iconst 1, 1) := by decide +kernel
theorem dL_datasets_227 : decode cL_datasets 227 = .ok (.goto 4, 3) := by decide +kernel
theorem dL_datasets_230 : decode cL_datasets 230 = .ok (.iconst 0, 1) := by decide +kernel
theorem dL_datasets_231 : decode cL_datasets 231 = .ok (.istore 6, 2) := by decide +kernel
theorem dL_datasets_233 : decode cL_datasets 233 = .ok (.iload 6, 2) := by decide +kernel
theorem dL_datasets_235 : decode cL_datasets 235 = .ok (.ifCond .eq 43, 3) := by decide +kernel
theorem dL_datasets_238 : decode cL_datasets 238 = .ok (.aload_n 3, 1) := by decide +kernel
theorem dL_datasets_239 : decode cL_datasets 239 = .ok (.iconst 4, 1) := by decide +kernel
theorem dL_datasets_240 : decode cL_datasets 240 = .ok (.iload 5, 2) := by decide +kernel
theorem dL_datasets_242 : decode cL_datasets 242 = .ok (.iadd, 1) := by decide +kernel
theorem dL_datasets_243 : decode cL_datasets 243 = .ok (.iconst 0, 1) := by decide +kernel
theorem dL_datasets_244 : decode cL_datasets 244 = .ok (.iastore, 1) := by decide +kernel
theorem dL_datasets_245 : decode cL_datasets 245 = .ok (.aload_n 3, 1) := by decide +kernel
theorem dL_datasets_246 : decode cL_datasets 246 = .ok (.bipush 8, 2) := by decide +kernel
theorem dL_datasets_248 : decode cL_datasets 248 = .ok (.iload 5, 2) := by decide +kernel
theorem dL_datasets_250 : decode cL_datasets 250 = .ok (.iadd, 1) := by decide +kernel
theorem dL_datasets_251 : decode cL_datasets 251 = .ok (.iconst 0, 1) := by decide +kernel
theorem dL_datasets_252 : decode cL_datasets 252 = .ok (.iastore, 1) := by decide +kernel
theorem dL_datasets_253 : decode cL_datasets 253 = .ok (.iconst 0, 1) := by decide +kernel
theorem dL_datasets_254 : decode cL_datasets 254 = .ok (.istore 7, 2) := by decide +kernel
theorem dL_datasets_256 : decode cL_datasets 256 = .ok (.iload 7, 2) := by decide +kernel
theorem dL_datasets_258 : decode cL_datasets 258 = .ok (.iconst 4, 1) := by decide +kernel
theorem dL_datasets_259 : decode cL_datasets 259 = .ok (.if_icmp .ge 19, 3) := by decide +kernel
theorem dL_datasets_262 : decode cL_datasets 262 = .ok (.aload_n 1, 1) := by decide +kernel
theorem dL_datasets_263 : decode cL_datasets 263 = .ok (.iconst 4, 1) := by decide +kernel
theorem dL_datasets_264 : decode cL_datasets 264 = .ok (.iload 5, 2) := by decide +kernel
theorem dL_datasets_266 : decode cL_datasets 266 = .ok (.imul, 1) := by decide +kernel
theorem dL_datasets_267 : decode cL_datasets 267 = .ok (.iload 7, 2) := by decide +kernel
theorem dL_datasets_269 : decode cL_datasets 269 = .ok (.iadd, 1) := by decide +kernel
theorem dL_datasets_270 : decode cL_datasets 270 = .ok (.iconst 0, 1) := by decide +kernel
theorem dL_datasets_271 : decode cL_datasets 271 = .ok (.iastore, 1) := by decide +kernel
theorem dL_datasets_272 : decode cL_datasets 272 = .ok (.iinc 7 1, 3) := by decide +kernel
theorem dL_datasets_275 : decode cL_datasets 275 = .ok (.goto (-19), 3) := by decide +kernel
theorem dL_datasets_278 : decode cL_datasets 278 = .ok (.aload_n 0, 1) := by decide +kernel
theorem dL_datasets_279 : decode cL_datasets 279 = .ok (.iload 5, 2) := by decide +kernel
theorem dL_datasets_281 : decode cL_datasets 281 = .ok (.invokestatic 214, 3) := by decide +kernel
theorem dL_datasets_284 : decode cL_datasets 284 = .ok (.iload 6, 2) := by decide +kernel
theorem dL_datasets_286 : decode cL_datasets 286 = .ok (.ifCond .eq 12, 3) := by decide +kernel
theorem dL_datasets_289 : decode cL_datasets 289 = .ok (.aload_n 1, 1) := by decide +kernel
theorem dL_datasets_290 : decode cL_datasets 290 = .ok (.aload_n 2, 1) := by decide +kernel
theorem dL_datasets_291 : decode cL_datasets 291 = .ok (.aload_n 3, 1) := by decide +kernel
theorem dL_datasets_292 : decode cL_datasets 292 = .ok (.invokestatic 166, 3) := by decide +kernel
theorem dL_datasets_295 : decode cL_datasets 295 = .ok (.goto 5, 3) := by decide +kernel
theorem dL_datasets_298 : decode cL_datasets 298 = .ok (.bipush (-2), 2) := by decide +kernel
theorem dL_datasets_300 : decode cL_datasets 300 = .ok (.if_icmp .ne 7, 3) := by decide +kernel
theorem dL_datasets_303 : decode cL_datasets 303 = .ok (.iconst 1, 1) := by decide +kernel
theorem dL_datasets_304 : decode cL_datasets 304 = .ok (.goto 4, 3) := by decide +kernel
theorem dL_datasets_307 : decode cL_datasets 307 = .ok (.iconst 0, 1) := by decide +kernel
theorem dL_datasets_308 : decode cL_datasets 308 = .ok (.ireturn, 1) := by decide +kernel
theorem dL_holds_0 : decode cL_holds 0 = .ok (.new 43, 3) := by decide +kernel
theorem dL_holds_3 : decode cL_holds 3 = .ok (.dup, 1) := by decide +kernel
theorem dL_holds_4 : decode cL_holds 4 = .ok (.invokespecial 217, 3) := by decide +kernel
theorem dL_holds_7 : decode cL_holds 7 = .ok (.astore_n 1, 1) := by decide +kernel
theorem dL_holds_8 : decode cL_holds 8 = .ok (.bipush 28, 2) := by decide +kernel
theorem dL_holds_10 : decode cL_holds 10 = .ok (.newarray .int, 2) := by decide +kernel
theorem dL_holds_12 : decode cL_holds 12 = .ok (.astore_n 2, 1) := by decide +kernel
theorem dL_holds_13 : decode cL_holds 13 = .ok (.bipush 64, 2) := by decide +kernel
theorem dL_holds_15 : decode cL_holds 15 = .ok (.newarray .long, 2) := by decide +kernel
theorem dL_holds_17 : decode cL_holds 17 = .ok (.astore_n 3, 1) := by decide +kernel
theorem dL_holds_18 : decode cL_holds 18 = .ok (.bipush 32, 2) := by decide +kernel
theorem dL_holds_20 : decode cL_holds 20 = .ok (.newarray .int, 2) := by decide +kernel
theorem dL_holds_22 : decode cL_holds 22 = .ok (.astore 4, 2) := by decide +kernel
theorem dL_holds_24 : decode cL_holds 24 = .ok (.bipush 28, 2) := by decide +kernel
theorem dL_holds_26 : decode cL_holds 26 = .ok (.newarray .int, 2) := by decide +kernel
theorem dL_holds_28 : decode cL_holds 28 = .ok (.astore 5, 2) := by decide +kernel
theorem dL_holds_30 : decode cL_holds 30 = .ok (.bipush 64, 2) := by decide +kernel
theorem dL_holds_32 : decode cL_holds 32 = .ok (.newarray .long, 2) := by decide +kernel
theorem dL_holds_34 : decode cL_holds 34 = .ok (.astore 6, 2) := by decide +kernel
theorem dL_holds_36 : decode cL_holds 36 = .ok (.bipush 32, 2) := by decide +kernel
theorem dL_holds_38 : decode cL_holds 38 = .ok (.newarray .int, 2) := by decide +kernel
theorem dL_holds_40 : decode cL_holds 40 = .ok (.astore 7, 2) := by decide +kernel
theorem dL_holds_42 : decode cL_holds 42 = .ok (.iconst 4, 1) := by decide +kernel
theorem dL_holds_43 : decode cL_holds 43 = .ok (.newarray .int, 2) := by decide +kernel
theorem dL_holds_45 : decode cL_holds 45 = .ok (.astore 8, 2) := by decide +kernel
theorem dL_holds_47 : decode cL_holds 47 = .ok (.aload 4, 2) := by decide +kernel
theorem dL_holds_49 : decode cL_holds 49 = .ok (.iconst 0, 1) := by decide +kernel
theorem dL_holds_50 : decode cL_holds 50 = .ok (.iconst 1, 1) := by decide +kernel
theorem dL_holds_51 : decode cL_holds 51 = .ok (.iastore, 1) := by decide +kernel
theorem dL_holds_52 : decode cL_holds 52 = .ok (.aload 4, 2) := by decide +kernel
theorem dL_holds_54 : decode cL_holds 54 = .ok (.iconst 4, 1) := by decide +kernel
theorem dL_holds_55 : decode cL_holds 55 = .ok (.iconst 1, 1) := by decide +kernel
theorem dL_holds_56 : decode cL_holds 56 = .ok (.iastore, 1) := by decide +kernel
theorem dL_holds_57 : decode cL_holds 57 = .ok (.aload_n 2, 1) := by decide +kernel
theorem dL_holds_58 : decode cL_holds 58 = .ok (.aload_n 3, 1) := by decide +kernel
theorem dL_holds_59 : decode cL_holds 59 = .ok (.aload 4, 2) := by decide +kernel
theorem dL_holds_61 : decode cL_holds 61 = .ok (.aload 5, 2) := by decide +kernel
theorem dL_holds_63 : decode cL_holds 63 = .ok (.aload 6, 2) := by decide +kernel
theorem dL_holds_65 : decode cL_holds 65 = .ok (.aload 7, 2) := by decide +kernel
theorem dL_holds_67 : decode cL_holds 67 = .ok (.invokestatic 218, 3) := by decide +kernel
theorem dL_holds_70 : decode cL_holds 70 = .ok (.iconst 1, 1) := by decide +kernel
theorem dL_holds_71 : decode cL_holds 71 = .ok (.istore 9, 2) := by decide +kernel
theorem dL_holds_73 : decode cL_holds 73 = .ok (.iconst 0, 1) := by decide +kernel
theorem dL_holds_74 : decode cL_holds 74 = .ok (.istore 10, 2) := by decide +kernel
theorem dL_holds_76 : decode cL_holds 76 = .ok (.iload 10, 2) := by decide +kernel
theorem dL_holds_78 : decode cL_holds 78 = .ok (.sipush 150, 3) := by decide +kernel
theorem dL_holds_81 : decode cL_holds 81 = .ok (.if_icmp .ge 564, 3) := by decide +kernel
theorem dL_holds_84 : decode cL_holds 84 = .ok (.iload 9, 2) := by decide +kernel
theorem dL_holds_86 : decode cL_holds 86 = .ok (.ifCond .eq 559, 3) := by decide +kernel
theorem dL_holds_89 : decode cL_holds 89 = .ok (.aload_n 0, 1) := by decide +kernel
theorem dL_holds_90 : decode cL_holds 90 = .ok (.iconst 3, 1) := by decide +kernel
theorem dL_holds_91 : decode cL_holds 91 = .ok (.iload 10, 2) := by decide +kernel
theorem dL_holds_93 : decode cL_holds 93 = .ok (.imul, 1) := by decide +kernel
theorem dL_holds_94 : decode cL_holds 94 = .ok (.bipush 24, 2) := by decide +kernel
theorem dL_holds_96 : decode cL_holds 96 = .ok (.invokestatic 222, 3) := by decide +kernel
theorem dL_holds_99 : decode cL_holds 99 = .ok (.istore 11, 2) := by decide +kernel
theorem dL_holds_101 : decode cL_holds 101 = .ok (.aload_n 0, 1) := by decide +kernel
theorem dL_holds_102 : decode cL_holds 102 = .ok (.iconst 3, 1) := by decide +kernel
theorem dL_holds_103 : decode cL_holds 103 = .ok (.iload 10, 2) := by decide +kernel
theorem dL_holds_105 : decode cL_holds 105 = .ok (.imul, 1) := by decide +kernel
theorem dL_holds_106 : decode cL_holds 106 = .ok (.iconst 1, 1) := by decide +kernel
theorem dL_holds_107 : decode cL_holds 107 = .ok (.iadd, 1) := by decide +kernel
theorem dL_holds_108 : decode cL_holds 108 = .ok (.sipush 10000, 3) := by decide +kernel
theorem dL_holds_111 : decode cL_holds 111 = .ok (.invokestatic 222, 3) := by decide +kernel
theorem dL_holds_114 : decode cL_holds 114 = .ok (.istore 12, 2) := by decide +kernel
theorem dL_holds_116 : decode cL_holds 116 = .ok (.aload_n 0, 1) := by decide +kernel
theorem dL_holds_117 : decode cL_holds 117 = .ok (.iconst 3, 1) := by decide +kernel
theorem dL_holds_118 : decode cL_holds 118 = .ok (.iload 10, 2) := by decide +kernel
theorem dL_holds_120 : decode cL_holds 120 = .ok (.imul, 1) := by decide +kernel
theorem dL_holds_121 : decode cL_holds 121 = .ok (.iconst 2, 1) := by decide +kernel
theorem dL_holds_122 : decode cL_holds 122 = .ok (.iadd, 1) := by decide +kernel
theorem dL_holds_123 : decode cL_holds 123 = .ok (.iconst 3, 1) := by decide +kernel
theorem dL_holds_124 : decode cL_holds 124 = .ok (.invokestatic 222, 3) := by decide +kernel
theorem dL_holds_127 : decode cL_holds 127 = .ok (.istore 13, 2) := by decide +kernel
theorem dL_holds_129 : decode cL_holds 129 = .ok (.aload 4, 2) := by decide +kernel
theorem dL_holds_131 : decode cL_holds 131 = .ok (.iconst 4, 1) := by decide +kernel
theorem dL_holds_132 : decode cL_holds 132 = .ok (.iload 13, 2) := by decide +kernel
theorem dL_holds_134 : decode cL_holds 134 = .ok (.iadd, 1) := by decide +kernel
theorem dL_holds_135 : decode cL_holds 135 = .ok (.iaload, 1) := by decide +kernel
theorem dL_holds_136 : decode cL_holds 136 = .ok (.iconst 1, 1) := by decide +kernel
theorem dL_holds_137 : decode cL_holds 137 = .ok (.if_icmp .ne 8, 3) := by decide +kernel
theorem dL_holds_140 : decode cL_holds 140 = .ok (.iload 13, 2) := by decide +kernel
theorem dL_holds_142 : decode cL_holds 142 = .ok (.goto 28, 3) := by decide +kernel
theorem dL_holds_145 : decode cL_holds 145 = .ok (.aload 4, 2) := by decide +kernel
theorem dL_holds_147 : decode cL_holds 147 = .ok (.iconst 4, 1) := by decide +kernel
theorem dL_holds_148 : decode cL_holds 148 = .ok (.iaload, 1) := by decide +kernel
theorem dL_holds_149 : decode cL_holds 149 = .ok (.iconst 1, 1) := by decide +kernel
theorem dL_holds_150 : decode cL_holds 150 = .ok (.if_icmp .ne 7, 3) := by decide +kernel
theorem dL_holds_153 : decode cL_holds 153 = .ok (.iconst 0, 1) := by decide +kernel
theorem dL_holds_154 : decode cL_holds 154 = .ok (.goto 16, 3) := by decide +kernel
theorem dL_holds_157 : decode cL_holds 157 = .ok (.aload 4, 2) := by decide +kernel
theorem dL_holds_159 : decode cL_holds 159 = .ok (.iconst 5, 1) := by decide +kernel
theorem dL_holds_160 : decode cL_holds 160 = .ok (.iaload, 1) := by decide +kernel
theorem dL_holds_161 : decode cL_holds 161 = .ok (.iconst 1, 1) := by decide +kernel
theorem dL_holds_162 : decode cL_holds 162 = .ok (.if_icmp .ne 7, 3) := by decide +kernel
theorem dL_holds_165 : decode cL_holds 165 = .ok (.iconst 1, 1) := by decide +kernel
theorem dL_holds_166 : decode cL_holds 166 = .ok (.goto 4, 3) := by decide +kernel
theorem dL_holds_169 : decode cL_holds 169 = .ok (.iconst 2, 1) := by decide +kernel
theorem dL_holds_170 : decode cL_holds 170 = .ok (.istore 13, 2) := by decide +kernel
theorem dL_holds_172 : decode cL_holds 172 = .ok (.aload 4, 2) := by decide +kernel
theorem dL_holds_174 : decode cL_holds 174 = .ok (.bipush 12, 2) := by decide +kernel
theorem dL_holds_176 : decode cL_holds 176 = .ok (.iload 12, 2) := by decide +kernel
theorem dL_holds_178 : decode cL_holds 178 = .ok (.iconst 4, 1) := by decide +kernel
theorem dL_holds_179 : decode cL_holds 179 = .ok (.irem, 1) := by decide +kernel
theorem dL_holds_180 : decode cL_holds 180 = .ok (.iadd, 1) := by decide +kernel
theorem dL_holds_181 : decode cL_holds 181 = .ok (.iaload, 1) := by decide +kernel
theorem dL_holds_182 : decode cL_holds 182 = .ok (.ifCond .le 10, 3) := by decide +kernel
theorem dL_holds_185 : decode cL_holds 185 = .ok (.iload 12, 2) := by decide +kernel
theorem dL_holds_187 : decode cL_holds 187 = .ok (.iconst 4, 1) := by decide +kernel
theorem dL_holds_188 : decode cL_holds 188 = .ok (.irem, 1) := by decide +kernel
theorem dL_holds_189 : decode cL_holds 189 = .ok (.goto 4, 3) := by decide +kernel
theorem dL_holds_192 : decode cL_holds 192 = .ok (.iconst (-1), 1) := by decide +kernel
theorem dL_holds_193 : decode cL_holds 193 = .ok (.istore 14, 2) := by decide +kernel
theorem dL_holds_195 : decode cL_holds 195 = .ok (.aload 4, 2) := by decide +kernel
theorem dL_holds_197 : decode cL_holds 197 = .ok (.bipush 12, 2) := by decide +kernel
theorem dL_holds_199 : decode cL_holds 199 = .ok (.iaload, 1) := by decide +kernel
theorem dL_holds_200 : decode cL_holds 200 = .ok (.ifCond .ne 7, 3) := by decide +kernel
theorem dL_holds_203 : decode cL_holds 203 = .ok (.iconst 0, 1) := by decide +kernel
theorem dL_holds_204 : decode cL_holds 204 = .ok (.goto 40, 3) := by decide +kernel
theorem dL_holds_207 : decode cL_holds 207 = .ok (.aload 4, 2) := by decide +kernel
theorem dL_holds_209 : decode cL_holds 209 = .ok (.bipush 13, 2) := by decide +kernel
theorem dL_holds_211 : decode cL_holds 211 = .ok (.iaload, 1) := by decide +kernel
theorem dL_holds_212 : decode cL_holds 212 = .ok (.ifCond .ne 7, 3) := by decide +kernel
theorem dL_holds_215 : decode cL_holds 215 = .ok (.iconst 1, 1) := by decide +kernel
theorem dL_holds_216 : decode cL_holds 216 = .ok (.goto 28, 3) := by decide +kernel
theorem dL_holds_219 : decode cL_holds 219 = .ok (.aload 4, 2) := by decide +kernel
theorem dL_holds_221 : decode cL_holds 221 = .ok (.bipush 14, 2) := by decide +kernel
theorem dL_holds_223 : decode cL_holds 223 = .ok (.iaload, 1) := by decide +kernel
theorem dL_holds_224 : decode cL_holds 224 = .ok (.ifCond .ne 7, 3) := by decide +kernel
theorem dL_holds_227 : decode cL_holds 227 = .ok (.iconst 2, 1) := by decide +kernel
theorem dL_holds_228 : decode cL_holds 228 = .ok (.goto 16, 3) := by decide +kernel
theorem dL_holds_231 : decode cL_holds 231 = .ok (.aload 4, 2) := by decide +kernel
theorem dL_holds_233 : decode cL_holds 233 = .ok (.bipush 15, 2) := by decide +kernel
theorem dL_holds_235 : decode cL_holds 235 = .ok (.iaload, 1) := by decide +kernel
theorem dL_holds_236 : decode cL_holds 236 = .ok (.ifCond .ne 7, 3) := by decide +kernel
theorem dL_holds_239 : decode cL_holds 239 = .ok (.iconst 3, 1) := by decide +kernel
theorem dL_holds_240 : decode cL_holds 240 = .ok (.goto 4, 3) := by decide +kernel
theorem dL_holds_243 : decode cL_holds 243 = .ok (.iconst (-1), 1) := by decide +kernel
theorem dL_holds_244 : decode cL_holds 244 = .ok (.istore 15, 2) := by decide +kernel
theorem dL_holds_246 : decode cL_holds 246 = .ok (.iload 11, 2) := by decide +kernel
theorem dL_holds_248 : decode cL_holds 248 = .ok (.bipush 9, 2) := by decide +kernel
theorem dL_holds_250 : decode cL_holds 250 = .ok (.if_icmp .ge 22, 3) := by decide +kernel
theorem dL_holds_253 : decode cL_holds 253 = .ok (.aload_n 1, 1) := by decide +kernel
theorem dL_holds_254 : decode cL_holds 254 = .ok (.aload_n 2, 1) := by decide +kernel
theorem dL_holds_255 : decode cL_holds 255 = .ok (.aload_n 3, 1) := by decide +kernel
theorem dL_holds_256 : decode cL_holds 256 = .ok (.aload 4, 2) := by decide +kernel
theorem dL_holds_258 : decode cL_holds 258 = .ok (.iload 11, 2) := by decide +kernel
theorem dL_holds_260 : decode cL_holds 260 = .ok (.iload 13, 2) := by decide +kernel
theorem dL_holds_262 : decode cL_holds 262 = .ok (.iload 12, 2) := by decide +kernel
theorem dL_holds_264 : decode cL_holds 264 = .ok (.invokestatic 225, 3) := by decide +kernel
theorem dL_holds_267 : decode cL_holds 267 = .ok (.istore 9, 2) := by decide +kernel
theorem dL_holds_269 : decode cL_holds 269 = .ok (.goto 339, 3) := by decide +kernel
theorem dL_holds_272 : decode cL_holds 272 = .ok (.iload 11, 2) := by decide +kernel
theorem dL_holds_274 : decode cL_holds 274 = .ok (.bipush 16, 2) := by decide +kernel
theorem dL_holds_276 : decode cL_holds 276 = .ok (.if_icmp .ge 25, 3) := by decide +kernel
theorem dL_holds_279 : decode cL_holds 279 = .ok (.iload 14, 2) := by decide +kernel
theorem dL_holds_281 : decode cL_holds 281 = .ok (.ifCond .lt 20, 3) := by decide +kernel
theorem dL_holds_284 : decode cL_holds 284 = .ok (.aload_n 1, 1) := by decide +kernel
theorem dL_holds_285 : decode cL_holds 285 = .ok (.aload_n 2, 1) := by decide +kernel
theorem dL_holds_286 : decode cL_holds 286 = .ok (.aload_n 3, 1) := by decide +kernel
theorem dL_holds_287 : decode cL_holds 287 = .ok (.aload 4, 2) := by decide +kernel
theorem dL_holds_289 : decode cL_holds 289 = .ok (.iload 11, 2) := by decide +kernel
theorem dL_holds_291 : decode cL_holds 291 = .ok (.iload 14, 2) := by decide +kernel
theorem dL_holds_293 : decode cL_holds 293 = .ok (.invokestatic 229, 3) := by decide +kernel
theorem dL_holds_296 : decode cL_holds 296 = .ok (.istore 9, 2) := by decide +kernel
theorem dL_holds_298 : decode cL_holds 298 = .ok (.goto 310, 3) := by decide +kernel
theorem dL_holds_301 : decode cL_holds 301 = .ok (.iload 11, 2) := by decide +kernel
theorem dL_holds_303 : decode cL_holds 303 = .ok (.bipush 16, 2) := by decide +kernel
theorem dL_holds_305 : decode cL_holds 305 = .ok (.if_icmp .eq 17, 3) := by decide +kernel
theorem dL_holds_308 : decode cL_holds 308 = .ok (.iload 11, 2) := by decide +kernel
theorem dL_holds_310 : decode cL_holds 310 = .ok (.bipush 17, 2) := by decide +kernel
theorem dL_holds_312 : decode cL_holds 312 = .ok (.if_icmp .eq 10, 3) := by decide +kernel
theorem dL_holds_315 : decode cL_holds 315 = .ok (.iload 11, 2) := by decide +kernel
theorem dL_holds_317 : decode cL_holds 317 = .ok (.bipush 18, 2) := by decide +kernel
theorem dL_holds_319 : decode cL_holds 319 = .ok (.if_icmp .ne 20, 3) := by decide +kernel
theorem dL_holds_322 : decode cL_holds 322 = .ok (.aload_n 1, 1) := by decide +kernel
theorem dL_holds_323 : decode cL_holds 323 = .ok (.aload_n 2, 1) := by decide +kernel
theorem dL_holds_324 : decode cL_holds 324 = .ok (.aload_n 3, 1) := by decide +kernel
theorem dL_holds_325 : decode cL_holds 325 = .ok (.aload 4, 2) := by decide +kernel
theorem dL_holds_327 : decode cL_holds 327 = .ok (.iload 11, 2) := by decide +kernel
theorem dL_holds_329 : decode cL_holds 329 = .ok (.iload 13, 2) := by decide +kernel
theorem dL_holds_331 : decode cL_holds 331 = .ok (.invokestatic 232, 3) := by decide +kernel
theorem dL_holds_334 : decode cL_holds 334 = .ok (.istore 9, 2) := by decide +kernel
theorem dL_holds_336 : decode cL_holds 336 = .ok (.goto 272, 3) := by decide +kernel
theorem dL_holds_339 : decode cL_holds 339 = .ok (.iload 11, 2) := by decide +kernel
theorem dL_holds_341 : decode cL_holds 341 = .ok (.bipush 19, 2) := by decide +kernel
theorem dL_holds_343 : decode cL_holds 343 = .ok (.if_icmp .ne 37, 3) := by decide +kernel
theorem dL_holds_346 : decode cL_holds 346 = .ok (.aload 5, 2) := by decide +kernel
theorem dL_holds_348 : decode cL_holds 348 = .ok (.aload 6, 2) := by decide +kernel
theorem dL_holds_350 : decode cL_holds 350 = .ok (.aload 7, 2) := by decide +kernel
theorem dL_holds_352 : decode cL_holds 352 = .ok (.aload_n 2, 1) := by decide +kernel
theorem dL_holds_353 : decode cL_holds 353 = .ok (.aload_n 3, 1) := by decide +kernel
theorem dL_holds_354 : decode cL_holds 354 = .ok (.aload 4, 2) := by decide +kernel
theorem dL_holds_356 : decode cL_holds 356 = .ok (.invokestatic 218, 3) := by decide +kernel
theorem dL_holds_359 : decode cL_holds 359 = .ok (.aload_n 1, 1) := by decide +kernel
theorem dL_holds_360 : decode cL_holds 360 = .ok (.invokevirtual 234, 3) := by decide +kernel
theorem dL_holds_363 : decode cL_holds 363 = .ok (.aload 4, 2) := by decide +kernel
theorem dL_holds_365 : decode cL_holds 365 = .ok (.iconst 0, 1) := by decide +kernel
theorem dL_holds_366 : decode cL_holds 366 = .ok (.iaload, 1) := by decide +kernel
theorem dL_holds_367 : decode cL_holds 367 = .ok (.if_icmp .ne 7, 3) := by decide +kernel
theorem dL_holds_370 : decode cL_holds 370 = .ok (.iconst 1, 1) := by decide +kernel
theorem dL_holds_371 : decode cL_holds 371 = .ok (.goto 4, 3) := by decide +kernel
theorem dL_holds_374 : decode cL_holds 374 = .ok (.iconst 0, 1) := by decide +kernel
theorem dL_holds_375 : decode cL_holds 375 = .ok (.istore 9, 2) := by decide +kernel
theorem dL_holds_377 : decode cL_holds 377 = .ok (.goto 231, 3) := by decide +kernel
theorem dL_holds_380 : decode cL_holds 380 = .ok (.iconst 0, 1) := by decide +kernel
theorem dL_holds_381 : decode cL_holds 381 = .ok (.istore 16, 2) := by decide +kernel
theorem dL_holds_383 : decode cL_holds 383 = .ok (.iload 16, 2) := by decide +kernel
theorem dL_holds_385 : decode cL_holds 385 = .ok (.iconst 4, 1) := by decide +kernel
theorem dL_holds_386 : decode cL_holds 386 = .ok (.if_icmp .ge 20, 3) := by decide +kernel
theorem dL_holds_389 : decode cL_holds 389 = .ok (.aload 8, 2) := by decide +kernel
theorem dL_holds_391 : decode cL_holds 391 = .ok (.iload 16, 2) := by decide +kernel
theorem dL_holds_393 : decode cL_holds 393 = .ok (.aload_n 1, 1) := by decide +kernel
theorem dL_holds_394 : decode cL_holds 394 = .ok (.iload 16, 2) := by decide +kernel
theorem dL_holds_396 : decode cL_holds 396 = .ok (.invokevirtual 56, 3) := by decide +kernel
theorem dL_holds_399 : decode cL_holds 399 = .ok (.iastore, 1) := by decide +kernel
theorem dL_holds_400 : decode cL_holds 400 = .ok (.iinc 16 1, 3) := by decide +kernel
theorem dL_holds_403 : decode cL_holds 403 = .ok (.goto (-20), 3) := by decide +kernel
theorem dL_holds_406 : decode cL_holds 406 = .ok (.iload 11, 2) := by decide +kernel
theorem dL_holds_408 : decode cL_holds 408 = .ok (.bipush 21, 2) := by decide +kernel
theorem dL_holds_410 : decode cL_holds 410 = .ok (.if_icmp .le 12, 3) := by decide +kernel
theorem dL_holds_413 : decode cL_holds 413 = .ok (.iload 15, 2) := by decide +kernel
theorem dL_holds_415 : decode cL_holds 415 = .ok (.ifCond .lt 7, 3) := by decide +kernel
theorem dL_holds_418 : decode cL_holds 418 = .ok (.iconst 1, 1) := by decide +kernel
theorem dL_holds_419 : decode cL_holds 419 = .ok (.goto 4, 3) := by decide +kernel
theorem dL_holds_422 : decode cL_holds 422 = .ok (.iconst 0, 1) := by decide +kernel
theorem dL_holds_423 : decode cL_holds 423 = .ok (.istore 16, 2) := by decide +kernel
theorem dL_holds_425 : decode cL_holds 425 = .ok (.iconst 0, 1) := by decide +kernel
theorem dL_holds_426 : decode cL_holds 426 = .ok (.istore 17, 2) := by decide +kernel
theorem dL_holds_428 : decode cL_holds 428 = .ok (.iload 17, 2) := by decide +kernel
theorem dL_holds_430 : decode cL_holds 430 = .ok (.iconst 4, 1) := by decide +kernel
theorem dL_holds_431 : decode cL_holds 431 = .ok (.if_icmp .ge 35, 3) := by decide +kernel
theorem dL_holds_434 : decode cL_holds 434 = .ok (.iload 16, 2) := by decide +kernel
theorem dL_holds_436 : decode cL_holds 436 = .ok (.ifCond .eq 30, 3) := by decide +kernel
theorem dL_holds_439 : decode cL_holds 439 = .ok (.aload_n 2, 1) := by decide +kernel
theorem dL_holds_440 : decode cL_holds 440 = .ok (.bipush 12, 2) := by decide +kernel
theorem dL_holds_442 : decode cL_holds 442 = .ok (.iconst 4, 1) := by decide +kernel
theorem dL_holds_443 : decode cL_holds 443 = .ok (.iload 15, 2) := by decide +kernel
theorem dL_holds_445 : decode cL_holds 445 = .ok (.imul, 1) := by decide +kernel
theorem dL_holds_446 : decode cL_holds 446 = .ok (.iadd, 1) := by decide +kernel
theorem dL_holds_447 : decode cL_holds 447 = .ok (.iload 17, 2) := by decide +kernel
theorem dL_holds_449 : decode cL_holds 449 = .ok (.iadd, 1) := by decide +kernel
theorem dL_holds_450 : decode cL_holds 450 = .ok (.aload_n 2, 1) := by decide +kernel
theorem dL_holds_451 : decode cL_holds 451 = .ok (.iconst 4, 1) := by decide +kernel
theorem dL_holds_452 : decode cL_holds 452 = .ok (.iload 13, 2) := by decide +kernel
theorem dL_holds_454 : decode cL_holds 454 = .ok (.imul, 1) := by decide +kernel
theorem dL_holds_455 : decode cL_holds 455 = .ok (.iload 17, 2) := by decide +kernel
theorem dL_holds_457 : decode cL_holds 457 = .ok (.iadd, 1) := by decide +kernel
theorem dL_holds_458 : decode cL_holds 458 = .ok (.iaload, 1) := by decide +kernel
theorem dL_holds_459 : decode cL_holds 459 = .ok (.iastore, 1) := by decide +kernel
theorem dL_holds_460 : decode cL_holds 460 = .ok (.iinc 17 1, 3) := by decide +kernel
theorem dL_holds_463 : decode cL_holds 463 = .ok (.goto (-35), 3) := by decide +kernel
theorem dL_holds_466 : decode cL_holds 466 = .ok (.iload 16, 2) := by decide +kernel
theorem dL_holds_468 : decode cL_holds 468 = .ok (.ifCond .eq 47, 3) := by decide +kernel
theorem dL_holds_471 : decode cL_holds 471 = .ok (.aload 4, 2) := by decide +kernel
theorem dL_holds_473 : decode cL_holds 473 = .ok (.bipush 12, 2) := by decide +kernel
theorem dL_holds_475 : decode cL_holds 475 = .ok (.iload 15, 2) := by decide +kernel
theorem dL_holds_477 : decode cL_holds 477 = .ok (.iadd, 1) := by decide +kernel
theorem dL_holds_478 : decode cL_holds 478 = .ok (.aload 4, 2) := by decide +kernel
theorem dL_holds_480 : decode cL_holds 480 = .ok (.iconst 1, 1) := by decide +kernel
theorem dL_holds_481 : decode cL_holds 481 = .ok (.iaload, 1) := by decide +kernel
theorem dL_holds_482 : decode cL_holds 482 = .ok (.iconst 1, 1) := by decide +kernel
theorem dL_holds_483 : decode cL_holds 483 = .ok (.iadd, 1) := by decide +kernel
theorem dL_holds_484 : decode cL_holds 484 = .ok (.iastore, 1) := by decide +kernel
theorem dL_holds_485 : decode cL_holds 485 = .ok (.aload 4, 2) := by decide +kernel
theorem dL_holds_487 : decode cL_holds 487 = .ok (.bipush 16, 2) := by decide +kernel
theorem dL_holds_489 : decode cL_holds 489 = .ok (.iload 15, 2) := by decide +kernel
theorem dL_holds_491 : decode cL_holds 491 = .ok (.iadd, 1) := by decide +kernel
theorem dL_holds_492 : decode cL_holds 492 = .ok (.iload 13, 2) := by decide +kernel
theorem dL_holds_494 : decode cL_holds 494 = .ok (.iastore, 1) := by decide +kernel
theorem dL_holds_495 : decode cL_holds 495 = .ok (.aload 4, 2) := by decide +kernel
theorem dL_holds_497 : decode cL_holds 497 = .ok (.bipush 20, 2) := by decide +kernel
theorem dL_holds_499 : decode cL_holds 499 = .ok (.iload 15, 2) := by decide +kernel
theorem dL_holds_501 : decode cL_holds 501 = .ok (.iadd, 1) := by decide +kernel
theorem dL_holds_502 : decode cL_holds 502 = .ok (.aload 4, 2) := by decide +kernel
theorem dL_holds_504 : decode cL_holds 504 = .ok (.iconst 0, 1) := by decide +kernel
theorem dL_holds_505 : decode cL_holds 505 = .ok (.iaload, 1) := by decide +kernel
theorem dL_holds_506 : decode cL_holds 506 = .ok (.iastore, 1) := by decide +kernel
theorem dL_holds_507 : decode cL_holds 507 = .ok (.aload 4, 2) := by decide +kernel
theorem dL_holds_509 : decode cL_holds 509 = .ok (.iconst 1, 1) := by decide +kernel
theorem dL_holds_510 : decode cL_holds 510 = .ok (.dup2, 1) := by decide +kernel
theorem dL_holds_511 : decode cL_holds 511 = .ok (.iaload, 1) := by decide +kernel
theorem dL_holds_512 : decode cL_holds 512 = .ok (.iconst 1, 1) := by decide +kernel
theorem dL_holds_513 : decode cL_holds 513 = .ok (.iadd, 1) := by decide +kernel
theorem dL_holds_514 : decode cL_holds 514 = .ok (.iastore, 1) := by decide +kernel
theorem dL_holds_515 : decode cL_holds 515 = .ok (.iload 16, 2) := by decide +kernel
theorem dL_holds_517 : decode cL_holds 517 = .ok (.ifCond .eq 26, 3) := by decide +kernel
theorem dL_holds_520 : decode cL_holds 520 = .ok (.aload_n 1, 1) := by decide +kernel
theorem dL_holds_521 : decode cL_holds 521 = .ok (.iload 13, 2) := by decide +kernel
theorem dL_holds_523 : decode cL_holds 523 = .ok (.invokevirtual 237, 3) := by decide +kernel
theorem dL_holds_526 : decode cL_holds 526 = .ok (.aload 4, 2) := by decide +kernel
theorem dL_holds_528 : decode cL_holds 528 = .ok (.iconst 1, 1) := by decide +kernel
theorem dL_holds_529 : decode cL_holds 529 = .ok (.iaload, 1) := by decide +kernel
theorem dL_holds_530 : decode cL_holds 530 = .ok (.iconst 1, 1) := by decide +kernel
theorem dL_holds_531 : decode cL_holds 531 = .ok (.isub, 1) := by decide +kernel
theorem dL_holds_532 : decode cL_holds 532 = .ok (.if_icmp .ne 7, 3) := by decide +kernel
theorem dL_holds_535 : decode cL_holds 535 = .ok (.iconst 1, 1) := by decide +kernel
theorem dL_holds_536 : decode cL_holds 536 = .ok (.goto 23, 3) := by decide +kernel
theorem dL_holds_539 : decode cL_holds 539 = .ok (.iconst 0, 1) := by decide +kernel
theorem dL_holds_540 : decode cL_holds 540 = .ok (.goto 19, 3) := by decide +kernel
theorem dL_holds_543 : decode cL_holds 543 = .ok (.aload_n 1, 1) := by decide +kernel
theorem dL_holds_544 : decode cL_holds 544 = .ok (.invokevirtual 240, 3) := by decide +kernel
theorem dL_holds_547 : decode cL_holds 547 = .ok (.aload 4, 2) := by decide +kernel
theorem dL_holds_549 : decode cL_holds 549 = .ok (.iconst 0, 1) := by decide +kernel
theorem dL_holds_550 : decode cL_holds 550 = .ok (.iaload, 1) := by decide +kernel
theorem dL_holds_551 : decode cL_holds 551 = .ok (.if_icmp .ne 7, 3) := by decide +kernel
theorem dL_holds_554 : decode cL_holds 554 = .ok (.iconst 1, 1) := by decide +kernel
theorem dL_holds_555 : decode cL_holds 555 = .ok (.goto 4, 3) := by decide +kernel
theorem dL_holds_558 : decode cL_holds 558 = .ok (.iconst 0, 1) := by decide +kernel
theorem dL_holds_559 : decode cL_holds 559 = .ok (.istore 9, 2) := by decide +kernel
theorem dL_holds_561 : decode cL_holds 561 = .ok (.iload 9, 2) := by decide +kernel
theorem dL_holds_563 : decode cL_holds 563 = .ok (.ifCond .eq 29, 3) := by decide +kernel
theorem dL_holds_566 : decode cL_holds 566 = .ok (.aload_n 2, 1) := by decide +kernel
theorem dL_holds_567 : decode cL_holds 567 = .ok (.aload_n 3, 1) := by decide +kernel
theorem dL_holds_568 : decode cL_holds 568 = .ok (.aload 4, 2) := by decide +kernel
theorem dL_holds_570 : decode cL_holds 570 = .ok (.invokestatic 166, 3) := by decide +kernel
theorem dL_holds_573 : decode cL_holds 573 = .ok (.ifCond .ne 19, 3) := by decide +kernel
theorem dL_holds_576 : decode cL_holds 576 = .ok (.aload_n 1, 1) := by decide +kernel
theorem dL_holds_577 : decode cL_holds 577 = .ok (.aload_n 3, 1) := by decide +kernel
theorem dL_holds_578 : decode cL_holds 578 = .ok (.aload 4, 2) := by decide +kernel
theorem dL_holds_580 : decode cL_holds 580 = .ok (.aload 8, 2) := by decide +kernel
theorem dL_holds_582 : decode cL_holds 582 = .ok (.invokestatic 243, 3) := by decide +kernel
theorem dL_holds_585 : decode cL_holds 585 = .ok (.ifCond .eq 7, 3) := by decide +kernel
theorem dL_holds_588 : decode cL_holds 588 = .ok (.iconst 1, 1) := by decide +kernel
theorem dL_holds_589 : decode cL_holds 589 = .ok (.goto 4, 3) := by decide +kernel
theorem dL_holds_592 : decode cL_holds 592 = .ok (.iconst 0, 1) := by decide +kernel
theorem dL_holds_593 : decode cL_holds 593 = .ok (.istore 9, 2) := by decide +kernel
theorem dL_holds_595 : decode cL_holds 595 = .ok (.aload_n 2, 1) := by decide +kernel
theorem dL_holds_596 : decode cL_holds 596 = .ok (.aload_n 3, 1) := by decide +kernel
theorem dL_holds_597 : decode cL_holds 597 = .ok (.aload 4, 2) := by decide +kernel
theorem dL_holds_599 : decode cL_holds 599 = .ok (.aload 5, 2) := by decide +kernel
theorem dL_holds_601 : decode cL_holds 601 = .ok (.aload 6, 2) := by decide +kernel
theorem dL_holds_603 : decode cL_holds 603 = .ok (.aload 7, 2) := by decide +kernel
theorem dL_holds_605 : decode cL_holds 605 = .ok (.invokestatic 218, 3) := by decide +kernel
theorem dL_holds_608 : decode cL_holds 608 = .ok (.iload 9, 2) := by decide +kernel
theorem dL_holds_610 : decode cL_holds 610 = .ok (.ifCond .eq 26, 3) := by decide +kernel
theorem dL_holds_613 : decode cL_holds 613 = .ok (.iload 10, 2) := by decide +kernel
theorem dL_holds_615 : decode cL_holds 615 = .ok (.iconst 5, 1) := by decide +kernel
theorem dL_holds_616 : decode cL_holds 616 = .ok (.irem, 1) := by decide +kernel
theorem dL_holds_617 : decode cL_holds 617 = .ok (.iconst 4, 1) := by decide +kernel
theorem dL_holds_618 : decode cL_holds 618 = .ok (.if_icmp .lt 14, 3) := by decide +kernel
theorem dL_holds_621 : decode cL_holds 621 = .ok (.aload_n 1, 1) := by decide +kernel
theorem dL_holds_622 : decode cL_holds 622 = .ok (.aload_n 2, 1) := by decide +kernel
theorem dL_holds_623 : decode cL_holds 623 = .ok (.aload_n 3, 1) := by decide +kernel
theorem dL_holds_624 : decode cL_holds 624 = .ok (.aload 4, 2) := by decide +kernel
theorem dL_holds_626 : decode cL_holds 626 = .ok (.invokestatic 247, 3) := by decide +kernel
theorem dL_holds_629 : decode cL_holds 629 = .ok (.ifCond .eq 7, 3) := by decide +kernel
theorem dL_holds_632 : decode cL_holds 632 = .ok (.iconst 1, 1) := by decide +kernel
theorem dL_holds_633 : decode cL_holds 633 = .ok (.goto 4, 3) := by decide +kernel
theorem dL_holds_636 : decode cL_holds 636 = .ok (.iconst 0, 1) := by decide +kernel
theorem dL_holds_637 : decode cL_holds 637 = .ok (.istore 9, 2) := by decide +kernel
theorem dL_holds_639 : decode cL_holds 639 = .ok (.iinc 10 1, 3) := by decide +kernel
theorem dL_holds_642 : decode cL_holds 642 = .ok (.goto (-566), 3) := by decide +kernel
theorem dL_holds_645 : decode cL_holds 645 = .ok (.iload 9, 2) := by decide +kernel
theorem dL_holds_647 : decode cL_holds 647 = .ok (.ireturn, 1) := by decide +kernel
theorem dL_isHeld_0 : decode cL_isHeld 0 = .ok (.aload_n 0, 1) := by decide +kernel
theorem dL_isHeld_1 : decode cL_isHeld 1 = .ok (.invokestatic 250, 3) := by decide +kernel
theorem dL_isHeld_4 : decode cL_isHeld 4 = .ok (.ireturn, 1) := by decide +kernel
theorem dL_isHeld_5 : decode cL_isHeld 5 = .ok (.astore_n 1, 1) := by decide +kernel
theorem dL_isHeld_6 : decode cL_isHeld 6 = .ok (.iconst 0, 1) := by decide +kernel
theorem dL_isHeld_7 : decode cL_isHeld 7 = .ok (.ireturn, 1) := by decide +kernel
theorem dL_isHeld_8 : decode cL_isHeld 8 = .ok (.astore_n 1, 1) := by decide +kernel
theorem dL_isHeld_9 : decode cL_isHeld 9 = .ok (.iconst 0, 1) := by decide +kernel
theorem dL_isHeld_10 : decode cL_isHeld 10 = .ok (.ireturn, 1) := by decide +kernel
theorem dL_isHeld_11 : decode cL_isHeld 11 = .ok (.astore_n 1, 1) := by decide +kernel
theorem dL_isHeld_12 : decode cL_isHeld 12 = .ok (.iconst 0, 1) := by decide +kernel
theorem dL_isHeld_13 : decode cL_isHeld 13 = .ok (.ireturn, 1) := by decide +kernel
theorem dL_law_0 : decode cL_law 0 = .ok (.aload_n 0, 1) := by decide +kernel
theorem dL_law_1 : decode cL_law 1 = .ok (.invokestatic 258, 3) := by decide +kernel
theorem dL_law_4 : decode cL_law 4 = .ok (.ireturn, 1) := by decide +kernel
