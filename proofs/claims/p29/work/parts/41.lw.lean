theorem dL_low_0 : decode cL_low 0 = .ok (.iload_n 0, 1) := by decide +kernel
theorem dL_low_1 : decode cL_low 1 = .ok (.ldc 7, 2) := by decide +kernel
theorem dL_low_3 : decode cL_low 3 = .ok (.iand, 1) := by decide +kernel
theorem dL_low_4 : decode cL_low 4 = .ok (.iload_n 1, 1) := by decide +kernel
theorem dL_low_5 : decode cL_low 5 = .ok (.irem, 1) := by decide +kernel
theorem dL_low_6 : decode cL_low 6 = .ok (.ireturn, 1) := by decide +kernel
theorem dL_cell_0 : decode cL_cell 0 = .ok (.iload_n 1, 1) := by decide +kernel
theorem dL_cell_1 : decode cL_cell 1 = .ok (.aload_n 0, 1) := by decide +kernel
theorem dL_cell_2 : decode cL_cell 2 = .ok (.arraylength, 1) := by decide +kernel
theorem dL_cell_3 : decode cL_cell 3 = .ok (.if_icmp .ge 9, 3) := by decide +kernel
theorem dL_cell_6 : decode cL_cell 6 = .ok (.aload_n 0, 1) := by decide +kernel
theorem dL_cell_7 : decode cL_cell 7 = .ok (.iload_n 1, 1) := by decide +kernel
theorem dL_cell_8 : decode cL_cell 8 = .ok (.iaload, 1) := by decide +kernel
theorem dL_cell_9 : decode cL_cell 9 = .ok (.goto 11, 3) := by decide +kernel
theorem dL_cell_12 : decode cL_cell 12 = .ok (.ldc 8, 2) := by decide +kernel
theorem dL_cell_14 : decode cL_cell 14 = .ok (.iload_n 1, 1) := by decide +kernel
theorem dL_cell_15 : decode cL_cell 15 = .ok (.imul, 1) := by decide +kernel
theorem dL_cell_16 : decode cL_cell 16 = .ok (.sipush 977, 3) := by decide +kernel
theorem dL_cell_19 : decode cL_cell 19 = .ok (.iadd, 1) := by decide +kernel
theorem dL_cell_20 : decode cL_cell 20 = .ok (.ireturn, 1) := by decide +kernel
theorem dL_press_0 : decode cL_press 0 = .ok (.aload_n 0, 1) := by decide +kernel
theorem dL_press_1 : decode cL_press 1 = .ok (.iload_n 1, 1) := by decide +kernel
theorem dL_press_2 : decode cL_press 2 = .ok (.iload_n 2, 1) := by decide +kernel
theorem dL_press_3 : decode cL_press 3 = .ok (.invokevirtual 9, 3) := by decide +kernel
theorem dL_press_6 : decode cL_press 6 = .ok (.ireturn, 1) := by decide +kernel
theorem dL_press_7 : decode cL_press 7 = .ok (.astore_n 3, 1) := by decide +kernel
theorem dL_press_8 : decode cL_press 8 = .ok (.bipush (-3), 2) := by decide +kernel
theorem dL_press_10 : decode cL_press 10 = .ok (.ireturn, 1) := by decide +kernel
theorem dL_again_0 : decode cL_again 0 = .ok (.aload_n 0, 1) := by decide +kernel
theorem dL_again_1 : decode cL_again 1 = .ok (.iload_n 1, 1) := by decide +kernel
theorem dL_again_2 : decode cL_again 2 = .ok (.iload_n 2, 1) := by decide +kernel
theorem dL_again_3 : decode cL_again 3 = .ok (.invokevirtual 17, 3) := by decide +kernel
theorem dL_again_6 : decode cL_again 6 = .ok (.ireturn, 1) := by decide +kernel
theorem dL_again_7 : decode cL_again 7 = .ok (.astore_n 3, 1) := by decide +kernel
theorem dL_again_8 : decode cL_again 8 = .ok (.iconst (-1), 1) := by decide +kernel
theorem dL_again_9 : decode cL_again 9 = .ok (.ireturn, 1) := by decide +kernel
theorem dL_undo_0 : decode cL_undo 0 = .ok (.aload_n 0, 1) := by decide +kernel
theorem dL_undo_1 : decode cL_undo 1 = .ok (.invokevirtual 22, 3) := by decide +kernel
theorem dL_undo_4 : decode cL_undo 4 = .ok (.ireturn, 1) := by decide +kernel
theorem dL_undo_5 : decode cL_undo 5 = .ok (.astore_n 1, 1) := by decide +kernel
theorem dL_undo_6 : decode cL_undo 6 = .ok (.bipush (-3), 2) := by decide +kernel
theorem dL_undo_8 : decode cL_undo 8 = .ok (.ireturn, 1) := by decide +kernel
theorem dL_yard_0 : decode cL_yard 0 = .ok (.iconst 0, 1) := by decide +kernel
theorem dL_yard_1 : decode cL_yard 1 = .ok (.istore_n 1, 1) := by decide +kernel
theorem dL_yard_2 : decode cL_yard 2 = .ok (.iconst 0, 1) := by decide +kernel
theorem dL_yard_3 : decode cL_yard 3 = .ok (.istore_n 2, 1) := by decide +kernel
theorem dL_yard_4 : decode cL_yard 4 = .ok (.iconst 0, 1) := by decide +kernel
theorem dL_yard_5 : decode cL_yard 5 = .ok (.istore_n 3, 1) := by decide +kernel
theorem dL_yard_6 : decode cL_yard 6 = .ok (.iconst 0, 1) := by decide +kernel
theorem dL_yard_7 : decode cL_yard 7 = .ok (.istore 4, 2) := by decide +kernel
theorem dL_yard_9 : decode cL_yard 9 = .ok (.aload_n 0, 1) := by decide +kernel
theorem dL_yard_10 : decode cL_yard 10 = .ok (.iconst 3, 1) := by decide +kernel
theorem dL_yard_11 : decode cL_yard 11 = .ok (.invokevirtual 26, 3) := by decide +kernel
theorem dL_yard_14 : decode cL_yard 14 = .ok (.aload_n 0, 1) := by decide +kernel
theorem dL_yard_15 : decode cL_yard 15 = .ok (.iconst 2, 1) := by decide +kernel
theorem dL_yard_16 : decode cL_yard 16 = .ok (.invokevirtual 26, 3) := by decide +kernel
theorem dL_yard_19 : decode cL_yard 19 = .ok (.if_icmp .gt 32, 3) := by decide +kernel
theorem dL_yard_22 : decode cL_yard 22 = .ok (.aload_n 0, 1) := by decide +kernel
theorem dL_yard_23 : decode cL_yard 23 = .ok (.bipush 6, 2) := by decide +kernel
theorem dL_yard_25 : decode cL_yard 25 = .ok (.invokevirtual 26, 3) := by decide +kernel
theorem dL_yard_28 : decode cL_yard 28 = .ok (.bipush 8, 2) := by decide +kernel
theorem dL_yard_30 : decode cL_yard 30 = .ok (.if_icmp .gt 21, 3) := by decide +kernel
theorem dL_yard_33 : decode cL_yard 33 = .ok (.aload_n 0, 1) := by decide +kernel
theorem dL_yard_34 : decode cL_yard 34 = .ok (.aload_n 0, 1) := by decide +kernel
theorem dL_yard_35 : decode cL_yard 35 = .ok (.bipush 6, 2) := by decide +kernel
theorem dL_yard_37 : decode cL_yard 37 = .ok (.invokevirtual 26, 3) := by decide +kernel
theorem dL_yard_40 : decode cL_yard 40 = .ok (.invokevirtual 30, 3) := by decide +kernel
theorem dL_yard_43 : decode cL_yard 43 = .ok (.iconst (-1), 1) := by decide +kernel
theorem dL_yard_44 : decode cL_yard 44 = .ok (.if_icmp .ne 7, 3) := by decide +kernel
theorem dL_yard_47 : decode cL_yard 47 = .ok (.iconst 1, 1) := by decide +kernel
theorem dL_yard_48 : decode cL_yard 48 = .ok (.goto 4, 3) := by decide +kernel
theorem dL_yard_51 : decode cL_yard 51 = .ok (.iconst 0, 1) := by decide +kernel
theorem dL_yard_52 : decode cL_yard 52 = .ok (.istore 5, 2) := by decide +kernel
theorem dL_yard_54 : decode cL_yard 54 = .ok (.iconst 0, 1) := by decide +kernel
theorem dL_yard_55 : decode cL_yard 55 = .ok (.istore 6, 2) := by decide +kernel
theorem dL_yard_57 : decode cL_yard 57 = .ok (.iload 6, 2) := by decide +kernel
theorem dL_yard_59 : decode cL_yard 59 = .ok (.aload_n 0, 1) := by decide +kernel
theorem dL_yard_60 : decode cL_yard 60 = .ok (.bipush 6, 2) := by decide +kernel
theorem dL_yard_62 : decode cL_yard 62 = .ok (.invokevirtual 26, 3) := by decide +kernel
theorem dL_yard_65 : decode cL_yard 65 = .ok (.if_icmp .ge 41, 3) := by decide +kernel
theorem dL_yard_68 : decode cL_yard 68 = .ok (.iload 5, 2) := by decide +kernel
theorem dL_yard_70 : decode cL_yard 70 = .ok (.ifCond .eq 36, 3) := by decide +kernel
theorem dL_yard_73 : decode cL_yard 73 = .ok (.aload_n 0, 1) := by decide +kernel
theorem dL_yard_74 : decode cL_yard 74 = .ok (.iload 6, 2) := by decide +kernel
theorem dL_yard_76 : decode cL_yard 76 = .ok (.invokevirtual 30, 3) := by decide +kernel
theorem dL_yard_79 : decode cL_yard 79 = .ok (.ifCond .lt 18, 3) := by decide +kernel
theorem dL_yard_82 : decode cL_yard 82 = .ok (.aload_n 0, 1) := by decide +kernel
theorem dL_yard_83 : decode cL_yard 83 = .ok (.iload 6, 2) := by decide +kernel
theorem dL_yard_85 : decode cL_yard 85 = .ok (.invokevirtual 30, 3) := by decide +kernel
theorem dL_yard_88 : decode cL_yard 88 = .ok (.ldc 33, 2) := by decide +kernel
theorem dL_yard_90 : decode cL_yard 90 = .ok (.if_icmp .gt 7, 3) := by decide +kernel
theorem dL_yard_93 : decode cL_yard 93 = .ok (.iconst 1, 1) := by decide +kernel
theorem dL_yard_94 : decode cL_yard 94 = .ok (.goto 4, 3) := by decide +kernel
theorem dL_yard_97 : decode cL_yard 97 = .ok (.iconst 0, 1) := by decide +kernel
theorem dL_yard_98 : decode cL_yard 98 = .ok (.istore 5, 2) := by decide +kernel
theorem dL_yard_100 : decode cL_yard 100 = .ok (.iinc 6 1, 3) := by decide +kernel
theorem dL_yard_103 : decode cL_yard 103 = .ok (.goto (-46), 3) := by decide +kernel
theorem dL_yard_106 : decode cL_yard 106 = .ok (.iconst 0, 1) := by decide +kernel
theorem dL_yard_107 : decode cL_yard 107 = .ok (.istore 6, 2) := by decide +kernel
theorem dL_yard_109 : decode cL_yard 109 = .ok (.iload 6, 2) := by decide +kernel
theorem dL_yard_111 : decode cL_yard 111 = .ok (.iconst 4, 1) := by decide +kernel
theorem dL_yard_112 : decode cL_yard 112 = .ok (.if_icmp .ge 19, 3) := by decide +kernel
theorem dL_yard_115 : decode cL_yard 115 = .ok (.iload_n 1, 1) := by decide +kernel
theorem dL_yard_116 : decode cL_yard 116 = .ok (.aload_n 0, 1) := by decide +kernel
theorem dL_yard_117 : decode cL_yard 117 = .ok (.iload 6, 2) := by decide +kernel
theorem dL_yard_119 : decode cL_yard 119 = .ok (.iconst 4, 1) := by decide +kernel
theorem dL_yard_120 : decode cL_yard 120 = .ok (.invokevirtual 34, 3) := by decide +kernel
theorem dL_yard_123 : decode cL_yard 123 = .ok (.iadd, 1) := by decide +kernel
theorem dL_yard_124 : decode cL_yard 124 = .ok (.istore_n 1, 1) := by decide +kernel
theorem dL_yard_125 : decode cL_yard 125 = .ok (.iinc 6 1, 3) := by decide +kernel
theorem dL_yard_128 : decode cL_yard 128 = .ok (.goto (-19), 3) := by decide +kernel
theorem dL_yard_131 : decode cL_yard 131 = .ok (.iconst 0, 1) := by decide +kernel
theorem dL_yard_132 : decode cL_yard 132 = .ok (.istore 6, 2) := by decide +kernel
theorem dL_yard_134 : decode cL_yard 134 = .ok (.iload 6, 2) := by decide +kernel
theorem dL_yard_136 : decode cL_yard 136 = .ok (.iconst 3, 1) := by decide +kernel
theorem dL_yard_137 : decode cL_yard 137 = .ok (.if_icmp .ge 337, 3) := by decide +kernel
theorem dL_yard_140 : decode cL_yard 140 = .ok (.iload 5, 2) := by decide +kernel
theorem dL_yard_142 : decode cL_yard 142 = .ok (.ifCond .eq 332, 3) := by decide +kernel
theorem dL_yard_145 : decode cL_yard 145 = .ok (.iconst 0, 1) := by decide +kernel
theorem dL_yard_146 : decode cL_yard 146 = .ok (.istore 7, 2) := by decide +kernel
theorem dL_yard_148 : decode cL_yard 148 = .ok (.iconst 0, 1) := by decide +kernel
theorem dL_yard_149 : decode cL_yard 149 = .ok (.istore 8, 2) := by decide +kernel
theorem dL_yard_151 : decode cL_yard 151 = .ok (.iload 8, 2) := by decide +kernel
theorem dL_yard_153 : decode cL_yard 153 = .ok (.iconst 4, 1) := by decide +kernel
theorem dL_yard_154 : decode cL_yard 154 = .ok (.if_icmp .ge 129, 3) := by decide +kernel
theorem dL_yard_157 : decode cL_yard 157 = .ok (.iload 5, 2) := by decide +kernel
theorem dL_yard_159 : decode cL_yard 159 = .ok (.ifCond .eq 124, 3) := by decide +kernel
theorem dL_yard_162 : decode cL_yard 162 = .ok (.aload_n 0, 1) := by decide +kernel
theorem dL_yard_163 : decode cL_yard 163 = .ok (.iload 6, 2) := by decide +kernel
theorem dL_yard_165 : decode cL_yard 165 = .ok (.iload 8, 2) := by decide +kernel
theorem dL_yard_167 : decode cL_yard 167 = .ok (.iconst 0, 1) := by decide +kernel
theorem dL_yard_168 : decode cL_yard 168 = .ok (.invokevirtual 37, 3) := by decide +kernel
theorem dL_yard_171 : decode cL_yard 171 = .ok (.istore 9, 2) := by decide +kernel
theorem dL_yard_173 : decode cL_yard 173 = .ok (.iload 7, 2) := by decide +kernel
theorem dL_yard_175 : decode cL_yard 175 = .ok (.iload 9, 2) := by decide +kernel
theorem dL_yard_177 : decode cL_yard 177 = .ok (.iadd, 1) := by decide +kernel
theorem dL_yard_178 : decode cL_yard 178 = .ok (.istore 7, 2) := by decide +kernel
theorem dL_yard_180 : decode cL_yard 180 = .ok (.iload 9, 2) := by decide +kernel
theorem dL_yard_182 : decode cL_yard 182 = .ok (.iconst 1, 1) := by decide +kernel
theorem dL_yard_183 : decode cL_yard 183 = .ok (.if_icmp .ne 48, 3) := by decide +kernel
theorem dL_yard_186 : decode cL_yard 186 = .ok (.aload_n 0, 1) := by decide +kernel
theorem dL_yard_187 : decode cL_yard 187 = .ok (.iload 6, 2) := by decide +kernel
theorem dL_yard_189 : decode cL_yard 189 = .ok (.iload 8, 2) := by decide +kernel
theorem dL_yard_191 : decode cL_yard 191 = .ok (.iconst 1, 1) := by decide +kernel
theorem dL_yard_192 : decode cL_yard 192 = .ok (.invokevirtual 37, 3) := by decide +kernel
theorem dL_yard_195 : decode cL_yard 195 = .ok (.ifCond .lt 32, 3) := by decide +kernel
theorem dL_yard_198 : decode cL_yard 198 = .ok (.aload_n 0, 1) := by decide +kernel
theorem dL_yard_199 : decode cL_yard 199 = .ok (.iload 6, 2) := by decide +kernel
theorem dL_yard_201 : decode cL_yard 201 = .ok (.iload 8, 2) := by decide +kernel
theorem dL_yard_203 : decode cL_yard 203 = .ok (.iconst 2, 1) := by decide +kernel
theorem dL_yard_204 : decode cL_yard 204 = .ok (.invokevirtual 37, 3) := by decide +kernel
theorem dL_yard_207 : decode cL_yard 207 = .ok (.ifCond .lt 20, 3) := by decide +kernel
theorem dL_yard_210 : decode cL_yard 210 = .ok (.aload_n 0, 1) := by decide +kernel
theorem dL_yard_211 : decode cL_yard 211 = .ok (.iload 6, 2) := by decide +kernel
theorem dL_yard_213 : decode cL_yard 213 = .ok (.iload 8, 2) := by decide +kernel
theorem dL_yard_215 : decode cL_yard 215 = .ok (.iconst 3, 1) := by decide +kernel
theorem dL_yard_216 : decode cL_yard 216 = .ok (.invokevirtual 37, 3) := by decide +kernel
theorem dL_yard_219 : decode cL_yard 219 = .ok (.iconst (-1), 1) := by decide +kernel
theorem dL_yard_220 : decode cL_yard 220 = .ok (.if_icmp .lt 7, 3) := by decide +kernel
theorem dL_yard_223 : decode cL_yard 223 = .ok (.iconst 1, 1) := by decide +kernel
theorem dL_yard_224 : decode cL_yard 224 = .ok (.goto 51, 3) := by decide +kernel
theorem dL_yard_227 : decode cL_yard 227 = .ok (.iconst 0, 1) := by decide +kernel
theorem dL_yard_228 : decode cL_yard 228 = .ok (.goto 47, 3) := by decide +kernel
theorem dL_yard_231 : decode cL_yard 231 = .ok (.aload_n 0, 1) := by decide +kernel
theorem dL_yard_232 : decode cL_yard 232 = .ok (.iload 6, 2) := by decide +kernel
theorem dL_yard_234 : decode cL_yard 234 = .ok (.iload 8, 2) := by decide +kernel
theorem dL_yard_236 : decode cL_yard 236 = .ok (.iconst 1, 1) := by decide +kernel
theorem dL_yard_237 : decode cL_yard 237 = .ok (.invokevirtual 37, 3) := by decide +kernel
theorem dL_yard_240 : decode cL_yard 240 = .ok (.iconst (-1), 1) := by decide +kernel
theorem dL_yard_241 : decode cL_yard 241 = .ok (.if_icmp .ne 33, 3) := by decide +kernel
theorem dL_yard_244 : decode cL_yard 244 = .ok (.aload_n 0, 1) := by decide +kernel
theorem dL_yard_245 : decode cL_yard 245 = .ok (.iload 6, 2) := by decide +kernel
theorem dL_yard_247 : decode cL_yard 247 = .ok (.iload 8, 2) := by decide +kernel
theorem dL_yard_249 : decode cL_yard 249 = .ok (.iconst 2, 1) := by decide +kernel
theorem dL_yard_250 : decode cL_yard 250 = .ok (.invokevirtual 37, 3) := by decide +kernel
theorem dL_yard_253 : decode cL_yard 253 = .ok (.iconst (-1), 1) := by decide +kernel
theorem dL_yard_254 : decode cL_yard 254 = .ok (.if_icmp .ne 20, 3) := by decide +kernel
theorem dL_yard_257 : decode cL_yard 257 = .ok (.aload_n 0, 1) := by decide +kernel
theorem dL_yard_258 : decode cL_yard 258 = .ok (.iload 6, 2) := by decide +kernel
theorem dL_yard_260 : decode cL_yard 260 = .ok (.iload 8, 2) := by decide +kernel
theorem dL_yard_262 : decode cL_yard 262 = .ok (.iconst 3, 1) := by decide +kernel
theorem dL_yard_263 : decode cL_yard 263 = .ok (.invokevirtual 37, 3) := by decide +kernel
theorem dL_yard_266 : decode cL_yard 266 = .ok (.iconst (-1), 1) := by decide +kernel
theorem dL_yard_267 : decode cL_yard 267 = .ok (.if_icmp .ne 7, 3) := by decide +kernel
theorem dL_yard_270 : decode cL_yard 270 = .ok (.iconst 1, 1) := by decide +kernel
theorem dL_yard_271 : decode cL_yard 271 = .ok (.goto 4, 3) := by decide +kernel
theorem dL_yard_274 : decode cL_yard 274 = .ok (.iconst 0, 1) := by decide +kernel
theorem dL_yard_275 : decode cL_yard 275 = .ok (.istore 5, 2) := by decide +kernel
theorem dL_yard_277 : decode cL_yard 277 = .ok (.iinc 8 1, 3) := by decide +kernel
theorem dL_yard_280 : decode cL_yard 280 = .ok (.goto (-129), 3) := by decide +kernel
theorem dL_yard_283 : decode cL_yard 283 = .ok (.iload_n 2, 1) := by decide +kernel
theorem dL_yard_284 : decode cL_yard 284 = .ok (.aload_n 0, 1) := by decide +kernel
theorem dL_yard_285 : decode cL_yard 285 = .ok (.iload 6, 2) := by decide +kernel
theorem dL_yard_287 : decode cL_yard 287 = .ok (.iconst 4, 1) := by decide +kernel
theorem dL_yard_288 : decode cL_yard 288 = .ok (.invokevirtual 41, 3) := by decide +kernel
theorem dL_yard_291 : decode cL_yard 291 = .ok (.iadd, 1) := by decide +kernel
theorem dL_yard_292 : decode cL_yard 292 = .ok (.istore_n 2, 1) := by decide +kernel
theorem dL_yard_293 : decode cL_yard 293 = .ok (.iload_n 3, 1) := by decide +kernel
theorem dL_yard_294 : decode cL_yard 294 = .ok (.aload_n 0, 1) := by decide +kernel
theorem dL_yard_295 : decode cL_yard 295 = .ok (.iload 6, 2) := by decide +kernel
theorem dL_yard_297 : decode cL_yard 297 = .ok (.iconst 0, 1) := by decide +kernel
theorem dL_yard_298 : decode cL_yard 298 = .ok (.invokevirtual 41, 3) := by decide +kernel
theorem dL_yard_301 : decode cL_yard 301 = .ok (.iadd, 1) := by decide +kernel
theorem dL_yard_302 : decode cL_yard 302 = .ok (.istore_n 3, 1) := by decide +kernel
theorem dL_yard_303 : decode cL_yard 303 = .ok (.iload 4, 2) := by decide +kernel
theorem dL_yard_305 : decode cL_yard 305 = .ok (.aload_n 0, 1) := by decide +kernel
theorem dL_yard_306 : decode cL_yard 306 = .ok (.iload 6, 2) := by decide +kernel
theorem dL_yard_308 : decode cL_yard 308 = .ok (.iconst 2, 1) := by decide +kernel
theorem dL_yard_309 : decode cL_yard 309 = .ok (.invokevirtual 41, 3) := by decide +kernel
theorem dL_yard_312 : decode cL_yard 312 = .ok (.iadd, 1) := by decide +kernel
theorem dL_yard_313 : decode cL_yard 313 = .ok (.istore 4, 2) := by decide +kernel
theorem dL_yard_315 : decode cL_yard 315 = .ok (.aload_n 0, 1) := by decide +kernel
theorem dL_yard_316 : decode cL_yard 316 = .ok (.iload 6, 2) := by decide +kernel
theorem dL_yard_318 : decode cL_yard 318 = .ok (.invokevirtual 44, 3) := by decide +kernel
theorem dL_yard_321 : decode cL_yard 321 = .ok (.istore 8, 2) := by decide +kernel
theorem dL_yard_323 : decode cL_yard 323 = .ok (.iload 5, 2) := by decide +kernel
theorem dL_yard_325 : decode cL_yard 325 = .ok (.ifCond .eq 140, 3) := by decide +kernel
theorem dL_yard_328 : decode cL_yard 328 = .ok (.aload_n 0, 1) := by decide +kernel
theorem dL_yard_329 : decode cL_yard 329 = .ok (.iload 6, 2) := by decide +kernel
theorem dL_yard_331 : decode cL_yard 331 = .ok (.iconst 3, 1) := by decide +kernel
theorem dL_yard_332 : decode cL_yard 332 = .ok (.invokevirtual 41, 3) := by decide +kernel
theorem dL_yard_335 : decode cL_yard 335 = .ok (.iload 7, 2) := by decide +kernel
theorem dL_yard_337 : decode cL_yard 337 = .ok (.if_icmp .ne 128, 3) := by decide +kernel
theorem dL_yard_340 : decode cL_yard 340 = .ok (.aload_n 0, 1) := by decide +kernel
theorem dL_yard_341 : decode cL_yard 341 = .ok (.iload 6, 2) := by decide +kernel
theorem dL_yard_343 : decode cL_yard 343 = .ok (.iconst 2, 1) := by decide +kernel
theorem dL_yard_344 : decode cL_yard 344 = .ok (.invokevirtual 41, 3) := by decide +kernel
theorem dL_yard_347 : decode cL_yard 347 = .ok (.iconst 1, 1) := by decide +kernel
theorem dL_yard_348 : decode cL_yard 348 = .ok (.if_icmp .ne 7, 3) := by decide +kernel
theorem dL_yard_351 : decode cL_yard 351 = .ok (.iconst 1, 1) := by decide +kernel
theorem dL_yard_352 : decode cL_yard 352 = .ok (.goto 4, 3) := by decide +kernel
theorem dL_yard_355 : decode cL_yard 355 = .ok (.iconst 0, 1) := by decide +kernel
theorem dL_yard_356 : decode cL_yard 356 = .ok (.aload_n 0, 1) := by decide +kernel
theorem dL_yard_357 : decode cL_yard 357 = .ok (.iconst 2, 1) := by decide +kernel
theorem dL_yard_358 : decode cL_yard 358 = .ok (.invokevirtual 47, 3) := by decide +kernel
theorem dL_yard_361 : decode cL_yard 361 = .ok (.ifCond .le 22, 3) := by decide +kernel
theorem dL_yard_364 : decode cL_yard 364 = .ok (.aload_n 0, 1) := by decide +kernel
theorem dL_yard_365 : decode cL_yard 365 = .ok (.iload 6, 2) := by decide +kernel
theorem dL_yard_367 : decode cL_yard 367 = .ok (.iconst 1, 1) := by decide +kernel
theorem dL_yard_368 : decode cL_yard 368 = .ok (.invokevirtual 41, 3) := by decide +kernel
theorem dL_yard_371 : decode cL_yard 371 = .ok (.aload_n 0, 1) := by decide +kernel
theorem dL_yard_372 : decode cL_yard 372 = .ok (.iconst 2, 1) := by decide +kernel
theorem dL_yard_373 : decode cL_yard 373 = .ok (.invokevirtual 47, 3) := by decide +kernel
theorem dL_yard_376 : decode cL_yard 376 = .ok (.if_icmp .lt 7, 3) := by decide +kernel
theorem dL_yard_379 : decode cL_yard 379 = .ok (.iconst 1, 1) := by decide +kernel
theorem dL_yard_380 : decode cL_yard 380 = .ok (.goto 4, 3) := by decide +kernel
theorem dL_yard_383 : decode cL_yard 383 = .ok (.iconst 0, 1) := by decide +kernel
theorem dL_yard_384 : decode cL_yard 384 = .ok (.if_icmp .ne 81, 3) := by decide +kernel
theorem dL_yard_387 : decode cL_yard 387 = .ok (.iload 8, 2) := by decide +kernel
theorem dL_yard_389 : decode cL_yard 389 = .ok (.iconst (-1), 1) := by decide +kernel
theorem dL_yard_390 : decode cL_yard 390 = .ok (.if_icmp .eq 34, 3) := by decide +kernel
theorem dL_yard_393 : decode cL_yard 393 = .ok (.iload 8, 2) := by decide +kernel
theorem dL_yard_395 : decode cL_yard 395 = .ok (.aload_n 0, 1) := by decide +kernel
theorem dL_yard_396 : decode cL_yard 396 = .ok (.bipush 6, 2) := by decide +kernel
theorem dL_yard_398 : decode cL_yard 398 = .ok (.invokevirtual 26, 3) := by decide +kernel
theorem dL_yard_401 : decode cL_yard 401 = .ok (.if_icmp .ge 64, 3) := by decide +kernel
theorem dL_yard_404 : decode cL_yard 404 = .ok (.aload_n 0, 1) := by decide +kernel
theorem dL_yard_405 : decode cL_yard 405 = .ok (.iload 6, 2) := by decide +kernel
theorem dL_yard_407 : decode cL_yard 407 = .ok (.aload_n 0, 1) := by decide +kernel
theorem dL_yard_408 : decode cL_yard 408 = .ok (.iload 8, 2) := by decide +kernel
theorem dL_yard_410 : decode cL_yard 410 = .ok (.invokevirtual 30, 3) := by decide +kernel
theorem dL_yard_413 : decode cL_yard 413 = .ok (.invokevirtual 50, 3) := by decide +kernel
theorem dL_yard_416 : decode cL_yard 416 = .ok (.ifCond .ne 49, 3) := by decide +kernel
theorem dL_yard_419 : decode cL_yard 419 = .ok (.iload 7, 2) := by decide +kernel
theorem dL_yard_421 : decode cL_yard 421 = .ok (.ifCond .le 44, 3) := by decide +kernel
theorem dL_yard_424 : decode cL_yard 424 = .ok (.aload_n 0, 1) := by decide +kernel
theorem dL_yard_425 : decode cL_yard 425 = .ok (.iload 6, 2) := by decide +kernel
theorem dL_yard_427 : decode cL_yard 427 = .ok (.sipush 31000, 3) := by decide +kernel
theorem dL_yard_430 : decode cL_yard 430 = .ok (.invokevirtual 50, 3) := by decide +kernel
theorem dL_yard_433 : decode cL_yard 433 = .ok (.iconst 3, 1) := by decide +kernel
theorem dL_yard_434 : decode cL_yard 434 = .ok (.if_icmp .ne 7, 3) := by decide +kernel
theorem dL_yard_437 : decode cL_yard 437 = .ok (.iconst 1, 1) := by decide +kernel
theorem dL_yard_438 : decode cL_yard 438 = .ok (.goto 4, 3) := by decide +kernel
theorem dL_yard_441 : decode cL_yard 441 = .ok (.iconst 0, 1) := by decide +kernel
theorem dL_yard_442 : decode cL_yard 442 = .ok (.aload_n 0, 1) := by decide +kernel
theorem dL_yard_443 : decode cL_yard 443 = .ok (.iload 6, 2) := by decide +kernel
theorem dL_yard_445 : decode cL_yard 445 = .ok (.iconst 2, 1) := by decide +kernel
theorem dL_yard_446 : decode cL_yard 446 = .ok (.invokevirtual 41, 3) := by decide +kernel
theorem dL_yard_449 : decode cL_yard 449 = .ok (.iconst 1, 1) := by decide +kernel
theorem dL_yard_450 : decode cL_yard 450 = .ok (.if_icmp .ne 7, 3) := by decide +kernel
theorem dL_yard_453 : decode cL_yard 453 = .ok (.iconst 1, 1) := by decide +kernel
theorem dL_yard_454 : decode cL_yard 454 = .ok (.goto 4, 3) := by decide +kernel
theorem dL_yard_457 : decode cL_yard 457 = .ok (.iconst 0, 1) := by decide +kernel
theorem dL_yard_458 : decode cL_yard 458 = .ok (.if_icmp .ne 7, 3) := by decide +kernel
theorem dL_yard_461 : decode cL_yard 461 = .ok (.iconst 1, 1) := by decide +kernel
theorem dL_yard_462 : decode cL_yard 462 = .ok (.goto 4, 3) := by decide +kernel
theorem dL_yard_465 : decode cL_yard 465 = .ok (.iconst 0, 1) := by decide +kernel
theorem dL_yard_466 : decode cL_yard 466 = .ok (.istore 5, 2) := by decide +kernel
theorem dL_yard_468 : decode cL_yard 468 = .ok (.iinc 6 1, 3) := by decide +kernel
theorem dL_yard_471 : decode cL_yard 471 = .ok (.goto (-337), 3) := by decide +kernel
theorem dL_yard_474 : decode cL_yard 474 = .ok (.iload 5, 2) := by decide +kernel
theorem dL_yard_476 : decode cL_yard 476 = .ok (.ifCond .eq 62, 3) := by decide +kernel
theorem dL_yard_479 : decode cL_yard 479 = .ok (.iload_n 1, 1) := by decide +kernel
theorem dL_yard_480 : decode cL_yard 480 = .ok (.aload_n 0, 1) := by decide +kernel
theorem dL_yard_481 : decode cL_yard 481 = .ok (.iconst 0, 1) := by decide +kernel
theorem dL_yard_482 : decode cL_yard 482 = .ok (.invokevirtual 26, 3) := by decide +kernel
theorem dL_yard_485 : decode cL_yard 485 = .ok (.if_icmp .ne 53, 3) := by decide +kernel
theorem dL_yard_488 : decode cL_yard 488 = .ok (.iload_n 2, 1) := by decide +kernel
theorem dL_yard_489 : decode cL_yard 489 = .ok (.aload_n 0, 1) := by decide +kernel
theorem dL_yard_490 : decode cL_yard 490 = .ok (.iconst 2, 1) := by decide +kernel
theorem dL_yard_491 : decode cL_yard 491 = .ok (.invokevirtual 26, 3) := by decide +kernel
theorem dL_yard_494 : decode cL_yard 494 = .ok (.if_icmp .ne 44, 3) := by decide +kernel
theorem dL_yard_497 : decode cL_yard 497 = .ok (.iload_n 3, 1) := by decide +kernel
theorem dL_yard_498 : decode cL_yard 498 = .ok (.aload_n 0, 1) := by decide +kernel
theorem dL_yard_499 : decode cL_yard 499 = .ok (.iconst 4, 1) := by decide +kernel
theorem dL_yard_500 : decode cL_yard 500 = .ok (.invokevirtual 26, 3) := by decide +kernel
theorem dL_yard_503 : decode cL_yard 503 = .ok (.if_icmp .ne 35, 3) := by decide +kernel
theorem dL_yard_506 : decode cL_yard 506 = .ok (.iload 4, 2) := by decide +kernel
theorem dL_yard_508 : decode cL_yard 508 = .ok (.aload_n 0, 1) := by decide +kernel
theorem dL_yard_509 : decode cL_yard 509 = .ok (.iconst 5, 1) := by decide +kernel
theorem dL_yard_510 : decode cL_yard 510 = .ok (.invokevirtual 26, 3) := by decide +kernel
theorem dL_yard_513 : decode cL_yard 513 = .ok (.if_icmp .ne 25, 3) := by decide +kernel
theorem dL_yard_516 : decode cL_yard 516 = .ok (.aload_n 0, 1) := by decide +kernel
theorem dL_yard_517 : decode cL_yard 517 = .ok (.invokevirtual 53, 3) := by decide +kernel
theorem dL_yard_520 : decode cL_yard 520 = .ok (.dconst 0, 1) := by decide +kernel
theorem dL_yard_521 : decode cL_yard 521 = .ok (.dcmp .l, 1) := by decide +kernel
theorem dL_yard_522 : decode cL_yard 522 = .ok (.ifCond .lt 16, 3) := by decide +kernel
theorem dL_yard_525 : decode cL_yard 525 = .ok (.aload_n 0, 1) := by decide +kernel
theorem dL_yard_526 : decode cL_yard 526 = .ok (.invokevirtual 53, 3) := by decide +kernel
theorem dL_yard_529 : decode cL_yard 529 = .ok (.dconst 1, 1) := by decide +kernel
theorem dL_yard_530 : decode cL_yard 530 = .ok (.dcmp .g, 1) := by decide +kernel
theorem dL_yard_531 : decode cL_yard 531 = .ok (.ifCond .gt 7, 3) := by decide +kernel
theorem dL_yard_534 : decode cL_yard 534 = .ok (.iconst 1, 1) := by decide +kernel
theorem dL_yard_535 : decode cL_yard 535 = .ok (.goto 4, 3) := by decide +kernel
theorem dL_yard_538 : decode cL_yard 538 = .ok (.iconst 0, 1) := by decide +kernel
theorem dL_yard_539 : decode cL_yard 539 = .ok (.ireturn, 1) := by decide +kernel
theorem dL_act_0 : decode cL_act 0 = .ok (.aload_n 1, 1) := by decide +kernel
theorem dL_act_1 : decode cL_act 1 = .ok (.iload_n 2, 1) := by decide +kernel
theorem dL_act_2 : decode cL_act 2 = .ok (.iconst 1, 1) := by decide +kernel
theorem dL_act_3 : decode cL_act 3 = .ok (.iadd, 1) := by decide +kernel
theorem dL_act_4 : decode cL_act 4 = .ok (.invokestatic 57, 3) := by decide +kernel
theorem dL_act_7 : decode cL_act 7 = .ok (.istore_n 3, 1) := by decide +kernel
theorem dL_act_8 : decode cL_act 8 = .ok (.aload_n 1, 1) := by decide +kernel
theorem dL_act_9 : decode cL_act 9 = .ok (.iload_n 2, 1) := by decide +kernel
theorem dL_act_10 : decode cL_act 10 = .ok (.iconst 2, 1) := by decide +kernel
theorem dL_act_11 : decode cL_act 11 = .ok (.iadd, 1) := by decide +kernel
theorem dL_act_12 : decode cL_act 12 = .ok (.invokestatic 57, 3) := by decide +kernel
theorem dL_act_15 : decode cL_act 15 = .ok (.istore 4, 2) := by decide +kernel
theorem dL_act_17 : decode cL_act 17 = .ok (.iload_n 3, 1) := by decide +kernel
theorem dL_act_18 : decode cL_act 18 = .ok (.iconst 4, 1) := by decide +kernel
theorem dL_act_19 : decode cL_act 19 = .ok (.invokestatic 63, 3) := by decide +kernel
theorem dL_act_22 : decode cL_act 22 = .ok (.istore 5, 2) := by decide +kernel
theorem dL_act_24 : decode cL_act 24 = .ok (.iload 4, 2) := by decide +kernel
theorem dL_act_26 : decode cL_act 26 = .ok (.iconst 3, 1) := by decide +kernel
theorem dL_act_27 : decode cL_act 27 = .ok (.invokestatic 63, 3) := by decide +kernel
theorem dL_act_30 : decode cL_act 30 = .ok (.istore 6, 2) := by decide +kernel
theorem dL_act_32 : decode cL_act 32 = .ok (.aload_n 1, 1) := by decide +kernel
theorem dL_act_33 : decode cL_act 33 = .ok (.iload_n 2, 1) := by decide +kernel
theorem dL_act_34 : decode cL_act 34 = .ok (.invokestatic 57, 3) := by decide +kernel
theorem dL_act_37 : decode cL_act 37 = .ok (.bipush 20, 2) := by decide +kernel
theorem dL_act_39 : decode cL_act 39 = .ok (.invokestatic 63, 3) := by decide +kernel
theorem dL_act_42 : decode cL_act 42 = .ok (.tableswitch 260 0 18 #[90, 90, 90, 90, 107, 122, 129, 136, 160, 174, 189, 228, 228, 228, 228, 228, 228, 242, 242], 90) := by decide +kernel
theorem dL_act_132 : decode cL_act 132 = .ok (.aload_n 0, 1) := by decide +kernel
theorem dL_act_133 : decode cL_act 133 = .ok (.iload 6, 2) := by decide +kernel
theorem dL_act_135 : decode cL_act 135 = .ok (.iload 4, 2) := by decide +kernel
theorem dL_act_137 : decode cL_act 137 = .ok (.iconst 2, 1) := by decide +kernel
theorem dL_act_138 : decode cL_act 138 = .ok (.ishr, 1) := by decide +kernel
theorem dL_act_139 : decode cL_act 139 = .ok (.iconst 4, 1) := by decide +kernel
theorem dL_act_140 : decode cL_act 140 = .ok (.invokestatic 63, 3) := by decide +kernel
theorem dL_act_143 : decode cL_act 143 = .ok (.iload 5, 2) := by decide +kernel
theorem dL_act_145 : decode cL_act 145 = .ok (.invokevirtual 66, 3) := by decide +kernel
theorem dL_act_148 : decode cL_act 148 = .ok (.ireturn, 1) := by decide +kernel
theorem dL_act_149 : decode cL_act 149 = .ok (.aload_n 0, 1) := by decide +kernel
theorem dL_act_150 : decode cL_act 150 = .ok (.iload 6, 2) := by decide +kernel
theorem dL_act_152 : decode cL_act 152 = .ok (.iload 4, 2) := by decide +kernel
theorem dL_act_154 : decode cL_act 154 = .ok (.iconst 2, 1) := by decide +kernel
theorem dL_act_155 : decode cL_act 155 = .ok (.ishr, 1) := by decide +kernel
theorem dL_act_156 : decode cL_act 156 = .ok (.iconst 4, 1) := by decide +kernel
theorem dL_act_157 : decode cL_act 157 = .ok (.invokestatic 63, 3) := by decide +kernel
theorem dL_act_160 : decode cL_act 160 = .ok (.invokevirtual 69, 3) := by decide +kernel
theorem dL_act_163 : decode cL_act 163 = .ok (.ireturn, 1) := by decide +kernel
theorem dL_act_164 : decode cL_act 164 = .ok (.aload_n 0, 1) := by decide +kernel
theorem dL_act_165 : decode cL_act 165 = .ok (.iload 6, 2) := by decide +kernel
theorem dL_act_167 : decode cL_act 167 = .ok (.invokevirtual 72, 3) := by decide +kernel
theorem dL_act_170 : decode cL_act 170 = .ok (.ireturn, 1) := by decide +kernel
theorem dL_act_171 : decode cL_act 171 = .ok (.aload_n 0, 1) := by decide +kernel
theorem dL_act_172 : decode cL_act 172 = .ok (.iload 6, 2) := by decide +kernel
theorem dL_act_174 : decode cL_act 174 = .ok (.invokevirtual 75, 3) := by decide +kernel
theorem dL_act_177 : decode cL_act 177 = .ok (.ireturn, 1) := by decide +kernel
theorem dL_act_178 : decode cL_act 178 = .ok (.aload_n 0, 1) := by decide +kernel
theorem dL_act_179 : decode cL_act 179 = .ok (.iload 5, 2) := by decide +kernel
theorem dL_act_181 : decode cL_act 181 = .ok (.iload 4, 2) := by decide +kernel
theorem dL_act_183 : decode cL_act 183 = .ok (.sipush 10000, 3) := by decide +kernel
theorem dL_act_186 : decode cL_act 186 = .ok (.invokestatic 63, 3) := by decide +kernel
theorem dL_act_189 : decode cL_act 189 = .ok (.iload_n 3, 1) := by decide +kernel
theorem dL_act_190 : decode cL_act 190 = .ok (.iconst 2, 1) := by decide +kernel
theorem dL_act_191 : decode cL_act 191 = .ok (.ishr, 1) := by decide +kernel
theorem dL_act_192 : decode cL_act 192 = .ok (.sipush 10000, 3) := by decide +kernel
theorem dL_act_195 : decode cL_act 195 = .ok (.invokestatic 63, 3) := by decide +kernel
theorem dL_act_198 : decode cL_act 198 = .ok (.invokevirtual 78, 3) := by decide +kernel
theorem dL_act_201 : decode cL_act 201 = .ok (.ireturn, 1) := by decide +kernel
theorem dL_act_202 : decode cL_act 202 = .ok (.aload_n 0, 1) := by decide +kernel
theorem dL_act_203 : decode cL_act 203 = .ok (.iload 5, 2) := by decide +kernel
theorem dL_act_205 : decode cL_act 205 = .ok (.iload 4, 2) := by decide +kernel
theorem dL_act_207 : decode cL_act 207 = .ok (.bipush 30, 2) := by decide +kernel
theorem dL_act_209 : decode cL_act 209 = .ok (.invokestatic 63, 3) := by decide +kernel
theorem dL_act_212 : decode cL_act 212 = .ok (.invokevirtual 81, 3) := by decide +kernel
theorem dL_act_215 : decode cL_act 215 = .ok (.ireturn, 1) := by decide +kernel
theorem dL_act_216 : decode cL_act 216 = .ok (.aload_n 0, 1) := by decide +kernel
theorem dL_act_217 : decode cL_act 217 = .ok (.iconst 0, 1) := by decide +kernel
theorem dL_act_218 : decode cL_act 218 = .ok (.iconst 1, 1) := by decide +kernel
theorem dL_act_219 : decode cL_act 219 = .ok (.iload 4, 2) := by decide +kernel
theorem dL_act_221 : decode cL_act 221 = .ok (.bipush 64, 2) := by decide +kernel
theorem dL_act_223 : decode cL_act 223 = .ok (.invokestatic 63, 3) := by decide +kernel
theorem dL_act_226 : decode cL_act 226 = .ok (.iadd, 1) := by decide +kernel
theorem dL_act_227 : decode cL_act 227 = .ok (.invokevirtual 84, 3) := by decide +kernel
theorem dL_act_230 : decode cL_act 230 = .ok (.ireturn, 1) := by decide +kernel
theorem dL_act_231 : decode cL_act 231 = .ok (.iload_n 3, 1) := by decide +kernel
theorem dL_act_232 : decode cL_act 232 = .ok (.iconst 2, 1) := by decide +kernel
theorem dL_act_233 : decode cL_act 233 = .ok (.invokestatic 63, 3) := by decide +kernel
theorem dL_act_236 : decode cL_act 236 = .ok (.ifCond .ne 21, 3) := by decide +kernel
theorem dL_act_239 : decode cL_act 239 = .ok (.aload_n 0, 1) := by decide +kernel
theorem dL_act_240 : decode cL_act 240 = .ok (.iconst 1, 1) := by decide +kernel
theorem dL_act_241 : decode cL_act 241 = .ok (.iconst 1, 1) := by decide +kernel
theorem dL_act_242 : decode cL_act 242 = .ok (.iload 4, 2) := by decide +kernel
theorem dL_act_244 : decode cL_act 244 = .ok (.sipush 500, 3) := by decide +kernel
theorem dL_act_247 : decode cL_act 247 = .ok (.invokestatic 63, 3) := by decide +kernel
theorem dL_act_250 : decode cL_act 250 = .ok (.iadd, 1) := by decide +kernel
theorem dL_act_251 : decode cL_act 251 = .ok (.invokevirtual 84, 3) := by decide +kernel
theorem dL_act_254 : decode cL_act 254 = .ok (.goto 15, 3) := by decide +kernel
theorem dL_act_257 : decode cL_act 257 = .ok (.aload_n 0, 1) := by decide +kernel
theorem dL_act_258 : decode cL_act 258 = .ok (.iconst 2, 1) := by decide +kernel
theorem dL_act_259 : decode cL_act 259 = .ok (.iload 4, 2) := by decide +kernel
theorem dL_act_261 : decode cL_act 261 = .ok (.bipush 21, 2) := by decide +kernel
theorem dL_act_263 : decode cL_act 263 = .ok (.invokestatic 63, 3) := by decide +kernel
theorem dL_act_266 : decode cL_act 266 = .ok (.invokevirtual 84, 3) := by decide +kernel
theorem dL_act_269 : decode cL_act 269 = .ok (.ireturn, 1) := by decide +kernel
theorem dL_act_270 : decode cL_act 270 = .ok (.aload_n 0, 1) := by decide +kernel
theorem dL_act_271 : decode cL_act 271 = .ok (.iload 5, 2) := by decide +kernel
theorem dL_act_273 : decode cL_act 273 = .ok (.iload 4, 2) := by decide +kernel
theorem dL_act_275 : decode cL_act 275 = .ok (.bipush 8, 2) := by decide +kernel
theorem dL_act_277 : decode cL_act 277 = .ok (.invokestatic 63, 3) := by decide +kernel
theorem dL_act_280 : decode cL_act 280 = .ok (.invokestatic 87, 3) := by decide +kernel
theorem dL_act_283 : decode cL_act 283 = .ok (.ireturn, 1) := by decide +kernel
theorem dL_act_284 : decode cL_act 284 = .ok (.aload_n 0, 1) := by decide +kernel
theorem dL_act_285 : decode cL_act 285 = .ok (.iload_n 3, 1) := by decide +kernel
theorem dL_act_286 : decode cL_act 286 = .ok (.bipush 8, 2) := by decide +kernel
theorem dL_act_288 : decode cL_act 288 = .ok (.invokestatic 63, 3) := by decide +kernel
theorem dL_act_291 : decode cL_act 291 = .ok (.iload 4, 2) := by decide +kernel
theorem dL_act_293 : decode cL_act 293 = .ok (.bipush 8, 2) := by decide +kernel
theorem dL_act_295 : decode cL_act 295 = .ok (.invokestatic 63, 3) := by decide +kernel
theorem dL_act_298 : decode cL_act 298 = .ok (.invokestatic 90, 3) := by decide +kernel
theorem dL_act_301 : decode cL_act 301 = .ok (.ireturn, 1) := by decide +kernel
theorem dL_act_302 : decode cL_act 302 = .ok (.aload_n 0, 1) := by decide +kernel
theorem dL_act_303 : decode cL_act 303 = .ok (.invokestatic 92, 3) := by decide +kernel
theorem dL_act_306 : decode cL_act 306 = .ok (.ireturn, 1) := by decide +kernel
theorem clL_15 : Cond.classLink RL 15 "java/lang/IllegalStateException" ∈ TB := by decide +kernel
theorem clL_20 : Cond.classLink RL 20 "java/lang/IndexOutOfBoundsException" ∈ TB := by decide +kernel
theorem cbL_15 : Cond.castable "java/lang/IllegalStateException" "java/lang/IllegalStateException" ∈ badL := by decide +kernel
theorem cbL_20 : Cond.castable "java/lang/IndexOutOfBoundsException" "java/lang/IndexOutOfBoundsException" ∈ badL := by decide +kernel
abbrev rmw_press : Room := { frames := 9, cells := 1, slots := 6, locals := 154 }
abbrev hh_press : List (Nat × Nat × Nat × Nat) := [(0, 6, 7, 15)]
theorem mw_L_87 : MSW RL 87 yL_press cL_press 4 hh_press 3 := ⟨tbm (i := 556) (by decide +kernel) (by decide +kernel), tbm (i := 7) (by decide +kernel) (by decide +kernel), tbm (i := 558) (by decide +kernel) (by decide +kernel), ⟨by decide, by decide, by decide +kernel⟩, tbm (i := 557) (by decide +kernel) (by decide +kernel)⟩
set_option maxHeartbeats 4000000 in
set_option maxRecDepth 100000 in
theorem w_press {l : Launch} {D : va_G} {cy : Nat → ClassId} {ad : Ads} (hI : IJ ad) (x : Mem) (p0 p1 : Int32) {post : Int32 → Mem → Prop} (hC : Cti l yX8_press cX8_press 3 (some .int) rm_X8_press D cy ad [.ref (ad 8 9 0), .int p0, .int p1] x post) : Ctw l yL_press cL_press 4 hh_press rmw_press D cy ad [.ref (ad 8 9 0), .int p0, .int p1] x (post) := by
  refine rm_entryW hI (by decide) (Nat.le_of_ble_eq_true rfl) ?_
  intro p e s m args below meth c hc hX
  show RM _ _ _ _ _ _ _ _ _ _ _ _ _ _ _ _ _ [(0, .ref (ad 8 9 0)), (1, .int p0), (2, .int p1)] []
  refine rm_aload_n hc dL_press_0 rfl rfl ?_
  refine rm_iload_n hc dL_press_1 rfl rfl ?_
  refine rm_iload_n hc dL_press_2 rfl rfl ?_
  refine rm_calliV (As := [.int p0, .int p1]) (rest := []) hc dL_press_3 hC mv_L_9 dm_9 rfl rfl (hn := rfl) (hst := rfl) (hw := Nat.le_of_ble_eq_true rfl) (hR := ⟨⟨rfl, rfl⟩, Nat.le_of_ble_eq_true rfl, Nat.le_of_ble_eq_true rfl⟩) (hnc := ⟨Nat.zero_le _, Nat.zero_le _⟩) (fun r_1 y_1 h_1 => ?_)
  exact rm_iretW hc dL_press_6 (by decide) (by decide) h_1
set_option maxHeartbeats 4000000 in
set_option maxRecDepth 100000 in
theorem w_press_1 {l : Launch} {D : va_G} {cy : Nat → ClassId} {ad : Ads} (hI : IJ ad) (x : Mem) (p0 p1 : Int32) (hC : Ctx l yX8_press cX8_press 3 (some .int) rmx_X8_press D cy ad [.ref (ad 8 9 0), .int p0, .int p1] x "java/lang/IllegalStateException") : Ctw l yL_press cL_press 4 hh_press rmw_press D cy ad [.ref (ad 8 9 0), .int p0, .int p1] x (fun r y => r = -3 ∧ y = x) := by
  refine rm_entryW hI (by decide) (Nat.le_of_ble_eq_true rfl) ?_
  intro p e s m args below meth c hc hX
  show RM _ _ _ _ _ _ _ _ _ _ _ _ _ _ _ _ _ [(0, .ref (ad 8 9 0)), (1, .int p0), (2, .int p1)] []
  refine rm_aload_n hc dL_press_0 rfl rfl ?_
  refine rm_iload_n hc dL_press_1 rfl rfl ?_
  refine rm_iload_n hc dL_press_2 rfl rfl ?_
  refine rm_catV (As := [.int p0, .int p1]) (rest := []) hc hX [] ⟨0, 6, 7, 15⟩ [] dL_press_3 hC mv_L_9 dm_9 rfl rfl (hn := rfl) (hst := rfl) (hw := Nat.le_of_ble_eq_true rfl) (hR := ⟨⟨rfl, rfl⟩, Nat.le_of_ble_eq_true rfl, Nat.le_of_ble_eq_true rfl⟩) (hnc := ⟨Nat.le_of_ble_eq_true rfl, Nat.le_of_ble_eq_true rfl⟩) rfl (fun z hz => nomatch hz) (by decide) (by decide) clL_15 cbL_15 (fun q9 => ?_)
  refine rm_astore_n (ls' := [(0, .ref (ad 8 9 0)), (1, .int p0), (2, .int p1), (3, .ref q9)]) hc dL_press_7 rfl (by decide) rfl ?_
  refine rm_bipush (v := -3) hc dL_press_8 (by decide) ?_
  exact rm_iretW hc dL_press_10 (by decide) (by decide) ⟨rfl, rfl⟩
abbrev rmw_again : Room := { frames := 9, cells := 1, slots := 6, locals := 154 }
abbrev hh_again : List (Nat × Nat × Nat × Nat) := [(0, 6, 7, 20)]
theorem mw_L_90 : MSW RL 90 yL_again cL_again 4 hh_again 3 := ⟨tbm (i := 605) (by decide +kernel) (by decide +kernel), tbm (i := 7) (by decide +kernel) (by decide +kernel), tbm (i := 607) (by decide +kernel) (by decide +kernel), ⟨by decide, by decide, by decide +kernel⟩, tbm (i := 606) (by decide +kernel) (by decide +kernel)⟩
set_option maxHeartbeats 4000000 in
set_option maxRecDepth 100000 in
theorem w_again {l : Launch} {D : va_G} {cy : Nat → ClassId} {ad : Ads} (hI : IJ ad) (x : Mem) (p0 p1 : Int32) {post : Int32 → Mem → Prop} (hC : Cti l yX8_again cX8_again 3 (some .int) rm_X8_again D cy ad [.ref (ad 8 9 0), .int p0, .int p1] x post) : Ctw l yL_again cL_again 4 hh_again rmw_again D cy ad [.ref (ad 8 9 0), .int p0, .int p1] x (post) := by
  refine rm_entryW hI (by decide) (Nat.le_of_ble_eq_true rfl) ?_
  intro p e s m args below meth c hc hX
  show RM _ _ _ _ _ _ _ _ _ _ _ _ _ _ _ _ _ [(0, .ref (ad 8 9 0)), (1, .int p0), (2, .int p1)] []
  refine rm_aload_n hc dL_again_0 rfl rfl ?_
  refine rm_iload_n hc dL_again_1 rfl rfl ?_
  refine rm_iload_n hc dL_again_2 rfl rfl ?_
  refine rm_calliV (As := [.int p0, .int p1]) (rest := []) hc dL_again_3 hC mv_L_17 dm_9 rfl rfl (hn := rfl) (hst := rfl) (hw := Nat.le_of_ble_eq_true rfl) (hR := ⟨⟨rfl, rfl⟩, Nat.le_of_ble_eq_true rfl, Nat.le_of_ble_eq_true rfl⟩) (hnc := ⟨Nat.zero_le _, Nat.zero_le _⟩) (fun r_1 y_1 h_1 => ?_)
  exact rm_iretW hc dL_again_6 (by decide) (by decide) h_1
set_option maxHeartbeats 4000000 in
set_option maxRecDepth 100000 in
theorem w_again_1 {l : Launch} {D : va_G} {cy : Nat → ClassId} {ad : Ads} (hI : IJ ad) (x : Mem) (p0 p1 : Int32) (hC : Ctx l yX8_again cX8_again 3 (some .int) rmx_X8_again D cy ad [.ref (ad 8 9 0), .int p0, .int p1] x "java/lang/IndexOutOfBoundsException") : Ctw l yL_again cL_again 4 hh_again rmw_again D cy ad [.ref (ad 8 9 0), .int p0, .int p1] x (fun r y => r = -1 ∧ y = x) := by
  refine rm_entryW hI (by decide) (Nat.le_of_ble_eq_true rfl) ?_
  intro p e s m args below meth c hc hX
  show RM _ _ _ _ _ _ _ _ _ _ _ _ _ _ _ _ _ [(0, .ref (ad 8 9 0)), (1, .int p0), (2, .int p1)] []
  refine rm_aload_n hc dL_again_0 rfl rfl ?_
  refine rm_iload_n hc dL_again_1 rfl rfl ?_
  refine rm_iload_n hc dL_again_2 rfl rfl ?_
  refine rm_catV (As := [.int p0, .int p1]) (rest := []) hc hX [] ⟨0, 6, 7, 20⟩ [] dL_again_3 hC mv_L_17 dm_9 rfl rfl (hn := rfl) (hst := rfl) (hw := Nat.le_of_ble_eq_true rfl) (hR := ⟨⟨rfl, rfl⟩, Nat.le_of_ble_eq_true rfl, Nat.le_of_ble_eq_true rfl⟩) (hnc := ⟨Nat.le_of_ble_eq_true rfl, Nat.le_of_ble_eq_true rfl⟩) rfl (fun z hz => nomatch hz) (by decide) (by decide) clL_20 cbL_20 (fun q9 => ?_)
  refine rm_astore_n (ls' := [(0, .ref (ad 8 9 0)), (1, .int p0), (2, .int p1), (3, .ref q9)]) hc dL_again_7 rfl (by decide) rfl ?_
  refine rm_iconst (v := -1) hc dL_again_8 (by decide) ?_
  exact rm_iretW hc dL_again_9 (by decide) (by decide) ⟨rfl, rfl⟩
abbrev rmw_undo : Room := { frames := 8, cells := 1, slots := 6, locals := 130 }
abbrev hh_undo : List (Nat × Nat × Nat × Nat) := [(0, 4, 5, 15)]
theorem mw_L_92 : MSW RL 92 yL_undo cL_undo 2 hh_undo 1 := ⟨tbm (i := 628) (by decide +kernel) (by decide +kernel), tbm (i := 7) (by decide +kernel) (by decide +kernel), tbm (i := 630) (by decide +kernel) (by decide +kernel), ⟨by decide, by decide, by decide +kernel⟩, tbm (i := 629) (by decide +kernel) (by decide +kernel)⟩
set_option maxHeartbeats 4000000 in
set_option maxRecDepth 100000 in
theorem w_undo {l : Launch} {D : va_G} {cy : Nat → ClassId} {ad : Ads} (hI : IJ ad) (x : Mem)  {post : Int32 → Mem → Prop} (hC : Cti l yX8_undo cX8_undo 1 (some .int) rm_X8_undo D cy ad [.ref (ad 8 9 0)] x post) : Ctw l yL_undo cL_undo 2 hh_undo rmw_undo D cy ad [.ref (ad 8 9 0)] x (post) := by
  refine rm_entryW hI (by decide) (Nat.le_of_ble_eq_true rfl) ?_
  intro p e s m args below meth c hc hX
  show RM _ _ _ _ _ _ _ _ _ _ _ _ _ _ _ _ _ [(0, .ref (ad 8 9 0))] []
  refine rm_aload_n hc dL_undo_0 rfl rfl ?_
  refine rm_calliV (As := []) (rest := []) hc dL_undo_1 hC mv_L_22 dm_9 rfl rfl (hn := rfl) (hst := rfl) (hw := Nat.le_of_ble_eq_true rfl) (hR := ⟨⟨rfl, rfl⟩, Nat.le_of_ble_eq_true rfl, Nat.le_of_ble_eq_true rfl⟩) (hnc := ⟨Nat.zero_le _, Nat.zero_le _⟩) (fun r_1 y_1 h_1 => ?_)
  exact rm_iretW hc dL_undo_4 (by decide) (by decide) h_1
set_option maxHeartbeats 4000000 in
set_option maxRecDepth 100000 in
theorem w_undo_1 {l : Launch} {D : va_G} {cy : Nat → ClassId} {ad : Ads} (hI : IJ ad) (x : Mem)  (hC : Ctx l yX8_undo cX8_undo 1 (some .int) rmx_X8_undo D cy ad [.ref (ad 8 9 0)] x "java/lang/IllegalStateException") : Ctw l yL_undo cL_undo 2 hh_undo rmw_undo D cy ad [.ref (ad 8 9 0)] x (fun r y => r = -3 ∧ y = x) := by
  refine rm_entryW hI (by decide) (Nat.le_of_ble_eq_true rfl) ?_
  intro p e s m args below meth c hc hX
  show RM _ _ _ _ _ _ _ _ _ _ _ _ _ _ _ _ _ [(0, .ref (ad 8 9 0))] []
  refine rm_aload_n hc dL_undo_0 rfl rfl ?_
  refine rm_catV (As := []) (rest := []) hc hX [] ⟨0, 4, 5, 15⟩ [] dL_undo_1 hC mv_L_22 dm_9 rfl rfl (hn := rfl) (hst := rfl) (hw := Nat.le_of_ble_eq_true rfl) (hR := ⟨⟨rfl, rfl⟩, Nat.le_of_ble_eq_true rfl, Nat.le_of_ble_eq_true rfl⟩) (hnc := ⟨Nat.le_of_ble_eq_true rfl, Nat.le_of_ble_eq_true rfl⟩) rfl (fun z hz => nomatch hz) (by decide) (by decide) clL_15 cbL_15 (fun q9 => ?_)
  refine rm_astore_n (ls' := [(0, .ref (ad 8 9 0)), (1, .ref q9)]) hc dL_undo_5 rfl (by decide) rfl ?_
  refine rm_bipush (v := -3) hc dL_undo_6 (by decide) ?_
  exact rm_iretW hc dL_undo_8 (by decide) (by decide) ⟨rfl, rfl⟩
