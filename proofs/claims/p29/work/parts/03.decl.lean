theorem dL_cell_0 : decode cL_cell 0 = .ok (.aload_n 0, 1) := by decide +kernel
theorem dL_cell_1 : decode cL_cell 1 = .ok (.arraylength, 1) := by decide +kernel
theorem dL_cell_2 : decode cL_cell 2 = .ok (.ifCond .ne 12, 3) := by decide +kernel
theorem dL_cell_5 : decode cL_cell 5 = .ok (.iload_n 1, 1) := by decide +kernel
theorem dL_cell_6 : decode cL_cell 6 = .ok (.bipush 37, 2) := by decide +kernel
theorem dL_cell_8 : decode cL_cell 8 = .ok (.imul, 1) := by decide +kernel
theorem dL_cell_9 : decode cL_cell 9 = .ok (.iconst 5, 1) := by decide +kernel
theorem dL_cell_10 : decode cL_cell 10 = .ok (.iadd, 1) := by decide +kernel
theorem dL_cell_11 : decode cL_cell 11 = .ok (.goto 17, 3) := by decide +kernel
theorem dL_cell_14 : decode cL_cell 14 = .ok (.aload_n 0, 1) := by decide +kernel
theorem dL_cell_15 : decode cL_cell 15 = .ok (.iload_n 1, 1) := by decide +kernel
theorem dL_cell_16 : decode cL_cell 16 = .ok (.aload_n 0, 1) := by decide +kernel
theorem dL_cell_17 : decode cL_cell 17 = .ok (.arraylength, 1) := by decide +kernel
theorem dL_cell_18 : decode cL_cell 18 = .ok (.irem, 1) := by decide +kernel
theorem dL_cell_19 : decode cL_cell 19 = .ok (.iaload, 1) := by decide +kernel
theorem dL_cell_20 : decode cL_cell 20 = .ok (.iload_n 1, 1) := by decide +kernel
theorem dL_cell_21 : decode cL_cell 21 = .ok (.bipush 7, 2) := by decide +kernel
theorem dL_cell_23 : decode cL_cell 23 = .ok (.irem, 1) := by decide +kernel
theorem dL_cell_24 : decode cL_cell 24 = .ok (.ishr, 1) := by decide +kernel
theorem dL_cell_25 : decode cL_cell 25 = .ok (.ldc 7, 2) := by decide +kernel
theorem dL_cell_27 : decode cL_cell 27 = .ok (.iand, 1) := by decide +kernel
theorem dL_cell_28 : decode cL_cell 28 = .ok (.iload_n 2, 1) := by decide +kernel
theorem dL_cell_29 : decode cL_cell 29 = .ok (.irem, 1) := by decide +kernel
theorem dL_cell_30 : decode cL_cell 30 = .ok (.ireturn, 1) := by decide +kernel
theorem dL_has_0 : decode cL_has 0 = .ok (.iload_n 0, 1) := by decide +kernel
theorem dL_has_1 : decode cL_has 1 = .ok (.iload_n 1, 1) := by decide +kernel
theorem dL_has_2 : decode cL_has 2 = .ok (.ishr, 1) := by decide +kernel
theorem dL_has_3 : decode cL_has 3 = .ok (.iconst 1, 1) := by decide +kernel
theorem dL_has_4 : decode cL_has 4 = .ok (.iand, 1) := by decide +kernel
theorem dL_has_5 : decode cL_has 5 = .ok (.iconst 1, 1) := by decide +kernel
theorem dL_has_6 : decode cL_has 6 = .ok (.if_icmp .ne 7, 3) := by decide +kernel
theorem dL_has_9 : decode cL_has 9 = .ok (.iconst 1, 1) := by decide +kernel
theorem dL_has_10 : decode cL_has 10 = .ok (.goto 4, 3) := by decide +kernel
theorem dL_has_13 : decode cL_has 13 = .ok (.iconst 0, 1) := by decide +kernel
theorem dL_has_14 : decode cL_has 14 = .ok (.ireturn, 1) := by decide +kernel
theorem dL_agree_0 : decode cL_agree 0 = .ok (.iconst 0, 1) := by decide +kernel
theorem dL_agree_1 : decode cL_agree 1 = .ok (.istore_n 1, 1) := by decide +kernel
theorem dL_agree_2 : decode cL_agree 2 = .ok (.iconst 0, 1) := by decide +kernel
theorem dL_agree_3 : decode cL_agree 3 = .ok (.istore_n 2, 1) := by decide +kernel
theorem dL_agree_4 : decode cL_agree 4 = .ok (.iconst 0, 1) := by decide +kernel
theorem dL_agree_5 : decode cL_agree 5 = .ok (.istore_n 3, 1) := by decide +kernel
theorem dL_agree_6 : decode cL_agree 6 = .ok (.iconst 0, 1) := by decide +kernel
theorem dL_agree_7 : decode cL_agree 7 = .ok (.istore 4, 2) := by decide +kernel
theorem dL_agree_9 : decode cL_agree 9 = .ok (.iload 4, 2) := by decide +kernel
theorem dL_agree_11 : decode cL_agree 11 = .ok (.aload_n 0, 1) := by decide +kernel
theorem dL_agree_12 : decode cL_agree 12 = .ok (.iconst 1, 1) := by decide +kernel
theorem dL_agree_13 : decode cL_agree 13 = .ok (.invokevirtual 8, 3) := by decide +kernel
theorem dL_agree_16 : decode cL_agree 16 = .ok (.if_icmp .ge 401, 3) := by decide +kernel
theorem dL_agree_19 : decode cL_agree 19 = .ok (.iconst 0, 1) := by decide +kernel
theorem dL_agree_20 : decode cL_agree 20 = .ok (.istore 5, 2) := by decide +kernel
theorem dL_agree_22 : decode cL_agree 22 = .ok (.iconst 5, 1) := by decide +kernel
theorem dL_agree_23 : decode cL_agree 23 = .ok (.istore 6, 2) := by decide +kernel
theorem dL_agree_25 : decode cL_agree 25 = .ok (.iload 6, 2) := by decide +kernel
theorem dL_agree_27 : decode cL_agree 27 = .ok (.bipush 9, 2) := by decide +kernel
theorem dL_agree_29 : decode cL_agree 29 = .ok (.if_icmp .ge 83, 3) := by decide +kernel
theorem dL_agree_32 : decode cL_agree 32 = .ok (.aload_n 0, 1) := by decide +kernel
theorem dL_agree_33 : decode cL_agree 33 = .ok (.iload 4, 2) := by decide +kernel
theorem dL_agree_35 : decode cL_agree 35 = .ok (.iload 6, 2) := by decide +kernel
theorem dL_agree_37 : decode cL_agree 37 = .ok (.invokevirtual 14, 3) := by decide +kernel
theorem dL_agree_40 : decode cL_agree 40 = .ok (.istore 7, 2) := by decide +kernel
theorem dL_agree_42 : decode cL_agree 42 = .ok (.iload 5, 2) := by decide +kernel
theorem dL_agree_44 : decode cL_agree 44 = .ok (.iload 7, 2) := by decide +kernel
theorem dL_agree_46 : decode cL_agree 46 = .ok (.iand, 1) := by decide +kernel
theorem dL_agree_47 : decode cL_agree 47 = .ok (.ifCond .eq 5, 3) := by decide +kernel
theorem dL_agree_50 : decode cL_agree 50 = .ok (.iconst 0, 1) := by decide +kernel
theorem dL_agree_51 : decode cL_agree 51 = .ok (.ireturn, 1) := by decide +kernel
theorem dL_agree_52 : decode cL_agree 52 = .ok (.iload 5, 2) := by decide +kernel
theorem dL_agree_54 : decode cL_agree 54 = .ok (.iload 7, 2) := by decide +kernel
theorem dL_agree_56 : decode cL_agree 56 = .ok (.ior, 1) := by decide +kernel
theorem dL_agree_57 : decode cL_agree 57 = .ok (.istore 5, 2) := by decide +kernel
theorem dL_agree_59 : decode cL_agree 59 = .ok (.iconst 0, 1) := by decide +kernel
theorem dL_agree_60 : decode cL_agree 60 = .ok (.istore 8, 2) := by decide +kernel
theorem dL_agree_62 : decode cL_agree 62 = .ok (.iload 8, 2) := by decide +kernel
theorem dL_agree_64 : decode cL_agree 64 = .ok (.iconst 4, 1) := by decide +kernel
theorem dL_agree_65 : decode cL_agree 65 = .ok (.if_icmp .ge 41, 3) := by decide +kernel
theorem dL_agree_68 : decode cL_agree 68 = .ok (.iload 7, 2) := by decide +kernel
theorem dL_agree_70 : decode cL_agree 70 = .ok (.iload 8, 2) := by decide +kernel
theorem dL_agree_72 : decode cL_agree 72 = .ok (.invokestatic 18, 3) := by decide +kernel
theorem dL_agree_75 : decode cL_agree 75 = .ok (.aload_n 0, 1) := by decide +kernel
theorem dL_agree_76 : decode cL_agree 76 = .ok (.iload 4, 2) := by decide +kernel
theorem dL_agree_78 : decode cL_agree 78 = .ok (.iload 8, 2) := by decide +kernel
theorem dL_agree_80 : decode cL_agree 80 = .ok (.invokevirtual 24, 3) := by decide +kernel
theorem dL_agree_83 : decode cL_agree 83 = .ok (.iload 6, 2) := by decide +kernel
theorem dL_agree_85 : decode cL_agree 85 = .ok (.iconst 5, 1) := by decide +kernel
theorem dL_agree_86 : decode cL_agree 86 = .ok (.isub, 1) := by decide +kernel
theorem dL_agree_87 : decode cL_agree 87 = .ok (.if_icmp .ne 7, 3) := by decide +kernel
theorem dL_agree_90 : decode cL_agree 90 = .ok (.iconst 1, 1) := by decide +kernel
theorem dL_agree_91 : decode cL_agree 91 = .ok (.goto 4, 3) := by decide +kernel
theorem dL_agree_94 : decode cL_agree 94 = .ok (.iconst 0, 1) := by decide +kernel
theorem dL_agree_95 : decode cL_agree 95 = .ok (.if_icmp .eq 5, 3) := by decide +kernel
theorem dL_agree_98 : decode cL_agree 98 = .ok (.iconst 0, 1) := by decide +kernel
theorem dL_agree_99 : decode cL_agree 99 = .ok (.ireturn, 1) := by decide +kernel
theorem dL_agree_100 : decode cL_agree 100 = .ok (.iinc 8 1, 3) := by decide +kernel
theorem dL_agree_103 : decode cL_agree 103 = .ok (.goto (-41), 3) := by decide +kernel
theorem dL_agree_106 : decode cL_agree 106 = .ok (.iinc 6 1, 3) := by decide +kernel
theorem dL_agree_109 : decode cL_agree 109 = .ok (.goto (-84), 3) := by decide +kernel
theorem dL_agree_112 : decode cL_agree 112 = .ok (.aload_n 0, 1) := by decide +kernel
theorem dL_agree_113 : decode cL_agree 113 = .ok (.iload 4, 2) := by decide +kernel
theorem dL_agree_115 : decode cL_agree 115 = .ok (.iconst 1, 1) := by decide +kernel
theorem dL_agree_116 : decode cL_agree 116 = .ok (.invokevirtual 14, 3) := by decide +kernel
theorem dL_agree_119 : decode cL_agree 119 = .ok (.istore 6, 2) := by decide +kernel
theorem dL_agree_121 : decode cL_agree 121 = .ok (.aload_n 0, 1) := by decide +kernel
theorem dL_agree_122 : decode cL_agree 122 = .ok (.iload 4, 2) := by decide +kernel
theorem dL_agree_124 : decode cL_agree 124 = .ok (.bipush 7, 2) := by decide +kernel
theorem dL_agree_126 : decode cL_agree 126 = .ok (.invokevirtual 14, 3) := by decide +kernel
theorem dL_agree_129 : decode cL_agree 129 = .ok (.ifCond .eq 7, 3) := by decide +kernel
theorem dL_agree_132 : decode cL_agree 132 = .ok (.iconst 1, 1) := by decide +kernel
theorem dL_agree_133 : decode cL_agree 133 = .ok (.goto 4, 3) := by decide +kernel
theorem dL_agree_136 : decode cL_agree 136 = .ok (.iconst 0, 1) := by decide +kernel
theorem dL_agree_137 : decode cL_agree 137 = .ok (.istore 7, 2) := by decide +kernel
theorem dL_agree_139 : decode cL_agree 139 = .ok (.aload_n 0, 1) := by decide +kernel
theorem dL_agree_140 : decode cL_agree 140 = .ok (.iload 4, 2) := by decide +kernel
theorem dL_agree_142 : decode cL_agree 142 = .ok (.bipush 8, 2) := by decide +kernel
theorem dL_agree_144 : decode cL_agree 144 = .ok (.invokevirtual 14, 3) := by decide +kernel
theorem dL_agree_147 : decode cL_agree 147 = .ok (.ifCond .eq 7, 3) := by decide +kernel
theorem dL_agree_150 : decode cL_agree 150 = .ok (.iconst 1, 1) := by decide +kernel
theorem dL_agree_151 : decode cL_agree 151 = .ok (.goto 4, 3) := by decide +kernel
theorem dL_agree_154 : decode cL_agree 154 = .ok (.iconst 0, 1) := by decide +kernel
theorem dL_agree_155 : decode cL_agree 155 = .ok (.istore 8, 2) := by decide +kernel
theorem dL_agree_157 : decode cL_agree 157 = .ok (.iload_n 1, 1) := by decide +kernel
theorem dL_agree_158 : decode cL_agree 158 = .ok (.iload 7, 2) := by decide +kernel
theorem dL_agree_160 : decode cL_agree 160 = .ok (.ifCond .eq 7, 3) := by decide +kernel
theorem dL_agree_163 : decode cL_agree 163 = .ok (.iconst 1, 1) := by decide +kernel
theorem dL_agree_164 : decode cL_agree 164 = .ok (.goto 4, 3) := by decide +kernel
theorem dL_agree_167 : decode cL_agree 167 = .ok (.iconst 0, 1) := by decide +kernel
theorem dL_agree_168 : decode cL_agree 168 = .ok (.iadd, 1) := by decide +kernel
theorem dL_agree_169 : decode cL_agree 169 = .ok (.istore_n 1, 1) := by decide +kernel
theorem dL_agree_170 : decode cL_agree 170 = .ok (.iload_n 2, 1) := by decide +kernel
theorem dL_agree_171 : decode cL_agree 171 = .ok (.iload 8, 2) := by decide +kernel
theorem dL_agree_173 : decode cL_agree 173 = .ok (.ifCond .eq 7, 3) := by decide +kernel
theorem dL_agree_176 : decode cL_agree 176 = .ok (.iconst 1, 1) := by decide +kernel
theorem dL_agree_177 : decode cL_agree 177 = .ok (.goto 4, 3) := by decide +kernel
theorem dL_agree_180 : decode cL_agree 180 = .ok (.iconst 0, 1) := by decide +kernel
theorem dL_agree_181 : decode cL_agree 181 = .ok (.iadd, 1) := by decide +kernel
theorem dL_agree_182 : decode cL_agree 182 = .ok (.istore_n 2, 1) := by decide +kernel
theorem dL_agree_183 : decode cL_agree 183 = .ok (.iload_n 3, 1) := by decide +kernel
theorem dL_agree_184 : decode cL_agree 184 = .ok (.iload 7, 2) := by decide +kernel
theorem dL_agree_186 : decode cL_agree 186 = .ok (.ifCond .eq 12, 3) := by decide +kernel
theorem dL_agree_189 : decode cL_agree 189 = .ok (.iload 8, 2) := by decide +kernel
theorem dL_agree_191 : decode cL_agree 191 = .ok (.ifCond .eq 7, 3) := by decide +kernel
theorem dL_agree_194 : decode cL_agree 194 = .ok (.iconst 1, 1) := by decide +kernel
theorem dL_agree_195 : decode cL_agree 195 = .ok (.goto 4, 3) := by decide +kernel
theorem dL_agree_198 : decode cL_agree 198 = .ok (.iconst 0, 1) := by decide +kernel
theorem dL_agree_199 : decode cL_agree 199 = .ok (.iadd, 1) := by decide +kernel
theorem dL_agree_200 : decode cL_agree 200 = .ok (.istore_n 3, 1) := by decide +kernel
theorem dL_agree_201 : decode cL_agree 201 = .ok (.iload 5, 2) := by decide +kernel
theorem dL_agree_203 : decode cL_agree 203 = .ok (.aload_n 0, 1) := by decide +kernel
theorem dL_agree_204 : decode cL_agree 204 = .ok (.iload 4, 2) := by decide +kernel
theorem dL_agree_206 : decode cL_agree 206 = .ok (.iconst 0, 1) := by decide +kernel
theorem dL_agree_207 : decode cL_agree 207 = .ok (.invokevirtual 14, 3) := by decide +kernel
theorem dL_agree_210 : decode cL_agree 210 = .ok (.if_icmp .ne 73, 3) := by decide +kernel
theorem dL_agree_213 : decode cL_agree 213 = .ok (.iload 7, 2) := by decide +kernel
theorem dL_agree_215 : decode cL_agree 215 = .ok (.ifCond .eq 32, 3) := by decide +kernel
theorem dL_agree_218 : decode cL_agree 218 = .ok (.iload 8, 2) := by decide +kernel
theorem dL_agree_220 : decode cL_agree 220 = .ok (.ifCond .ne 63, 3) := by decide +kernel
theorem dL_agree_223 : decode cL_agree 223 = .ok (.iload 6, 2) := by decide +kernel
theorem dL_agree_225 : decode cL_agree 225 = .ok (.iconst 1, 1) := by decide +kernel
theorem dL_agree_226 : decode cL_agree 226 = .ok (.if_icmp .eq 9, 3) := by decide +kernel
theorem dL_agree_229 : decode cL_agree 229 = .ok (.iload 6, 2) := by decide +kernel
theorem dL_agree_231 : decode cL_agree 231 = .ok (.iconst 3, 1) := by decide +kernel
theorem dL_agree_232 : decode cL_agree 232 = .ok (.if_icmp .ne 51, 3) := by decide +kernel
theorem dL_agree_235 : decode cL_agree 235 = .ok (.aload_n 0, 1) := by decide +kernel
theorem dL_agree_236 : decode cL_agree 236 = .ok (.iload 4, 2) := by decide +kernel
theorem dL_agree_238 : decode cL_agree 238 = .ok (.iconst 3, 1) := by decide +kernel
theorem dL_agree_239 : decode cL_agree 239 = .ok (.invokevirtual 14, 3) := by decide +kernel
theorem dL_agree_242 : decode cL_agree 242 = .ok (.iload 5, 2) := by decide +kernel
theorem dL_agree_244 : decode cL_agree 244 = .ok (.if_icmp .ne 39, 3) := by decide +kernel
theorem dL_agree_247 : decode cL_agree 247 = .ok (.aload_n 0, 1) := by decide +kernel
theorem dL_agree_248 : decode cL_agree 248 = .ok (.iload 4, 2) := by decide +kernel
theorem dL_agree_250 : decode cL_agree 250 = .ok (.iconst 4, 1) := by decide +kernel
theorem dL_agree_251 : decode cL_agree 251 = .ok (.invokevirtual 14, 3) := by decide +kernel
theorem dL_agree_254 : decode cL_agree 254 = .ok (.aload_n 0, 1) := by decide +kernel
theorem dL_agree_255 : decode cL_agree 255 = .ok (.iload 4, 2) := by decide +kernel
theorem dL_agree_257 : decode cL_agree 257 = .ok (.bipush 7, 2) := by decide +kernel
theorem dL_agree_259 : decode cL_agree 259 = .ok (.invokevirtual 14, 3) := by decide +kernel
theorem dL_agree_262 : decode cL_agree 262 = .ok (.iconst (-1), 1) := by decide +kernel
theorem dL_agree_263 : decode cL_agree 263 = .ok (.ixor, 1) := by decide +kernel
theorem dL_agree_264 : decode cL_agree 264 = .ok (.iand, 1) := by decide +kernel
theorem dL_agree_265 : decode cL_agree 265 = .ok (.ifCond .ne 18, 3) := by decide +kernel
theorem dL_agree_268 : decode cL_agree 268 = .ok (.aload_n 0, 1) := by decide +kernel
theorem dL_agree_269 : decode cL_agree 269 = .ok (.iload 4, 2) := by decide +kernel
theorem dL_agree_271 : decode cL_agree 271 = .ok (.iconst 3, 1) := by decide +kernel
theorem dL_agree_272 : decode cL_agree 272 = .ok (.invokevirtual 14, 3) := by decide +kernel
theorem dL_agree_275 : decode cL_agree 275 = .ok (.iload 5, 2) := by decide +kernel
theorem dL_agree_277 : decode cL_agree 277 = .ok (.iconst (-1), 1) := by decide +kernel
theorem dL_agree_278 : decode cL_agree 278 = .ok (.ixor, 1) := by decide +kernel
theorem dL_agree_279 : decode cL_agree 279 = .ok (.iand, 1) := by decide +kernel
theorem dL_agree_280 : decode cL_agree 280 = .ok (.ifCond .eq 5, 3) := by decide +kernel
theorem dL_agree_283 : decode cL_agree 283 = .ok (.iconst 0, 1) := by decide +kernel
theorem dL_agree_284 : decode cL_agree 284 = .ok (.ireturn, 1) := by decide +kernel
theorem dL_agree_285 : decode cL_agree 285 = .ok (.iload 6, 2) := by decide +kernel
theorem dL_agree_287 : decode cL_agree 287 = .ok (.iconst 3, 1) := by decide +kernel
theorem dL_agree_288 : decode cL_agree 288 = .ok (.if_icmp .ne 15, 3) := by decide +kernel
theorem dL_agree_291 : decode cL_agree 291 = .ok (.aload_n 0, 1) := by decide +kernel
theorem dL_agree_292 : decode cL_agree 292 = .ok (.iload 4, 2) := by decide +kernel
theorem dL_agree_294 : decode cL_agree 294 = .ok (.iconst 4, 1) := by decide +kernel
theorem dL_agree_295 : decode cL_agree 295 = .ok (.invokevirtual 14, 3) := by decide +kernel
theorem dL_agree_298 : decode cL_agree 298 = .ok (.iload 5, 2) := by decide +kernel
theorem dL_agree_300 : decode cL_agree 300 = .ok (.if_icmp .ne 98, 3) := by decide +kernel
theorem dL_agree_303 : decode cL_agree 303 = .ok (.iload 6, 2) := by decide +kernel
theorem dL_agree_305 : decode cL_agree 305 = .ok (.iconst 1, 1) := by decide +kernel
theorem dL_agree_306 : decode cL_agree 306 = .ok (.if_icmp .eq 9, 3) := by decide +kernel
theorem dL_agree_309 : decode cL_agree 309 = .ok (.iload 6, 2) := by decide +kernel
theorem dL_agree_311 : decode cL_agree 311 = .ok (.iconst 3, 1) := by decide +kernel
theorem dL_agree_312 : decode cL_agree 312 = .ok (.if_icmp .ne 7, 3) := by decide +kernel
theorem dL_agree_315 : decode cL_agree 315 = .ok (.iconst 1, 1) := by decide +kernel
theorem dL_agree_316 : decode cL_agree 316 = .ok (.goto 4, 3) := by decide +kernel
theorem dL_agree_319 : decode cL_agree 319 = .ok (.iconst 0, 1) := by decide +kernel
theorem dL_agree_320 : decode cL_agree 320 = .ok (.aload_n 0, 1) := by decide +kernel
theorem dL_agree_321 : decode cL_agree 321 = .ok (.iload 4, 2) := by decide +kernel
theorem dL_agree_323 : decode cL_agree 323 = .ok (.iconst 3, 1) := by decide +kernel
theorem dL_agree_324 : decode cL_agree 324 = .ok (.invokevirtual 14, 3) := by decide +kernel
theorem dL_agree_327 : decode cL_agree 327 = .ok (.iload 5, 2) := by decide +kernel
theorem dL_agree_329 : decode cL_agree 329 = .ok (.if_icmp .ne 7, 3) := by decide +kernel
theorem dL_agree_332 : decode cL_agree 332 = .ok (.iconst 1, 1) := by decide +kernel
theorem dL_agree_333 : decode cL_agree 333 = .ok (.goto 4, 3) := by decide +kernel
theorem dL_agree_336 : decode cL_agree 336 = .ok (.iconst 0, 1) := by decide +kernel
theorem dL_agree_337 : decode cL_agree 337 = .ok (.if_icmp .eq 9, 3) := by decide +kernel
theorem dL_agree_340 : decode cL_agree 340 = .ok (.iload 6, 2) := by decide +kernel
theorem dL_agree_342 : decode cL_agree 342 = .ok (.iconst 2, 1) := by decide +kernel
theorem dL_agree_343 : decode cL_agree 343 = .ok (.if_icmp .ne 55, 3) := by decide +kernel
theorem dL_agree_346 : decode cL_agree 346 = .ok (.aload_n 0, 1) := by decide +kernel
theorem dL_agree_347 : decode cL_agree 347 = .ok (.iload 4, 2) := by decide +kernel
theorem dL_agree_349 : decode cL_agree 349 = .ok (.invokevirtual 27, 3) := by decide +kernel
theorem dL_agree_352 : decode cL_agree 352 = .ok (.iload 6, 2) := by decide +kernel
theorem dL_agree_354 : decode cL_agree 354 = .ok (.iconst 1, 1) := by decide +kernel
theorem dL_agree_355 : decode cL_agree 355 = .ok (.if_icmp .eq 9, 3) := by decide +kernel
theorem dL_agree_358 : decode cL_agree 358 = .ok (.iload 6, 2) := by decide +kernel
theorem dL_agree_360 : decode cL_agree 360 = .ok (.iconst 3, 1) := by decide +kernel
theorem dL_agree_361 : decode cL_agree 361 = .ok (.if_icmp .ne 7, 3) := by decide +kernel
theorem dL_agree_364 : decode cL_agree 364 = .ok (.iconst 1, 1) := by decide +kernel
theorem dL_agree_365 : decode cL_agree 365 = .ok (.goto 19, 3) := by decide +kernel
theorem dL_agree_368 : decode cL_agree 368 = .ok (.iload 6, 2) := by decide +kernel
theorem dL_agree_370 : decode cL_agree 370 = .ok (.iconst 2, 1) := by decide +kernel
theorem dL_agree_371 : decode cL_agree 371 = .ok (.if_icmp .eq 8, 3) := by decide +kernel
theorem dL_agree_374 : decode cL_agree 374 = .ok (.iload 8, 2) := by decide +kernel
theorem dL_agree_376 : decode cL_agree 376 = .ok (.ifCond .eq 7, 3) := by decide +kernel
theorem dL_agree_379 : decode cL_agree 379 = .ok (.iconst 2, 1) := by decide +kernel
theorem dL_agree_380 : decode cL_agree 380 = .ok (.goto 4, 3) := by decide +kernel
theorem dL_agree_383 : decode cL_agree 383 = .ok (.iconst 0, 1) := by decide +kernel
theorem dL_agree_384 : decode cL_agree 384 = .ok (.if_icmp .ne 14, 3) := by decide +kernel
theorem dL_agree_387 : decode cL_agree 387 = .ok (.aload_n 0, 1) := by decide +kernel
theorem dL_agree_388 : decode cL_agree 388 = .ok (.iload 4, 2) := by decide +kernel
theorem dL_agree_390 : decode cL_agree 390 = .ok (.iconst 4, 1) := by decide +kernel
theorem dL_agree_391 : decode cL_agree 391 = .ok (.invokevirtual 24, 3) := by decide +kernel
theorem dL_agree_394 : decode cL_agree 394 = .ok (.iconst (-1), 1) := by decide +kernel
theorem dL_agree_395 : decode cL_agree 395 = .ok (.if_icmp .eq 5, 3) := by decide +kernel
theorem dL_agree_398 : decode cL_agree 398 = .ok (.iconst 0, 1) := by decide +kernel
theorem dL_agree_399 : decode cL_agree 399 = .ok (.ireturn, 1) := by decide +kernel
theorem dL_agree_400 : decode cL_agree 400 = .ok (.aload_n 0, 1) := by decide +kernel
theorem dL_agree_401 : decode cL_agree 401 = .ok (.iload 4, 2) := by decide +kernel
theorem dL_agree_403 : decode cL_agree 403 = .ok (.invokestatic 30, 3) := by decide +kernel
theorem dL_agree_406 : decode cL_agree 406 = .ok (.ifCond .ne 5, 3) := by decide +kernel
theorem dL_agree_409 : decode cL_agree 409 = .ok (.iconst 0, 1) := by decide +kernel
theorem dL_agree_410 : decode cL_agree 410 = .ok (.ireturn, 1) := by decide +kernel
theorem dL_agree_411 : decode cL_agree 411 = .ok (.iinc 4 1, 3) := by decide +kernel
theorem dL_agree_414 : decode cL_agree 414 = .ok (.goto (-405), 3) := by decide +kernel
theorem dL_agree_417 : decode cL_agree 417 = .ok (.iconst 0, 1) := by decide +kernel
theorem dL_agree_418 : decode cL_agree 418 = .ok (.istore 4, 2) := by decide +kernel
theorem dL_agree_420 : decode cL_agree 420 = .ok (.iconst 0, 1) := by decide +kernel
theorem dL_agree_421 : decode cL_agree 421 = .ok (.istore 5, 2) := by decide +kernel
theorem dL_agree_423 : decode cL_agree 423 = .ok (.iconst 0, 1) := by decide +kernel
theorem dL_agree_424 : decode cL_agree 424 = .ok (.istore 6, 2) := by decide +kernel
theorem dL_agree_426 : decode cL_agree 426 = .ok (.iconst 0, 1) := by decide +kernel
theorem dL_agree_427 : decode cL_agree 427 = .ok (.istore 7, 2) := by decide +kernel
theorem dL_agree_429 : decode cL_agree 429 = .ok (.iconst 0, 1) := by decide +kernel
theorem dL_agree_430 : decode cL_agree 430 = .ok (.istore 8, 2) := by decide +kernel
theorem dL_agree_432 : decode cL_agree 432 = .ok (.iload 8, 2) := by decide +kernel
theorem dL_agree_434 : decode cL_agree 434 = .ok (.iconst 5, 1) := by decide +kernel
theorem dL_agree_435 : decode cL_agree 435 = .ok (.if_icmp .ge 110, 3) := by decide +kernel
theorem dL_agree_438 : decode cL_agree 438 = .ok (.iconst 0, 1) := by decide +kernel
theorem dL_agree_439 : decode cL_agree 439 = .ok (.istore 9, 2) := by decide +kernel
theorem dL_agree_441 : decode cL_agree 441 = .ok (.iconst 0, 1) := by decide +kernel
theorem dL_agree_442 : decode cL_agree 442 = .ok (.istore 10, 2) := by decide +kernel
theorem dL_agree_444 : decode cL_agree 444 = .ok (.iload 10, 2) := by decide +kernel
theorem dL_agree_446 : decode cL_agree 446 = .ok (.aload_n 0, 1) := by decide +kernel
theorem dL_agree_447 : decode cL_agree 447 = .ok (.iconst 2, 1) := by decide +kernel
theorem dL_agree_448 : decode cL_agree 448 = .ok (.invokevirtual 8, 3) := by decide +kernel
theorem dL_agree_451 : decode cL_agree 451 = .ok (.if_icmp .ge 31, 3) := by decide +kernel
theorem dL_agree_454 : decode cL_agree 454 = .ok (.iload 9, 2) := by decide +kernel
theorem dL_agree_456 : decode cL_agree 456 = .ok (.aload_n 0, 1) := by decide +kernel
theorem dL_agree_457 : decode cL_agree 457 = .ok (.iload 10, 2) := by decide +kernel
theorem dL_agree_459 : decode cL_agree 459 = .ok (.iconst 3, 1) := by decide +kernel
theorem dL_agree_460 : decode cL_agree 460 = .ok (.invokevirtual 34, 3) := by decide +kernel
theorem dL_agree_463 : decode cL_agree 463 = .ok (.iload 8, 2) := by decide +kernel
theorem dL_agree_465 : decode cL_agree 465 = .ok (.if_icmp .ne 7, 3) := by decide +kernel
theorem dL_agree_468 : decode cL_agree 468 = .ok (.iconst 1, 1) := by decide +kernel
theorem dL_agree_469 : decode cL_agree 469 = .ok (.goto 4, 3) := by decide +kernel
theorem dL_agree_472 : decode cL_agree 472 = .ok (.iconst 0, 1) := by decide +kernel
theorem dL_agree_473 : decode cL_agree 473 = .ok (.iadd, 1) := by decide +kernel
theorem dL_agree_474 : decode cL_agree 474 = .ok (.istore 9, 2) := by decide +kernel
theorem dL_agree_476 : decode cL_agree 476 = .ok (.iinc 10 1, 3) := by decide +kernel
theorem dL_agree_479 : decode cL_agree 479 = .ok (.goto (-35), 3) := by decide +kernel
theorem dL_agree_482 : decode cL_agree 482 = .ok (.iload 4, 2) := by decide +kernel
theorem dL_agree_484 : decode cL_agree 484 = .ok (.aload_n 0, 1) := by decide +kernel
theorem dL_agree_485 : decode cL_agree 485 = .ok (.iload 8, 2) := by decide +kernel
theorem dL_agree_487 : decode cL_agree 487 = .ok (.iconst 0, 1) := by decide +kernel
theorem dL_agree_488 : decode cL_agree 488 = .ok (.invokevirtual 37, 3) := by decide +kernel
theorem dL_agree_491 : decode cL_agree 491 = .ok (.iadd, 1) := by decide +kernel
theorem dL_agree_492 : decode cL_agree 492 = .ok (.istore 4, 2) := by decide +kernel
theorem dL_agree_494 : decode cL_agree 494 = .ok (.iload 5, 2) := by decide +kernel
theorem dL_agree_496 : decode cL_agree 496 = .ok (.aload_n 0, 1) := by decide +kernel
theorem dL_agree_497 : decode cL_agree 497 = .ok (.iload 8, 2) := by decide +kernel
theorem dL_agree_499 : decode cL_agree 499 = .ok (.iconst 4, 1) := by decide +kernel
theorem dL_agree_500 : decode cL_agree 500 = .ok (.invokevirtual 37, 3) := by decide +kernel
theorem dL_agree_503 : decode cL_agree 503 = .ok (.iadd, 1) := by decide +kernel
theorem dL_agree_504 : decode cL_agree 504 = .ok (.istore 5, 2) := by decide +kernel
theorem dL_agree_506 : decode cL_agree 506 = .ok (.iload 6, 2) := by decide +kernel
theorem dL_agree_508 : decode cL_agree 508 = .ok (.aload_n 0, 1) := by decide +kernel
theorem dL_agree_509 : decode cL_agree 509 = .ok (.iload 8, 2) := by decide +kernel
theorem dL_agree_511 : decode cL_agree 511 = .ok (.iconst 3, 1) := by decide +kernel
theorem dL_agree_512 : decode cL_agree 512 = .ok (.invokevirtual 37, 3) := by decide +kernel
theorem dL_agree_515 : decode cL_agree 515 = .ok (.iadd, 1) := by decide +kernel
theorem dL_agree_516 : decode cL_agree 516 = .ok (.istore 6, 2) := by decide +kernel
theorem dL_agree_518 : decode cL_agree 518 = .ok (.iload 7, 2) := by decide +kernel
theorem dL_agree_520 : decode cL_agree 520 = .ok (.iload 9, 2) := by decide +kernel
theorem dL_agree_522 : decode cL_agree 522 = .ok (.iadd, 1) := by decide +kernel
theorem dL_agree_523 : decode cL_agree 523 = .ok (.istore 7, 2) := by decide +kernel
theorem dL_agree_525 : decode cL_agree 525 = .ok (.aload_n 0, 1) := by decide +kernel
theorem dL_agree_526 : decode cL_agree 526 = .ok (.iload 8, 2) := by decide +kernel
theorem dL_agree_528 : decode cL_agree 528 = .ok (.iconst 2, 1) := by decide +kernel
theorem dL_agree_529 : decode cL_agree 529 = .ok (.invokevirtual 37, 3) := by decide +kernel
theorem dL_agree_532 : decode cL_agree 532 = .ok (.iload 9, 2) := by decide +kernel
theorem dL_agree_534 : decode cL_agree 534 = .ok (.if_icmp .eq 5, 3) := by decide +kernel
theorem dL_agree_537 : decode cL_agree 537 = .ok (.iconst 0, 1) := by decide +kernel
theorem dL_agree_538 : decode cL_agree 538 = .ok (.ireturn, 1) := by decide +kernel
theorem dL_agree_539 : decode cL_agree 539 = .ok (.iinc 8 1, 3) := by decide +kernel
theorem dL_agree_542 : decode cL_agree 542 = .ok (.goto (-110), 3) := by decide +kernel
theorem dL_agree_545 : decode cL_agree 545 = .ok (.iload 7, 2) := by decide +kernel
theorem dL_agree_547 : decode cL_agree 547 = .ok (.aload_n 0, 1) := by decide +kernel
theorem dL_agree_548 : decode cL_agree 548 = .ok (.iconst 2, 1) := by decide +kernel
theorem dL_agree_549 : decode cL_agree 549 = .ok (.invokevirtual 8, 3) := by decide +kernel
theorem dL_agree_552 : decode cL_agree 552 = .ok (.if_icmp .ne 67, 3) := by decide +kernel
theorem dL_agree_555 : decode cL_agree 555 = .ok (.aload_n 0, 1) := by decide +kernel
theorem dL_agree_556 : decode cL_agree 556 = .ok (.iconst 2, 1) := by decide +kernel
theorem dL_agree_557 : decode cL_agree 557 = .ok (.invokevirtual 8, 3) := by decide +kernel
theorem dL_agree_560 : decode cL_agree 560 = .ok (.bipush 60, 2) := by decide +kernel
theorem dL_agree_562 : decode cL_agree 562 = .ok (.if_icmp .gt 57, 3) := by decide +kernel
theorem dL_agree_565 : decode cL_agree 565 = .ok (.iload 6, 2) := by decide +kernel
theorem dL_agree_567 : decode cL_agree 567 = .ok (.aload_n 0, 1) := by decide +kernel
theorem dL_agree_568 : decode cL_agree 568 = .ok (.iconst 3, 1) := by decide +kernel
theorem dL_agree_569 : decode cL_agree 569 = .ok (.invokevirtual 8, 3) := by decide +kernel
theorem dL_agree_572 : decode cL_agree 572 = .ok (.if_icmp .ne 47, 3) := by decide +kernel
theorem dL_agree_575 : decode cL_agree 575 = .ok (.aload_n 0, 1) := by decide +kernel
theorem dL_agree_576 : decode cL_agree 576 = .ok (.bipush 11, 2) := by decide +kernel
theorem dL_agree_578 : decode cL_agree 578 = .ok (.invokevirtual 8, 3) := by decide +kernel
theorem dL_agree_581 : decode cL_agree 581 = .ok (.iload_n 1, 1) := by decide +kernel
theorem dL_agree_582 : decode cL_agree 582 = .ok (.if_icmp .ne 37, 3) := by decide +kernel
theorem dL_agree_585 : decode cL_agree 585 = .ok (.aload_n 0, 1) := by decide +kernel
theorem dL_agree_586 : decode cL_agree 586 = .ok (.bipush 12, 2) := by decide +kernel
theorem dL_agree_588 : decode cL_agree 588 = .ok (.invokevirtual 8, 3) := by decide +kernel
theorem dL_agree_591 : decode cL_agree 591 = .ok (.iload_n 2, 1) := by decide +kernel
theorem dL_agree_592 : decode cL_agree 592 = .ok (.if_icmp .ne 27, 3) := by decide +kernel
theorem dL_agree_595 : decode cL_agree 595 = .ok (.aload_n 0, 1) := by decide +kernel
theorem dL_agree_596 : decode cL_agree 596 = .ok (.bipush 13, 2) := by decide +kernel
theorem dL_agree_598 : decode cL_agree 598 = .ok (.invokevirtual 8, 3) := by decide +kernel
theorem dL_agree_601 : decode cL_agree 601 = .ok (.iload_n 3, 1) := by decide +kernel
theorem dL_agree_602 : decode cL_agree 602 = .ok (.if_icmp .ne 17, 3) := by decide +kernel
theorem dL_agree_605 : decode cL_agree 605 = .ok (.iload 4, 2) := by decide +kernel
theorem dL_agree_607 : decode cL_agree 607 = .ok (.ifCond .lt 12, 3) := by decide +kernel
theorem dL_agree_610 : decode cL_agree 610 = .ok (.iload 5, 2) := by decide +kernel
theorem dL_agree_612 : decode cL_agree 612 = .ok (.ifCond .lt 7, 3) := by decide +kernel
theorem dL_agree_615 : decode cL_agree 615 = .ok (.iconst 1, 1) := by decide +kernel
theorem dL_agree_616 : decode cL_agree 616 = .ok (.goto 4, 3) := by decide +kernel
theorem dL_agree_619 : decode cL_agree 619 = .ok (.iconst 0, 1) := by decide +kernel
theorem dL_agree_620 : decode cL_agree 620 = .ok (.ireturn, 1) := by decide +kernel
theorem dL_isAsk_0 : decode cL_isAsk 0 = .ok (.iconst 0, 1) := by decide +kernel
theorem dL_isAsk_1 : decode cL_isAsk 1 = .ok (.istore_n 2, 1) := by decide +kernel
theorem dL_isAsk_2 : decode cL_isAsk 2 = .ok (.iconst 0, 1) := by decide +kernel
theorem dL_isAsk_3 : decode cL_isAsk 3 = .ok (.istore_n 3, 1) := by decide +kernel
theorem dL_isAsk_4 : decode cL_isAsk 4 = .ok (.iload_n 3, 1) := by decide +kernel
theorem dL_isAsk_5 : decode cL_isAsk 5 = .ok (.iconst 4, 1) := by decide +kernel
theorem dL_isAsk_6 : decode cL_isAsk 6 = .ok (.if_icmp .ge 161, 3) := by decide +kernel
theorem dL_isAsk_9 : decode cL_isAsk 9 = .ok (.aload_n 0, 1) := by decide +kernel
theorem dL_isAsk_10 : decode cL_isAsk 10 = .ok (.iload_n 3, 1) := by decide +kernel
theorem dL_isAsk_11 : decode cL_isAsk 11 = .ok (.iconst 0, 1) := by decide +kernel
theorem dL_isAsk_12 : decode cL_isAsk 12 = .ok (.invokevirtual 37, 3) := by decide +kernel
theorem dL_isAsk_15 : decode cL_isAsk 15 = .ok (.ifCond .ne 146, 3) := by decide +kernel
theorem dL_isAsk_18 : decode cL_isAsk 18 = .ok (.aload_n 0, 1) := by decide +kernel
theorem dL_isAsk_19 : decode cL_isAsk 19 = .ok (.iload_n 1, 1) := by decide +kernel
theorem dL_isAsk_20 : decode cL_isAsk 20 = .ok (.bipush 6, 2) := by decide +kernel
theorem dL_isAsk_22 : decode cL_isAsk 22 = .ok (.invokevirtual 14, 3) := by decide +kernel
theorem dL_isAsk_25 : decode cL_isAsk 25 = .ok (.iload_n 3, 1) := by decide +kernel
theorem dL_isAsk_26 : decode cL_isAsk 26 = .ok (.invokestatic 18, 3) := by decide +kernel
theorem dL_isAsk_29 : decode cL_isAsk 29 = .ok (.ifCond .eq 132, 3) := by decide +kernel
theorem dL_isAsk_32 : decode cL_isAsk 32 = .ok (.aload_n 0, 1) := by decide +kernel
theorem dL_isAsk_33 : decode cL_isAsk 33 = .ok (.iconst 4, 1) := by decide +kernel
theorem dL_isAsk_34 : decode cL_isAsk 34 = .ok (.iconst 0, 1) := by decide +kernel
theorem dL_isAsk_35 : decode cL_isAsk 35 = .ok (.invokevirtual 37, 3) := by decide +kernel
theorem dL_isAsk_38 : decode cL_isAsk 38 = .ok (.ifCond .ne 16, 3) := by decide +kernel
theorem dL_isAsk_41 : decode cL_isAsk 41 = .ok (.aload_n 0, 1) := by decide +kernel
theorem dL_isAsk_42 : decode cL_isAsk 42 = .ok (.iload_n 1, 1) := by decide +kernel
theorem dL_isAsk_43 : decode cL_isAsk 43 = .ok (.iconst 1, 1) := by decide +kernel
theorem dL_isAsk_44 : decode cL_isAsk 44 = .ok (.invokevirtual 14, 3) := by decide +kernel
theorem dL_isAsk_47 : decode cL_isAsk 47 = .ok (.ifCond .eq 7, 3) := by decide +kernel
theorem dL_isAsk_50 : decode cL_isAsk 50 = .ok (.iconst 1, 1) := by decide +kernel
theorem dL_isAsk_51 : decode cL_isAsk 51 = .ok (.goto 4, 3) := by decide +kernel
theorem dL_isAsk_54 : decode cL_isAsk 54 = .ok (.iconst 0, 1) := by decide +kernel
theorem dL_isAsk_55 : decode cL_isAsk 55 = .ok (.istore 4, 2) := by decide +kernel
theorem dL_isAsk_57 : decode cL_isAsk 57 = .ok (.iconst 0, 1) := by decide +kernel
theorem dL_isAsk_58 : decode cL_isAsk 58 = .ok (.istore 5, 2) := by decide +kernel
theorem dL_isAsk_60 : decode cL_isAsk 60 = .ok (.iload 5, 2) := by decide +kernel
theorem dL_isAsk_62 : decode cL_isAsk 62 = .ok (.iconst 4, 1) := by decide +kernel
theorem dL_isAsk_63 : decode cL_isAsk 63 = .ok (.if_icmp .ge 83, 3) := by decide +kernel
theorem dL_isAsk_66 : decode cL_isAsk 66 = .ok (.aload_n 0, 1) := by decide +kernel
theorem dL_isAsk_67 : decode cL_isAsk 67 = .ok (.bipush 10, 2) := by decide +kernel
theorem dL_isAsk_69 : decode cL_isAsk 69 = .ok (.invokevirtual 8, 3) := by decide +kernel
theorem dL_isAsk_72 : decode cL_isAsk 72 = .ok (.iconst 1, 1) := by decide +kernel
theorem dL_isAsk_73 : decode cL_isAsk 73 = .ok (.if_icmp .ne 37, 3) := by decide +kernel
theorem dL_isAsk_76 : decode cL_isAsk 76 = .ok (.iload 5, 2) := by decide +kernel
theorem dL_isAsk_78 : decode cL_isAsk 78 = .ok (.iload_n 3, 1) := by decide +kernel
theorem dL_isAsk_79 : decode cL_isAsk 79 = .ok (.if_icmp .eq 31, 3) := by decide +kernel
theorem dL_isAsk_82 : decode cL_isAsk 82 = .ok (.aload_n 0, 1) := by decide +kernel
theorem dL_isAsk_83 : decode cL_isAsk 83 = .ok (.iload_n 1, 1) := by decide +kernel
theorem dL_isAsk_84 : decode cL_isAsk 84 = .ok (.iconst 0, 1) := by decide +kernel
theorem dL_isAsk_85 : decode cL_isAsk 85 = .ok (.invokevirtual 14, 3) := by decide +kernel
theorem dL_isAsk_88 : decode cL_isAsk 88 = .ok (.aload_n 0, 1) := by decide +kernel
theorem dL_isAsk_89 : decode cL_isAsk 89 = .ok (.iload_n 1, 1) := by decide +kernel
theorem dL_isAsk_90 : decode cL_isAsk 90 = .ok (.bipush 6, 2) := by decide +kernel
theorem dL_isAsk_92 : decode cL_isAsk 92 = .ok (.invokevirtual 14, 3) := by decide +kernel
theorem dL_isAsk_95 : decode cL_isAsk 95 = .ok (.iconst (-1), 1) := by decide +kernel
theorem dL_isAsk_96 : decode cL_isAsk 96 = .ok (.ixor, 1) := by decide +kernel
theorem dL_isAsk_97 : decode cL_isAsk 97 = .ok (.iand, 1) := by decide +kernel
theorem dL_isAsk_98 : decode cL_isAsk 98 = .ok (.iload 5, 2) := by decide +kernel
theorem dL_isAsk_100 : decode cL_isAsk 100 = .ok (.invokestatic 18, 3) := by decide +kernel
theorem dL_isAsk_103 : decode cL_isAsk 103 = .ok (.ifCond .eq 7, 3) := by decide +kernel
theorem dL_isAsk_106 : decode cL_isAsk 106 = .ok (.iconst 1, 1) := by decide +kernel
theorem dL_isAsk_107 : decode cL_isAsk 107 = .ok (.goto 4, 3) := by decide +kernel
theorem dL_isAsk_110 : decode cL_isAsk 110 = .ok (.iconst 0, 1) := by decide +kernel
theorem dL_isAsk_111 : decode cL_isAsk 111 = .ok (.istore 6, 2) := by decide +kernel
theorem dL_isAsk_113 : decode cL_isAsk 113 = .ok (.iload 4, 2) := by decide +kernel
theorem dL_isAsk_115 : decode cL_isAsk 115 = .ok (.ifCond .ne 18, 3) := by decide +kernel
theorem dL_isAsk_118 : decode cL_isAsk 118 = .ok (.iload 6, 2) := by decide +kernel
theorem dL_isAsk_120 : decode cL_isAsk 120 = .ok (.ifCond .eq 17, 3) := by decide +kernel
theorem dL_isAsk_123 : decode cL_isAsk 123 = .ok (.aload_n 0, 1) := by decide +kernel
theorem dL_isAsk_124 : decode cL_isAsk 124 = .ok (.iload 5, 2) := by decide +kernel
theorem dL_isAsk_126 : decode cL_isAsk 126 = .ok (.iconst 0, 1) := by decide +kernel
theorem dL_isAsk_127 : decode cL_isAsk 127 = .ok (.invokevirtual 37, 3) := by decide +kernel
theorem dL_isAsk_130 : decode cL_isAsk 130 = .ok (.ifCond .ne 7, 3) := by decide +kernel
theorem dL_isAsk_133 : decode cL_isAsk 133 = .ok (.iconst 1, 1) := by decide +kernel
theorem dL_isAsk_134 : decode cL_isAsk 134 = .ok (.goto 4, 3) := by decide +kernel
theorem dL_isAsk_137 : decode cL_isAsk 137 = .ok (.iconst 0, 1) := by decide +kernel
theorem dL_isAsk_138 : decode cL_isAsk 138 = .ok (.istore 4, 2) := by decide +kernel
theorem dL_isAsk_140 : decode cL_isAsk 140 = .ok (.iinc 5 1, 3) := by decide +kernel
theorem dL_isAsk_143 : decode cL_isAsk 143 = .ok (.goto (-83), 3) := by decide +kernel
theorem dL_isAsk_146 : decode cL_isAsk 146 = .ok (.iload_n 2, 1) := by decide +kernel
theorem dL_isAsk_147 : decode cL_isAsk 147 = .ok (.iload 4, 2) := by decide +kernel
theorem dL_isAsk_149 : decode cL_isAsk 149 = .ok (.ifCond .eq 9, 3) := by decide +kernel
theorem dL_isAsk_152 : decode cL_isAsk 152 = .ok (.iconst 1, 1) := by decide +kernel
theorem dL_isAsk_153 : decode cL_isAsk 153 = .ok (.iload_n 3, 1) := by decide +kernel
theorem dL_isAsk_154 : decode cL_isAsk 154 = .ok (.ishl, 1) := by decide +kernel
theorem dL_isAsk_155 : decode cL_isAsk 155 = .ok (.goto 4, 3) := by decide +kernel
theorem dL_isAsk_158 : decode cL_isAsk 158 = .ok (.iconst 0, 1) := by decide +kernel
theorem dL_isAsk_159 : decode cL_isAsk 159 = .ok (.ior, 1) := by decide +kernel
theorem dL_isAsk_160 : decode cL_isAsk 160 = .ok (.istore_n 2, 1) := by decide +kernel
theorem dL_isAsk_161 : decode cL_isAsk 161 = .ok (.iinc 3 1, 3) := by decide +kernel
theorem dL_isAsk_164 : decode cL_isAsk 164 = .ok (.goto (-160), 3) := by decide +kernel
theorem dL_isAsk_167 : decode cL_isAsk 167 = .ok (.aload_n 0, 1) := by decide +kernel
theorem dL_isAsk_168 : decode cL_isAsk 168 = .ok (.iload_n 1, 1) := by decide +kernel
theorem dL_isAsk_169 : decode cL_isAsk 169 = .ok (.invokevirtual 40, 3) := by decide +kernel
theorem dL_isAsk_172 : decode cL_isAsk 172 = .ok (.iload_n 2, 1) := by decide +kernel
theorem dL_isAsk_173 : decode cL_isAsk 173 = .ok (.if_icmp .ne 7, 3) := by decide +kernel
theorem dL_isAsk_176 : decode cL_isAsk 176 = .ok (.iconst 1, 1) := by decide +kernel
theorem dL_isAsk_177 : decode cL_isAsk 177 = .ok (.goto 4, 3) := by decide +kernel
theorem dL_isAsk_180 : decode cL_isAsk 180 = .ok (.iconst 0, 1) := by decide +kernel
theorem dL_isAsk_181 : decode cL_isAsk 181 = .ok (.ireturn, 1) := by decide +kernel
theorem dL_isMessage_0 : decode cL_isMessage 0 = .ok (.aload_n 0, 1) := by decide +kernel
theorem dL_isMessage_1 : decode cL_isMessage 1 = .ok (.iload_n 1, 1) := by decide +kernel
theorem dL_isMessage_2 : decode cL_isMessage 2 = .ok (.iconst 0, 1) := by decide +kernel
theorem dL_isMessage_3 : decode cL_isMessage 3 = .ok (.invokevirtual 34, 3) := by decide +kernel
theorem dL_isMessage_6 : decode cL_isMessage 6 = .ok (.iload_n 2, 1) := by decide +kernel
theorem dL_isMessage_7 : decode cL_isMessage 7 = .ok (.if_icmp .ne 39, 3) := by decide +kernel
theorem dL_isMessage_10 : decode cL_isMessage 10 = .ok (.aload_n 0, 1) := by decide +kernel
theorem dL_isMessage_11 : decode cL_isMessage 11 = .ok (.iload_n 1, 1) := by decide +kernel
theorem dL_isMessage_12 : decode cL_isMessage 12 = .ok (.iconst 1, 1) := by decide +kernel
theorem dL_isMessage_13 : decode cL_isMessage 13 = .ok (.invokevirtual 34, 3) := by decide +kernel
theorem dL_isMessage_16 : decode cL_isMessage 16 = .ok (.iload_n 3, 1) := by decide +kernel
theorem dL_isMessage_17 : decode cL_isMessage 17 = .ok (.if_icmp .ne 29, 3) := by decide +kernel
theorem dL_isMessage_20 : decode cL_isMessage 20 = .ok (.aload_n 0, 1) := by decide +kernel
theorem dL_isMessage_21 : decode cL_isMessage 21 = .ok (.iload_n 1, 1) := by decide +kernel
theorem dL_isMessage_22 : decode cL_isMessage 22 = .ok (.iconst 2, 1) := by decide +kernel
theorem dL_isMessage_23 : decode cL_isMessage 23 = .ok (.invokevirtual 34, 3) := by decide +kernel
theorem dL_isMessage_26 : decode cL_isMessage 26 = .ok (.iload 4, 2) := by decide +kernel
theorem dL_isMessage_28 : decode cL_isMessage 28 = .ok (.if_icmp .ne 18, 3) := by decide +kernel
theorem dL_isMessage_31 : decode cL_isMessage 31 = .ok (.aload_n 0, 1) := by decide +kernel
theorem dL_isMessage_32 : decode cL_isMessage 32 = .ok (.iload_n 1, 1) := by decide +kernel
theorem dL_isMessage_33 : decode cL_isMessage 33 = .ok (.iconst 3, 1) := by decide +kernel
theorem dL_isMessage_34 : decode cL_isMessage 34 = .ok (.invokevirtual 34, 3) := by decide +kernel
theorem dL_isMessage_37 : decode cL_isMessage 37 = .ok (.iload 5, 2) := by decide +kernel
theorem dL_isMessage_39 : decode cL_isMessage 39 = .ok (.if_icmp .ne 7, 3) := by decide +kernel
theorem dL_isMessage_42 : decode cL_isMessage 42 = .ok (.iconst 1, 1) := by decide +kernel
theorem dL_isMessage_43 : decode cL_isMessage 43 = .ok (.goto 4, 3) := by decide +kernel
theorem dL_isMessage_46 : decode cL_isMessage 46 = .ok (.iconst 0, 1) := by decide +kernel
theorem dL_isMessage_47 : decode cL_isMessage 47 = .ok (.ireturn, 1) := by decide +kernel
theorem dL_sentTo_0 : decode cL_sentTo 0 = .ok (.iload_n 1, 1) := by decide +kernel
theorem dL_sentTo_1 : decode cL_sentTo 1 = .ok (.istore 6, 2) := by decide +kernel
theorem dL_sentTo_3 : decode cL_sentTo 3 = .ok (.iconst 0, 1) := by decide +kernel
theorem dL_sentTo_4 : decode cL_sentTo 4 = .ok (.istore 7, 2) := by decide +kernel
theorem dL_sentTo_6 : decode cL_sentTo 6 = .ok (.iload 7, 2) := by decide +kernel
theorem dL_sentTo_8 : decode cL_sentTo 8 = .ok (.iconst 4, 1) := by decide +kernel
theorem dL_sentTo_9 : decode cL_sentTo 9 = .ok (.if_icmp .ge 46, 3) := by decide +kernel
theorem dL_sentTo_12 : decode cL_sentTo 12 = .ok (.iload 5, 2) := by decide +kernel
theorem dL_sentTo_14 : decode cL_sentTo 14 = .ok (.iload 7, 2) := by decide +kernel
theorem dL_sentTo_16 : decode cL_sentTo 16 = .ok (.invokestatic 18, 3) := by decide +kernel
theorem dL_sentTo_19 : decode cL_sentTo 19 = .ok (.ifCond .eq 30, 3) := by decide +kernel
theorem dL_sentTo_22 : decode cL_sentTo 22 = .ok (.iload 6, 2) := by decide +kernel
theorem dL_sentTo_24 : decode cL_sentTo 24 = .ok (.bipush 60, 2) := by decide +kernel
theorem dL_sentTo_26 : decode cL_sentTo 26 = .ok (.if_icmp .ge 20, 3) := by decide +kernel
theorem dL_sentTo_29 : decode cL_sentTo 29 = .ok (.aload_n 0, 1) := by decide +kernel
theorem dL_sentTo_30 : decode cL_sentTo 30 = .ok (.iload 6, 2) := by decide +kernel
theorem dL_sentTo_32 : decode cL_sentTo 32 = .ok (.iload_n 2, 1) := by decide +kernel
theorem dL_sentTo_33 : decode cL_sentTo 33 = .ok (.iload_n 3, 1) := by decide +kernel
theorem dL_sentTo_34 : decode cL_sentTo 34 = .ok (.iload 4, 2) := by decide +kernel
theorem dL_sentTo_36 : decode cL_sentTo 36 = .ok (.iload 7, 2) := by decide +kernel
theorem dL_sentTo_38 : decode cL_sentTo 38 = .ok (.invokestatic 43, 3) := by decide +kernel
theorem dL_sentTo_41 : decode cL_sentTo 41 = .ok (.ifCond .ne 5, 3) := by decide +kernel
theorem dL_sentTo_44 : decode cL_sentTo 44 = .ok (.iconst (-1), 1) := by decide +kernel
theorem dL_sentTo_45 : decode cL_sentTo 45 = .ok (.ireturn, 1) := by decide +kernel
theorem dL_sentTo_46 : decode cL_sentTo 46 = .ok (.iinc 6 1, 3) := by decide +kernel
theorem dL_sentTo_49 : decode cL_sentTo 49 = .ok (.iinc 7 1, 3) := by decide +kernel
theorem dL_sentTo_52 : decode cL_sentTo 52 = .ok (.goto (-46), 3) := by decide +kernel
theorem dL_sentTo_55 : decode cL_sentTo 55 = .ok (.iload 6, 2) := by decide +kernel
theorem dL_sentTo_57 : decode cL_sentTo 57 = .ok (.iload_n 1, 1) := by decide +kernel
theorem dL_sentTo_58 : decode cL_sentTo 58 = .ok (.isub, 1) := by decide +kernel
theorem dL_sentTo_59 : decode cL_sentTo 59 = .ok (.ireturn, 1) := by decide +kernel
theorem dL_isDelivered_0 : decode cL_isDelivered 0 = .ok (.aload_n 0, 1) := by decide +kernel
theorem dL_isDelivered_1 : decode cL_isDelivered 1 = .ok (.iconst 2, 1) := by decide +kernel
theorem dL_isDelivered_2 : decode cL_isDelivered 2 = .ok (.invokevirtual 8, 3) := by decide +kernel
theorem dL_isDelivered_5 : decode cL_isDelivered 5 = .ok (.istore_n 2, 1) := by decide +kernel
theorem dL_isDelivered_6 : decode cL_isDelivered 6 = .ok (.aload_n 0, 1) := by decide +kernel
theorem dL_isDelivered_7 : decode cL_isDelivered 7 = .ok (.iload_n 1, 1) := by decide +kernel
theorem dL_isDelivered_8 : decode cL_isDelivered 8 = .ok (.iconst 0, 1) := by decide +kernel
theorem dL_isDelivered_9 : decode cL_isDelivered 9 = .ok (.invokevirtual 34, 3) := by decide +kernel
theorem dL_isDelivered_12 : decode cL_isDelivered 12 = .ok (.istore_n 3, 1) := by decide +kernel
theorem dL_isDelivered_13 : decode cL_isDelivered 13 = .ok (.aload_n 0, 1) := by decide +kernel
theorem dL_isDelivered_14 : decode cL_isDelivered 14 = .ok (.iload_n 1, 1) := by decide +kernel
theorem dL_isDelivered_15 : decode cL_isDelivered 15 = .ok (.iconst 1, 1) := by decide +kernel
theorem dL_isDelivered_16 : decode cL_isDelivered 16 = .ok (.invokevirtual 34, 3) := by decide +kernel
theorem dL_isDelivered_19 : decode cL_isDelivered 19 = .ok (.istore 4, 2) := by decide +kernel
theorem dL_isDelivered_21 : decode cL_isDelivered 21 = .ok (.aload_n 0, 1) := by decide +kernel
theorem dL_isDelivered_22 : decode cL_isDelivered 22 = .ok (.iload_n 1, 1) := by decide +kernel
theorem dL_isDelivered_23 : decode cL_isDelivered 23 = .ok (.iconst 2, 1) := by decide +kernel
theorem dL_isDelivered_24 : decode cL_isDelivered 24 = .ok (.invokevirtual 34, 3) := by decide +kernel
theorem dL_isDelivered_27 : decode cL_isDelivered 27 = .ok (.istore 5, 2) := by decide +kernel
theorem dL_isDelivered_29 : decode cL_isDelivered 29 = .ok (.aload_n 0, 1) := by decide +kernel
theorem dL_isDelivered_30 : decode cL_isDelivered 30 = .ok (.iload_n 1, 1) := by decide +kernel
theorem dL_isDelivered_31 : decode cL_isDelivered 31 = .ok (.iconst 3, 1) := by decide +kernel
theorem dL_isDelivered_32 : decode cL_isDelivered 32 = .ok (.invokevirtual 34, 3) := by decide +kernel
theorem dL_isDelivered_35 : decode cL_isDelivered 35 = .ok (.istore 6, 2) := by decide +kernel
theorem dL_isDelivered_37 : decode cL_isDelivered 37 = .ok (.iload_n 1, 1) := by decide +kernel
theorem dL_isDelivered_38 : decode cL_isDelivered 38 = .ok (.iload_n 2, 1) := by decide +kernel
theorem dL_isDelivered_39 : decode cL_isDelivered 39 = .ok (.if_icmp .lt 23, 3) := by decide +kernel
theorem dL_isDelivered_42 : decode cL_isDelivered 42 = .ok (.aload_n 0, 1) := by decide +kernel
theorem dL_isDelivered_43 : decode cL_isDelivered 43 = .ok (.iload_n 1, 1) := by decide +kernel
theorem dL_isDelivered_44 : decode cL_isDelivered 44 = .ok (.invokevirtual 47, 3) := by decide +kernel
theorem dL_isDelivered_47 : decode cL_isDelivered 47 = .ok (.iconst (-1), 1) := by decide +kernel
theorem dL_isDelivered_48 : decode cL_isDelivered 48 = .ok (.if_icmp .ne 12, 3) := by decide +kernel
theorem dL_isDelivered_51 : decode cL_isDelivered 51 = .ok (.iload_n 3, 1) := by decide +kernel
theorem dL_isDelivered_52 : decode cL_isDelivered 52 = .ok (.iconst (-1), 1) := by decide +kernel
theorem dL_isDelivered_53 : decode cL_isDelivered 53 = .ok (.if_icmp .ne 7, 3) := by decide +kernel
theorem dL_isDelivered_56 : decode cL_isDelivered 56 = .ok (.iconst 1, 1) := by decide +kernel
theorem dL_isDelivered_57 : decode cL_isDelivered 57 = .ok (.goto 4, 3) := by decide +kernel
theorem dL_isDelivered_60 : decode cL_isDelivered 60 = .ok (.iconst 0, 1) := by decide +kernel
theorem dL_isDelivered_61 : decode cL_isDelivered 61 = .ok (.ireturn, 1) := by decide +kernel
theorem dL_isDelivered_62 : decode cL_isDelivered 62 = .ok (.aload_n 0, 1) := by decide +kernel
theorem dL_isDelivered_63 : decode cL_isDelivered 63 = .ok (.iload 6, 2) := by decide +kernel
theorem dL_isDelivered_65 : decode cL_isDelivered 65 = .ok (.iconst 0, 1) := by decide +kernel
theorem dL_isDelivered_66 : decode cL_isDelivered 66 = .ok (.invokevirtual 37, 3) := by decide +kernel
theorem dL_isDelivered_69 : decode cL_isDelivered 69 = .ok (.iconst 1, 1) := by decide +kernel
theorem dL_isDelivered_70 : decode cL_isDelivered 70 = .ok (.if_icmp .ne 7, 3) := by decide +kernel
theorem dL_isDelivered_73 : decode cL_isDelivered 73 = .ok (.iconst 1, 1) := by decide +kernel
theorem dL_isDelivered_74 : decode cL_isDelivered 74 = .ok (.goto 4, 3) := by decide +kernel
theorem dL_isDelivered_77 : decode cL_isDelivered 77 = .ok (.iconst 0, 1) := by decide +kernel
theorem dL_isDelivered_78 : decode cL_isDelivered 78 = .ok (.istore 7, 2) := by decide +kernel
theorem dL_isDelivered_80 : decode cL_isDelivered 80 = .ok (.aload_n 0, 1) := by decide +kernel
theorem dL_isDelivered_81 : decode cL_isDelivered 81 = .ok (.iload 4, 2) := by decide +kernel
theorem dL_isDelivered_83 : decode cL_isDelivered 83 = .ok (.iconst 0, 1) := by decide +kernel
theorem dL_isDelivered_84 : decode cL_isDelivered 84 = .ok (.invokevirtual 14, 3) := by decide +kernel
theorem dL_isDelivered_87 : decode cL_isDelivered 87 = .ok (.istore 8, 2) := by decide +kernel
theorem dL_isDelivered_89 : decode cL_isDelivered 89 = .ok (.aload_n 0, 1) := by decide +kernel
theorem dL_isDelivered_90 : decode cL_isDelivered 90 = .ok (.iload 4, 2) := by decide +kernel
theorem dL_isDelivered_92 : decode cL_isDelivered 92 = .ok (.iconst 1, 1) := by decide +kernel
theorem dL_isDelivered_93 : decode cL_isDelivered 93 = .ok (.invokevirtual 14, 3) := by decide +kernel
theorem dL_isDelivered_96 : decode cL_isDelivered 96 = .ok (.istore 9, 2) := by decide +kernel
theorem dL_isDelivered_98 : decode cL_isDelivered 98 = .ok (.aload_n 0, 1) := by decide +kernel
theorem dL_isDelivered_99 : decode cL_isDelivered 99 = .ok (.iload 4, 2) := by decide +kernel
theorem dL_isDelivered_101 : decode cL_isDelivered 101 = .ok (.iconst 3, 1) := by decide +kernel
theorem dL_isDelivered_102 : decode cL_isDelivered 102 = .ok (.invokevirtual 14, 3) := by decide +kernel
theorem dL_isDelivered_105 : decode cL_isDelivered 105 = .ok (.istore 10, 2) := by decide +kernel
theorem dL_isDelivered_107 : decode cL_isDelivered 107 = .ok (.aload_n 0, 1) := by decide +kernel
theorem dL_isDelivered_108 : decode cL_isDelivered 108 = .ok (.iload 4, 2) := by decide +kernel
theorem dL_isDelivered_110 : decode cL_isDelivered 110 = .ok (.iconst 4, 1) := by decide +kernel
theorem dL_isDelivered_111 : decode cL_isDelivered 111 = .ok (.invokevirtual 14, 3) := by decide +kernel
theorem dL_isDelivered_114 : decode cL_isDelivered 114 = .ok (.istore 11, 2) := by decide +kernel
theorem dL_isDelivered_116 : decode cL_isDelivered 116 = .ok (.aload_n 0, 1) := by decide +kernel
theorem dL_isDelivered_117 : decode cL_isDelivered 117 = .ok (.iconst 4, 1) := by decide +kernel
theorem dL_isDelivered_118 : decode cL_isDelivered 118 = .ok (.invokevirtual 8, 3) := by decide +kernel
theorem dL_isDelivered_121 : decode cL_isDelivered 121 = .ok (.istore 12, 2) := by decide +kernel
theorem dL_isDelivered_123 : decode cL_isDelivered 123 = .ok (.aload_n 0, 1) := by decide +kernel
theorem dL_isDelivered_124 : decode cL_isDelivered 124 = .ok (.iload 6, 2) := by decide +kernel
theorem dL_isDelivered_126 : decode cL_isDelivered 126 = .ok (.iconst 3, 1) := by decide +kernel
theorem dL_isDelivered_127 : decode cL_isDelivered 127 = .ok (.invokevirtual 37, 3) := by decide +kernel
theorem dL_isDelivered_130 : decode cL_isDelivered 130 = .ok (.istore 13, 2) := by decide +kernel
theorem dL_isDelivered_132 : decode cL_isDelivered 132 = .ok (.aload_n 0, 1) := by decide +kernel
theorem dL_isDelivered_133 : decode cL_isDelivered 133 = .ok (.iload 6, 2) := by decide +kernel
theorem dL_isDelivered_135 : decode cL_isDelivered 135 = .ok (.iconst 4, 1) := by decide +kernel
theorem dL_isDelivered_136 : decode cL_isDelivered 136 = .ok (.invokevirtual 37, 3) := by decide +kernel
theorem dL_isDelivered_139 : decode cL_isDelivered 139 = .ok (.istore 14, 2) := by decide +kernel
theorem dL_isDelivered_141 : decode cL_isDelivered 141 = .ok (.iload 6, 2) := by decide +kernel
theorem dL_isDelivered_143 : decode cL_isDelivered 143 = .ok (.iconst 4, 1) := by decide +kernel
theorem dL_isDelivered_144 : decode cL_isDelivered 144 = .ok (.if_icmp .ge 14, 3) := by decide +kernel
theorem dL_isDelivered_147 : decode cL_isDelivered 147 = .ok (.aload_n 0, 1) := by decide +kernel
theorem dL_isDelivered_148 : decode cL_isDelivered 148 = .ok (.iload 4, 2) := by decide +kernel
theorem dL_isDelivered_150 : decode cL_isDelivered 150 = .ok (.iload 6, 2) := by decide +kernel
theorem dL_isDelivered_152 : decode cL_isDelivered 152 = .ok (.invokevirtual 24, 3) := by decide +kernel
theorem dL_isDelivered_155 : decode cL_isDelivered 155 = .ok (.goto 4, 3) := by decide +kernel
theorem dL_isDelivered_158 : decode cL_isDelivered 158 = .ok (.iconst (-1), 1) := by decide +kernel
theorem dL_isDelivered_159 : decode cL_isDelivered 159 = .ok (.istore 15, 2) := by decide +kernel
theorem dL_isDelivered_161 : decode cL_isDelivered 161 = .ok (.iload 15, 2) := by decide +kernel
theorem dL_isDelivered_163 : decode cL_isDelivered 163 = .ok (.istore 16, 2) := by decide +kernel
theorem dL_isDelivered_165 : decode cL_isDelivered 165 = .ok (.iconst (-1), 1) := by decide +kernel
theorem dL_isDelivered_166 : decode cL_isDelivered 166 = .ok (.istore 17, 2) := by decide +kernel
theorem dL_isDelivered_168 : decode cL_isDelivered 168 = .ok (.iload 6, 2) := by decide +kernel
theorem dL_isDelivered_170 : decode cL_isDelivered 170 = .ok (.iconst 4, 1) := by decide +kernel
theorem dL_isDelivered_171 : decode cL_isDelivered 171 = .ok (.if_icmp .ne 10, 3) := by decide +kernel
theorem dL_isDelivered_174 : decode cL_isDelivered 174 = .ok (.iconst 1, 1) := by decide +kernel
theorem dL_isDelivered_175 : decode cL_isDelivered 175 = .ok (.iload 5, 2) := by decide +kernel
theorem dL_isDelivered_177 : decode cL_isDelivered 177 = .ok (.ishl, 1) := by decide +kernel
theorem dL_isDelivered_178 : decode cL_isDelivered 178 = .ok (.goto 4, 3) := by decide +kernel
theorem dL_isDelivered_181 : decode cL_isDelivered 181 = .ok (.iconst 0, 1) := by decide +kernel
theorem dL_isDelivered_182 : decode cL_isDelivered 182 = .ok (.istore 18, 2) := by decide +kernel
theorem dL_isDelivered_184 : decode cL_isDelivered 184 = .ok (.iload 9, 2) := by decide +kernel
theorem dL_isDelivered_186 : decode cL_isDelivered 186 = .ok (.iconst 1, 1) := by decide +kernel
theorem dL_isDelivered_187 : decode cL_isDelivered 187 = .ok (.if_icmp .eq 9, 3) := by decide +kernel
theorem dL_isDelivered_190 : decode cL_isDelivered 190 = .ok (.iload 9, 2) := by decide +kernel
theorem dL_isDelivered_192 : decode cL_isDelivered 192 = .ok (.iconst 3, 1) := by decide +kernel
theorem dL_isDelivered_193 : decode cL_isDelivered 193 = .ok (.if_icmp .ne 7, 3) := by decide +kernel
theorem dL_isDelivered_196 : decode cL_isDelivered 196 = .ok (.iconst 3, 1) := by decide +kernel
theorem dL_isDelivered_197 : decode cL_isDelivered 197 = .ok (.goto 14, 3) := by decide +kernel
theorem dL_isDelivered_200 : decode cL_isDelivered 200 = .ok (.iload 9, 2) := by decide +kernel
theorem dL_isDelivered_202 : decode cL_isDelivered 202 = .ok (.iconst 2, 1) := by decide +kernel
theorem dL_isDelivered_203 : decode cL_isDelivered 203 = .ok (.if_icmp .ne 7, 3) := by decide +kernel
theorem dL_isDelivered_206 : decode cL_isDelivered 206 = .ok (.iconst 4, 1) := by decide +kernel
theorem dL_isDelivered_207 : decode cL_isDelivered 207 = .ok (.goto 4, 3) := by decide +kernel
theorem dL_isDelivered_210 : decode cL_isDelivered 210 = .ok (.iconst (-1), 1) := by decide +kernel
theorem dL_isDelivered_211 : decode cL_isDelivered 211 = .ok (.istore 19, 2) := by decide +kernel
theorem dL_isDelivered_213 : decode cL_isDelivered 213 = .ok (.iload 7, 2) := by decide +kernel
theorem dL_isDelivered_215 : decode cL_isDelivered 215 = .ok (.ifCond .ne 146, 3) := by decide +kernel
theorem dL_isDelivered_218 : decode cL_isDelivered 218 = .ok (.iload 6, 2) := by decide +kernel
theorem dL_isDelivered_220 : decode cL_isDelivered 220 = .ok (.iconst 4, 1) := by decide +kernel
theorem dL_isDelivered_221 : decode cL_isDelivered 221 = .ok (.if_icmp .ge 140, 3) := by decide +kernel
theorem dL_isDelivered_224 : decode cL_isDelivered 224 = .ok (.iload_n 3, 1) := by decide +kernel
theorem dL_isDelivered_225 : decode cL_isDelivered 225 = .ok (.ifCond .ne 27, 3) := by decide +kernel
theorem dL_isDelivered_228 : decode cL_isDelivered 228 = .ok (.iload 15, 2) := by decide +kernel
theorem dL_isDelivered_230 : decode cL_isDelivered 230 = .ok (.ifCond .ne 22, 3) := by decide +kernel
theorem dL_isDelivered_233 : decode cL_isDelivered 233 = .ok (.aload_n 0, 1) := by decide +kernel
theorem dL_isDelivered_234 : decode cL_isDelivered 234 = .ok (.iload 6, 2) := by decide +kernel
theorem dL_isDelivered_236 : decode cL_isDelivered 236 = .ok (.iconst 1, 1) := by decide +kernel
theorem dL_isDelivered_237 : decode cL_isDelivered 237 = .ok (.invokevirtual 37, 3) := by decide +kernel
theorem dL_isDelivered_240 : decode cL_isDelivered 240 = .ok (.iconst 1, 1) := by decide +kernel
theorem dL_isDelivered_241 : decode cL_isDelivered 241 = .ok (.if_icmp .ne 7, 3) := by decide +kernel
theorem dL_isDelivered_244 : decode cL_isDelivered 244 = .ok (.iconst 1, 1) := by decide +kernel
theorem dL_isDelivered_245 : decode cL_isDelivered 245 = .ok (.goto 50, 3) := by decide +kernel
theorem dL_isDelivered_248 : decode cL_isDelivered 248 = .ok (.iconst 3, 1) := by decide +kernel
theorem dL_isDelivered_249 : decode cL_isDelivered 249 = .ok (.goto 46, 3) := by decide +kernel
theorem dL_isDelivered_252 : decode cL_isDelivered 252 = .ok (.iload_n 3, 1) := by decide +kernel
theorem dL_isDelivered_253 : decode cL_isDelivered 253 = .ok (.iconst 3, 1) := by decide +kernel
theorem dL_isDelivered_254 : decode cL_isDelivered 254 = .ok (.if_icmp .ne 13, 3) := by decide +kernel
theorem dL_isDelivered_257 : decode cL_isDelivered 257 = .ok (.iload 15, 2) := by decide +kernel
theorem dL_isDelivered_259 : decode cL_isDelivered 259 = .ok (.iconst 1, 1) := by decide +kernel
theorem dL_isDelivered_260 : decode cL_isDelivered 260 = .ok (.if_icmp .ne 7, 3) := by decide +kernel
theorem dL_isDelivered_263 : decode cL_isDelivered 263 = .ok (.iconst 2, 1) := by decide +kernel
theorem dL_isDelivered_264 : decode cL_isDelivered 264 = .ok (.goto 31, 3) := by decide +kernel
theorem dL_isDelivered_267 : decode cL_isDelivered 267 = .ok (.iload_n 3, 1) := by decide +kernel
theorem dL_isDelivered_268 : decode cL_isDelivered 268 = .ok (.iconst 4, 1) := by decide +kernel
theorem dL_isDelivered_269 : decode cL_isDelivered 269 = .ok (.if_icmp .ne 9, 3) := by decide +kernel
theorem dL_isDelivered_272 : decode cL_isDelivered 272 = .ok (.iload 15, 2) := by decide +kernel
theorem dL_isDelivered_274 : decode cL_isDelivered 274 = .ok (.iconst 2, 1) := by decide +kernel
theorem dL_isDelivered_275 : decode cL_isDelivered 275 = .ok (.if_icmp .lt 14, 3) := by decide +kernel
theorem dL_isDelivered_278 : decode cL_isDelivered 278 = .ok (.iload_n 3, 1) := by decide +kernel
theorem dL_isDelivered_279 : decode cL_isDelivered 279 = .ok (.bipush 6, 2) := by decide +kernel
theorem dL_isDelivered_281 : decode cL_isDelivered 281 = .ok (.if_icmp .ne 12, 3) := by decide +kernel
theorem dL_isDelivered_284 : decode cL_isDelivered 284 = .ok (.iload 15, 2) := by decide +kernel
theorem dL_isDelivered_286 : decode cL_isDelivered 286 = .ok (.ifCond .ne 7, 3) := by decide +kernel
theorem dL_isDelivered_289 : decode cL_isDelivered 289 = .ok (.iconst 3, 1) := by decide +kernel
theorem dL_isDelivered_290 : decode cL_isDelivered 290 = .ok (.goto 5, 3) := by decide +kernel
theorem dL_isDelivered_293 : decode cL_isDelivered 293 = .ok (.iload 15, 2) := by decide +kernel
theorem dL_isDelivered_295 : decode cL_isDelivered 295 = .ok (.istore 16, 2) := by decide +kernel
theorem dL_isDelivered_297 : decode cL_isDelivered 297 = .ok (.iload_n 3, 1) := by decide +kernel
theorem dL_isDelivered_298 : decode cL_isDelivered 298 = .ok (.ifCond .ne 23, 3) := by decide +kernel
theorem dL_isDelivered_301 : decode cL_isDelivered 301 = .ok (.iload 16, 2) := by decide +kernel
theorem dL_isDelivered_303 : decode cL_isDelivered 303 = .ok (.iconst 2, 1) := by decide +kernel
theorem dL_isDelivered_304 : decode cL_isDelivered 304 = .ok (.if_icmp .eq 17, 3) := by decide +kernel
theorem dL_isDelivered_307 : decode cL_isDelivered 307 = .ok (.iload 16, 2) := by decide +kernel
theorem dL_isDelivered_309 : decode cL_isDelivered 309 = .ok (.iconst 1, 1) := by decide +kernel
theorem dL_isDelivered_310 : decode cL_isDelivered 310 = .ok (.if_icmp .ne 7, 3) := by decide +kernel
theorem dL_isDelivered_313 : decode cL_isDelivered 313 = .ok (.iconst 1, 1) := by decide +kernel
theorem dL_isDelivered_314 : decode cL_isDelivered 314 = .ok (.goto 42, 3) := by decide +kernel
theorem dL_isDelivered_317 : decode cL_isDelivered 317 = .ok (.iconst 2, 1) := by decide +kernel
theorem dL_isDelivered_318 : decode cL_isDelivered 318 = .ok (.goto 38, 3) := by decide +kernel
theorem dL_isDelivered_321 : decode cL_isDelivered 321 = .ok (.iload_n 3, 1) := by decide +kernel
theorem dL_isDelivered_322 : decode cL_isDelivered 322 = .ok (.iconst 3, 1) := by decide +kernel
theorem dL_isDelivered_323 : decode cL_isDelivered 323 = .ok (.if_icmp .ne 13, 3) := by decide +kernel
theorem dL_isDelivered_326 : decode cL_isDelivered 326 = .ok (.iload 16, 2) := by decide +kernel
theorem dL_isDelivered_328 : decode cL_isDelivered 328 = .ok (.iconst 2, 1) := by decide +kernel
theorem dL_isDelivered_329 : decode cL_isDelivered 329 = .ok (.if_icmp .ne 7, 3) := by decide +kernel
theorem dL_isDelivered_332 : decode cL_isDelivered 332 = .ok (.iconst 5, 1) := by decide +kernel
theorem dL_isDelivered_333 : decode cL_isDelivered 333 = .ok (.goto 23, 3) := by decide +kernel
theorem dL_isDelivered_336 : decode cL_isDelivered 336 = .ok (.iload_n 3, 1) := by decide +kernel
theorem dL_isDelivered_337 : decode cL_isDelivered 337 = .ok (.bipush 6, 2) := by decide +kernel
theorem dL_isDelivered_339 : decode cL_isDelivered 339 = .ok (.if_icmp .ne 16, 3) := by decide +kernel
theorem dL_isDelivered_342 : decode cL_isDelivered 342 = .ok (.iload 16, 2) := by decide +kernel
theorem dL_isDelivered_344 : decode cL_isDelivered 344 = .ok (.iconst 1, 1) := by decide +kernel
theorem dL_isDelivered_345 : decode cL_isDelivered 345 = .ok (.if_icmp .le 10, 3) := by decide +kernel
theorem dL_isDelivered_348 : decode cL_isDelivered 348 = .ok (.iload 16, 2) := by decide +kernel
theorem dL_isDelivered_350 : decode cL_isDelivered 350 = .ok (.iconst 1, 1) := by decide +kernel
theorem dL_isDelivered_351 : decode cL_isDelivered 351 = .ok (.iadd, 1) := by decide +kernel
theorem dL_isDelivered_352 : decode cL_isDelivered 352 = .ok (.goto 4, 3) := by decide +kernel
theorem dL_isDelivered_355 : decode cL_isDelivered 355 = .ok (.iconst (-1), 1) := by decide +kernel
theorem dL_isDelivered_356 : decode cL_isDelivered 356 = .ok (.istore 17, 2) := by decide +kernel
theorem dL_isDelivered_358 : decode cL_isDelivered 358 = .ok (.goto 213, 3) := by decide +kernel
theorem dL_isDelivered_361 : decode cL_isDelivered 361 = .ok (.iload 7, 2) := by decide +kernel
theorem dL_isDelivered_363 : decode cL_isDelivered 363 = .ok (.ifCond .ne 97, 3) := by decide +kernel
theorem dL_isDelivered_366 : decode cL_isDelivered 366 = .ok (.iload_n 3, 1) := by decide +kernel
theorem dL_isDelivered_367 : decode cL_isDelivered 367 = .ok (.iconst 1, 1) := by decide +kernel
theorem dL_isDelivered_368 : decode cL_isDelivered 368 = .ok (.if_icmp .ne 92, 3) := by decide +kernel
theorem dL_isDelivered_371 : decode cL_isDelivered 371 = .ok (.iload 10, 2) := by decide +kernel
theorem dL_isDelivered_373 : decode cL_isDelivered 373 = .ok (.iload 9, 2) := by decide +kernel
theorem dL_isDelivered_375 : decode cL_isDelivered 375 = .ok (.ifCond .ne 10, 3) := by decide +kernel
theorem dL_isDelivered_378 : decode cL_isDelivered 378 = .ok (.iconst 1, 1) := by decide +kernel
theorem dL_isDelivered_379 : decode cL_isDelivered 379 = .ok (.iload 5, 2) := by decide +kernel
theorem dL_isDelivered_381 : decode cL_isDelivered 381 = .ok (.ishl, 1) := by decide +kernel
theorem dL_isDelivered_382 : decode cL_isDelivered 382 = .ok (.goto 4, 3) := by decide +kernel
theorem dL_isDelivered_385 : decode cL_isDelivered 385 = .ok (.iconst 0, 1) := by decide +kernel
theorem dL_isDelivered_386 : decode cL_isDelivered 386 = .ok (.ior, 1) := by decide +kernel
theorem dL_isDelivered_387 : decode cL_isDelivered 387 = .ok (.istore 10, 2) := by decide +kernel
theorem dL_isDelivered_389 : decode cL_isDelivered 389 = .ok (.iload 9, 2) := by decide +kernel
theorem dL_isDelivered_391 : decode cL_isDelivered 391 = .ok (.ifCond .ne 14, 3) := by decide +kernel
theorem dL_isDelivered_394 : decode cL_isDelivered 394 = .ok (.iload 10, 2) := by decide +kernel
theorem dL_isDelivered_396 : decode cL_isDelivered 396 = .ok (.iload 8, 2) := by decide +kernel
theorem dL_isDelivered_398 : decode cL_isDelivered 398 = .ok (.if_icmp .ne 7, 3) := by decide +kernel
theorem dL_isDelivered_401 : decode cL_isDelivered 401 = .ok (.iconst 1, 1) := by decide +kernel
theorem dL_isDelivered_402 : decode cL_isDelivered 402 = .ok (.goto 4, 3) := by decide +kernel
theorem dL_isDelivered_405 : decode cL_isDelivered 405 = .ok (.iconst 0, 1) := by decide +kernel
theorem dL_isDelivered_406 : decode cL_isDelivered 406 = .ok (.istore 20, 2) := by decide +kernel
theorem dL_isDelivered_408 : decode cL_isDelivered 408 = .ok (.iload 9, 2) := by decide +kernel
theorem dL_isDelivered_410 : decode cL_isDelivered 410 = .ok (.ifCond .eq 8, 3) := by decide +kernel
theorem dL_isDelivered_413 : decode cL_isDelivered 413 = .ok (.iload 19, 2) := by decide +kernel
theorem dL_isDelivered_415 : decode cL_isDelivered 415 = .ok (.goto 13, 3) := by decide +kernel
theorem dL_isDelivered_418 : decode cL_isDelivered 418 = .ok (.iload 20, 2) := by decide +kernel
theorem dL_isDelivered_420 : decode cL_isDelivered 420 = .ok (.ifCond .eq 7, 3) := by decide +kernel
theorem dL_isDelivered_423 : decode cL_isDelivered 423 = .ok (.iconst 3, 1) := by decide +kernel
theorem dL_isDelivered_424 : decode cL_isDelivered 424 = .ok (.goto 4, 3) := by decide +kernel
theorem dL_isDelivered_427 : decode cL_isDelivered 427 = .ok (.iconst (-1), 1) := by decide +kernel
theorem dL_isDelivered_428 : decode cL_isDelivered 428 = .ok (.istore 17, 2) := by decide +kernel
theorem dL_isDelivered_430 : decode cL_isDelivered 430 = .ok (.iload 20, 2) := by decide +kernel
theorem dL_isDelivered_432 : decode cL_isDelivered 432 = .ok (.ifCond .eq 8, 3) := by decide +kernel
theorem dL_isDelivered_435 : decode cL_isDelivered 435 = .ok (.iload 8, 2) := by decide +kernel
theorem dL_isDelivered_437 : decode cL_isDelivered 437 = .ok (.goto 5, 3) := by decide +kernel
theorem dL_isDelivered_440 : decode cL_isDelivered 440 = .ok (.iload 18, 2) := by decide +kernel
theorem dL_isDelivered_442 : decode cL_isDelivered 442 = .ok (.istore 18, 2) := by decide +kernel
theorem dL_isDelivered_444 : decode cL_isDelivered 444 = .ok (.iload 20, 2) := by decide +kernel
theorem dL_isDelivered_446 : decode cL_isDelivered 446 = .ok (.ifCond .eq 7, 3) := by decide +kernel
theorem dL_isDelivered_449 : decode cL_isDelivered 449 = .ok (.iconst 1, 1) := by decide +kernel
theorem dL_isDelivered_450 : decode cL_isDelivered 450 = .ok (.goto 5, 3) := by decide +kernel
theorem dL_isDelivered_453 : decode cL_isDelivered 453 = .ok (.iload 9, 2) := by decide +kernel
theorem dL_isDelivered_455 : decode cL_isDelivered 455 = .ok (.istore 9, 2) := by decide +kernel
theorem dL_isDelivered_457 : decode cL_isDelivered 457 = .ok (.goto 114, 3) := by decide +kernel
theorem dL_isDelivered_460 : decode cL_isDelivered 460 = .ok (.iload 7, 2) := by decide +kernel
theorem dL_isDelivered_462 : decode cL_isDelivered 462 = .ok (.ifCond .ne 47, 3) := by decide +kernel
theorem dL_isDelivered_465 : decode cL_isDelivered 465 = .ok (.iload_n 3, 1) := by decide +kernel
theorem dL_isDelivered_466 : decode cL_isDelivered 466 = .ok (.iconst 2, 1) := by decide +kernel
theorem dL_isDelivered_467 : decode cL_isDelivered 467 = .ok (.if_icmp .ne 42, 3) := by decide +kernel
theorem dL_isDelivered_470 : decode cL_isDelivered 470 = .ok (.iload 9, 2) := by decide +kernel
theorem dL_isDelivered_472 : decode cL_isDelivered 472 = .ok (.ifCond .ne 7, 3) := by decide +kernel
theorem dL_isDelivered_475 : decode cL_isDelivered 475 = .ok (.iconst 4, 1) := by decide +kernel
theorem dL_isDelivered_476 : decode cL_isDelivered 476 = .ok (.goto 4, 3) := by decide +kernel
theorem dL_isDelivered_479 : decode cL_isDelivered 479 = .ok (.iconst (-1), 1) := by decide +kernel
theorem dL_isDelivered_480 : decode cL_isDelivered 480 = .ok (.istore 17, 2) := by decide +kernel
theorem dL_isDelivered_482 : decode cL_isDelivered 482 = .ok (.iload 8, 2) := by decide +kernel
theorem dL_isDelivered_484 : decode cL_isDelivered 484 = .ok (.iconst 1, 1) := by decide +kernel
theorem dL_isDelivered_485 : decode cL_isDelivered 485 = .ok (.iload 5, 2) := by decide +kernel
theorem dL_isDelivered_487 : decode cL_isDelivered 487 = .ok (.ishl, 1) := by decide +kernel
theorem dL_isDelivered_488 : decode cL_isDelivered 488 = .ok (.iconst (-1), 1) := by decide +kernel
theorem dL_isDelivered_489 : decode cL_isDelivered 489 = .ok (.ixor, 1) := by decide +kernel
theorem dL_isDelivered_490 : decode cL_isDelivered 490 = .ok (.iand, 1) := by decide +kernel
theorem dL_isDelivered_491 : decode cL_isDelivered 491 = .ok (.istore 18, 2) := by decide +kernel
theorem dL_isDelivered_493 : decode cL_isDelivered 493 = .ok (.iload 9, 2) := by decide +kernel
theorem dL_isDelivered_495 : decode cL_isDelivered 495 = .ok (.ifCond .ne 7, 3) := by decide +kernel
theorem dL_isDelivered_498 : decode cL_isDelivered 498 = .ok (.iconst 2, 1) := by decide +kernel
theorem dL_isDelivered_499 : decode cL_isDelivered 499 = .ok (.goto 5, 3) := by decide +kernel
theorem dL_isDelivered_502 : decode cL_isDelivered 502 = .ok (.iload 9, 2) := by decide +kernel
theorem dL_isDelivered_504 : decode cL_isDelivered 504 = .ok (.istore 9, 2) := by decide +kernel
theorem dL_isDelivered_506 : decode cL_isDelivered 506 = .ok (.goto 65, 3) := by decide +kernel
theorem dL_isDelivered_509 : decode cL_isDelivered 509 = .ok (.iload 7, 2) := by decide +kernel
theorem dL_isDelivered_511 : decode cL_isDelivered 511 = .ok (.ifCond .ne 51, 3) := by decide +kernel
theorem dL_isDelivered_514 : decode cL_isDelivered 514 = .ok (.iload_n 3, 1) := by decide +kernel
theorem dL_isDelivered_515 : decode cL_isDelivered 515 = .ok (.iconst 5, 1) := by decide +kernel
theorem dL_isDelivered_516 : decode cL_isDelivered 516 = .ok (.if_icmp .ne 46, 3) := by decide +kernel
theorem dL_isDelivered_519 : decode cL_isDelivered 519 = .ok (.iload 11, 2) := by decide +kernel
theorem dL_isDelivered_521 : decode cL_isDelivered 521 = .ok (.iload 9, 2) := by decide +kernel
theorem dL_isDelivered_523 : decode cL_isDelivered 523 = .ok (.iconst 1, 1) := by decide +kernel
theorem dL_isDelivered_524 : decode cL_isDelivered 524 = .ok (.if_icmp .ne 10, 3) := by decide +kernel
theorem dL_isDelivered_527 : decode cL_isDelivered 527 = .ok (.iconst 1, 1) := by decide +kernel
theorem dL_isDelivered_528 : decode cL_isDelivered 528 = .ok (.iload 5, 2) := by decide +kernel
theorem dL_isDelivered_530 : decode cL_isDelivered 530 = .ok (.ishl, 1) := by decide +kernel
theorem dL_isDelivered_531 : decode cL_isDelivered 531 = .ok (.goto 4, 3) := by decide +kernel
theorem dL_isDelivered_534 : decode cL_isDelivered 534 = .ok (.iconst 0, 1) := by decide +kernel
theorem dL_isDelivered_535 : decode cL_isDelivered 535 = .ok (.ior, 1) := by decide +kernel
theorem dL_isDelivered_536 : decode cL_isDelivered 536 = .ok (.istore 11, 2) := by decide +kernel
theorem dL_isDelivered_538 : decode cL_isDelivered 538 = .ok (.iload 9, 2) := by decide +kernel
theorem dL_isDelivered_540 : decode cL_isDelivered 540 = .ok (.iconst 1, 1) := by decide +kernel
theorem dL_isDelivered_541 : decode cL_isDelivered 541 = .ok (.if_icmp .ne 14, 3) := by decide +kernel
theorem dL_isDelivered_544 : decode cL_isDelivered 544 = .ok (.iload 11, 2) := by decide +kernel
theorem dL_isDelivered_546 : decode cL_isDelivered 546 = .ok (.iload 8, 2) := by decide +kernel
theorem dL_isDelivered_548 : decode cL_isDelivered 548 = .ok (.if_icmp .ne 7, 3) := by decide +kernel
theorem dL_isDelivered_551 : decode cL_isDelivered 551 = .ok (.iconst 3, 1) := by decide +kernel
theorem dL_isDelivered_552 : decode cL_isDelivered 552 = .ok (.goto 5, 3) := by decide +kernel
theorem dL_isDelivered_555 : decode cL_isDelivered 555 = .ok (.iload 9, 2) := by decide +kernel
theorem dL_isDelivered_557 : decode cL_isDelivered 557 = .ok (.istore 9, 2) := by decide +kernel
theorem dL_isDelivered_559 : decode cL_isDelivered 559 = .ok (.goto 12, 3) := by decide +kernel
theorem dL_isDelivered_562 : decode cL_isDelivered 562 = .ok (.iload 7, 2) := by decide +kernel
theorem dL_isDelivered_564 : decode cL_isDelivered 564 = .ok (.ifCond .ne 7, 3) := by decide +kernel
theorem dL_isDelivered_567 : decode cL_isDelivered 567 = .ok (.iload 19, 2) := by decide +kernel
theorem dL_isDelivered_569 : decode cL_isDelivered 569 = .ok (.istore 17, 2) := by decide +kernel
theorem dL_isDelivered_571 : decode cL_isDelivered 571 = .ok (.aload_n 0, 1) := by decide +kernel
theorem dL_isDelivered_572 : decode cL_isDelivered 572 = .ok (.iload_n 1, 1) := by decide +kernel
theorem dL_isDelivered_573 : decode cL_isDelivered 573 = .ok (.invokevirtual 47, 3) := by decide +kernel
theorem dL_isDelivered_576 : decode cL_isDelivered 576 = .ok (.istore 20, 2) := by decide +kernel
theorem dL_isDelivered_578 : decode cL_isDelivered 578 = .ok (.iconst 0, 1) := by decide +kernel
theorem dL_isDelivered_579 : decode cL_isDelivered 579 = .ok (.istore 21, 2) := by decide +kernel
theorem dL_isDelivered_581 : decode cL_isDelivered 581 = .ok (.iload 17, 2) := by decide +kernel
theorem dL_isDelivered_583 : decode cL_isDelivered 583 = .ok (.ifCond .lt 28, 3) := by decide +kernel
theorem dL_isDelivered_586 : decode cL_isDelivered 586 = .ok (.iload 6, 2) := by decide +kernel
theorem dL_isDelivered_588 : decode cL_isDelivered 588 = .ok (.iconst 4, 1) := by decide +kernel
theorem dL_isDelivered_589 : decode cL_isDelivered 589 = .ok (.if_icmp .ne 22, 3) := by decide +kernel
theorem dL_isDelivered_592 : decode cL_isDelivered 592 = .ok (.aload_n 0, 1) := by decide +kernel
theorem dL_isDelivered_593 : decode cL_isDelivered 593 = .ok (.iload_n 2, 1) := by decide +kernel
theorem dL_isDelivered_594 : decode cL_isDelivered 594 = .ok (.iconst 1, 1) := by decide +kernel
theorem dL_isDelivered_595 : decode cL_isDelivered 595 = .ok (.isub, 1) := by decide +kernel
theorem dL_isDelivered_596 : decode cL_isDelivered 596 = .ok (.iload 17, 2) := by decide +kernel
theorem dL_isDelivered_598 : decode cL_isDelivered 598 = .ok (.iload 4, 2) := by decide +kernel
theorem dL_isDelivered_600 : decode cL_isDelivered 600 = .ok (.iconst 4, 1) := by decide +kernel
theorem dL_isDelivered_601 : decode cL_isDelivered 601 = .ok (.iload 18, 2) := by decide +kernel
theorem dL_isDelivered_603 : decode cL_isDelivered 603 = .ok (.invokestatic 50, 3) := by decide +kernel
theorem dL_isDelivered_606 : decode cL_isDelivered 606 = .ok (.istore 21, 2) := by decide +kernel
theorem dL_isDelivered_608 : decode cL_isDelivered 608 = .ok (.goto 47, 3) := by decide +kernel
theorem dL_isDelivered_611 : decode cL_isDelivered 611 = .ok (.iload 17, 2) := by decide +kernel
theorem dL_isDelivered_613 : decode cL_isDelivered 613 = .ok (.ifCond .lt 42, 3) := by decide +kernel
theorem dL_isDelivered_616 : decode cL_isDelivered 616 = .ok (.aload_n 0, 1) := by decide +kernel
theorem dL_isDelivered_617 : decode cL_isDelivered 617 = .ok (.iload_n 2, 1) := by decide +kernel
theorem dL_isDelivered_618 : decode cL_isDelivered 618 = .ok (.iconst 1, 1) := by decide +kernel
theorem dL_isDelivered_619 : decode cL_isDelivered 619 = .ok (.isub, 1) := by decide +kernel
theorem dL_isDelivered_620 : decode cL_isDelivered 620 = .ok (.iload 17, 2) := by decide +kernel
theorem dL_isDelivered_622 : decode cL_isDelivered 622 = .ok (.iload 4, 2) := by decide +kernel
theorem dL_isDelivered_624 : decode cL_isDelivered 624 = .ok (.iload 6, 2) := by decide +kernel
theorem dL_isDelivered_626 : decode cL_isDelivered 626 = .ok (.iload_n 3, 1) := by decide +kernel
theorem dL_isDelivered_627 : decode cL_isDelivered 627 = .ok (.bipush 6, 2) := by decide +kernel
theorem dL_isDelivered_629 : decode cL_isDelivered 629 = .ok (.if_icmp .ne 8, 3) := by decide +kernel
theorem dL_isDelivered_632 : decode cL_isDelivered 632 = .ok (.iload 5, 2) := by decide +kernel
theorem dL_isDelivered_634 : decode cL_isDelivered 634 = .ok (.goto 4, 3) := by decide +kernel
theorem dL_isDelivered_637 : decode cL_isDelivered 637 = .ok (.iconst 4, 1) := by decide +kernel
theorem dL_isDelivered_638 : decode cL_isDelivered 638 = .ok (.invokestatic 43, 3) := by decide +kernel
theorem dL_isDelivered_641 : decode cL_isDelivered 641 = .ok (.istore 22, 2) := by decide +kernel
theorem dL_isDelivered_643 : decode cL_isDelivered 643 = .ok (.iload 22, 2) := by decide +kernel
theorem dL_isDelivered_645 : decode cL_isDelivered 645 = .ok (.ifCond .eq 7, 3) := by decide +kernel
theorem dL_isDelivered_648 : decode cL_isDelivered 648 = .ok (.iconst 1, 1) := by decide +kernel
theorem dL_isDelivered_649 : decode cL_isDelivered 649 = .ok (.goto 4, 3) := by decide +kernel
theorem dL_isDelivered_652 : decode cL_isDelivered 652 = .ok (.iconst (-1), 1) := by decide +kernel
theorem dL_isDelivered_653 : decode cL_isDelivered 653 = .ok (.istore 21, 2) := by decide +kernel
theorem dL_isDelivered_655 : decode cL_isDelivered 655 = .ok (.iload 21, 2) := by decide +kernel
theorem dL_isDelivered_657 : decode cL_isDelivered 657 = .ok (.ifCond .ge 5, 3) := by decide +kernel
theorem dL_isDelivered_660 : decode cL_isDelivered 660 = .ok (.iconst 0, 1) := by decide +kernel
theorem dL_isDelivered_661 : decode cL_isDelivered 661 = .ok (.ireturn, 1) := by decide +kernel
theorem dL_isDelivered_662 : decode cL_isDelivered 662 = .ok (.iload_n 2, 1) := by decide +kernel
theorem dL_isDelivered_663 : decode cL_isDelivered 663 = .ok (.iconst 1, 1) := by decide +kernel
theorem dL_isDelivered_664 : decode cL_isDelivered 664 = .ok (.isub, 1) := by decide +kernel
theorem dL_isDelivered_665 : decode cL_isDelivered 665 = .ok (.iload 21, 2) := by decide +kernel
theorem dL_isDelivered_667 : decode cL_isDelivered 667 = .ok (.iadd, 1) := by decide +kernel
theorem dL_isDelivered_668 : decode cL_isDelivered 668 = .ok (.bipush 60, 2) := by decide +kernel
theorem dL_isDelivered_670 : decode cL_isDelivered 670 = .ok (.if_icmp .le 15, 3) := by decide +kernel
theorem dL_isDelivered_673 : decode cL_isDelivered 673 = .ok (.iload_n 2, 1) := by decide +kernel
theorem dL_isDelivered_674 : decode cL_isDelivered 674 = .ok (.iconst 1, 1) := by decide +kernel
theorem dL_isDelivered_675 : decode cL_isDelivered 675 = .ok (.isub, 1) := by decide +kernel
theorem dL_isDelivered_676 : decode cL_isDelivered 676 = .ok (.iload 21, 2) := by decide +kernel
theorem dL_isDelivered_678 : decode cL_isDelivered 678 = .ok (.iadd, 1) := by decide +kernel
theorem dL_isDelivered_679 : decode cL_isDelivered 679 = .ok (.bipush 60, 2) := by decide +kernel
theorem dL_isDelivered_681 : decode cL_isDelivered 681 = .ok (.isub, 1) := by decide +kernel
theorem dL_isDelivered_682 : decode cL_isDelivered 682 = .ok (.goto 4, 3) := by decide +kernel
theorem dL_isDelivered_685 : decode cL_isDelivered 685 = .ok (.iconst 0, 1) := by decide +kernel
theorem dL_isDelivered_686 : decode cL_isDelivered 686 = .ok (.istore 22, 2) := by decide +kernel
theorem dL_isDelivered_688 : decode cL_isDelivered 688 = .ok (.iload 6, 2) := by decide +kernel
theorem dL_isDelivered_690 : decode cL_isDelivered 690 = .ok (.iconst 4, 1) := by decide +kernel
theorem dL_isDelivered_691 : decode cL_isDelivered 691 = .ok (.if_icmp .ne 47, 3) := by decide +kernel
theorem dL_isDelivered_694 : decode cL_isDelivered 694 = .ok (.aload_n 0, 1) := by decide +kernel
theorem dL_isDelivered_695 : decode cL_isDelivered 695 = .ok (.iload 4, 2) := by decide +kernel
theorem dL_isDelivered_697 : decode cL_isDelivered 697 = .ok (.iconst 1, 1) := by decide +kernel
theorem dL_isDelivered_698 : decode cL_isDelivered 698 = .ok (.invokevirtual 14, 3) := by decide +kernel
theorem dL_isDelivered_701 : decode cL_isDelivered 701 = .ok (.iload 9, 2) := by decide +kernel
theorem dL_isDelivered_703 : decode cL_isDelivered 703 = .ok (.if_icmp .ne 31, 3) := by decide +kernel
theorem dL_isDelivered_706 : decode cL_isDelivered 706 = .ok (.aload_n 0, 1) := by decide +kernel
theorem dL_isDelivered_707 : decode cL_isDelivered 707 = .ok (.iload 4, 2) := by decide +kernel
theorem dL_isDelivered_709 : decode cL_isDelivered 709 = .ok (.iconst 3, 1) := by decide +kernel
theorem dL_isDelivered_710 : decode cL_isDelivered 710 = .ok (.invokevirtual 14, 3) := by decide +kernel
theorem dL_isDelivered_713 : decode cL_isDelivered 713 = .ok (.iload 10, 2) := by decide +kernel
theorem dL_isDelivered_715 : decode cL_isDelivered 715 = .ok (.if_icmp .ne 19, 3) := by decide +kernel
theorem dL_isDelivered_718 : decode cL_isDelivered 718 = .ok (.aload_n 0, 1) := by decide +kernel
theorem dL_isDelivered_719 : decode cL_isDelivered 719 = .ok (.iload 4, 2) := by decide +kernel
theorem dL_isDelivered_721 : decode cL_isDelivered 721 = .ok (.iconst 4, 1) := by decide +kernel
theorem dL_isDelivered_722 : decode cL_isDelivered 722 = .ok (.invokevirtual 14, 3) := by decide +kernel
theorem dL_isDelivered_725 : decode cL_isDelivered 725 = .ok (.iload 11, 2) := by decide +kernel
theorem dL_isDelivered_727 : decode cL_isDelivered 727 = .ok (.if_icmp .ne 7, 3) := by decide +kernel
theorem dL_isDelivered_730 : decode cL_isDelivered 730 = .ok (.iconst 1, 1) := by decide +kernel
theorem dL_isDelivered_731 : decode cL_isDelivered 731 = .ok (.goto 37, 3) := by decide +kernel
theorem dL_isDelivered_734 : decode cL_isDelivered 734 = .ok (.iconst 0, 1) := by decide +kernel
theorem dL_isDelivered_735 : decode cL_isDelivered 735 = .ok (.goto 33, 3) := by decide +kernel
theorem dL_isDelivered_738 : decode cL_isDelivered 738 = .ok (.aload_n 0, 1) := by decide +kernel
theorem dL_isDelivered_739 : decode cL_isDelivered 739 = .ok (.iload 4, 2) := by decide +kernel
theorem dL_isDelivered_741 : decode cL_isDelivered 741 = .ok (.iload 6, 2) := by decide +kernel
theorem dL_isDelivered_743 : decode cL_isDelivered 743 = .ok (.invokevirtual 24, 3) := by decide +kernel
theorem dL_isDelivered_746 : decode cL_isDelivered 746 = .ok (.iload 16, 2) := by decide +kernel
theorem dL_isDelivered_748 : decode cL_isDelivered 748 = .ok (.if_icmp .ne 19, 3) := by decide +kernel
theorem dL_isDelivered_751 : decode cL_isDelivered 751 = .ok (.aload_n 0, 1) := by decide +kernel
theorem dL_isDelivered_752 : decode cL_isDelivered 752 = .ok (.iload 4, 2) := by decide +kernel
theorem dL_isDelivered_754 : decode cL_isDelivered 754 = .ok (.iconst 1, 1) := by decide +kernel
theorem dL_isDelivered_755 : decode cL_isDelivered 755 = .ok (.invokevirtual 14, 3) := by decide +kernel
theorem dL_isDelivered_758 : decode cL_isDelivered 758 = .ok (.iload 9, 2) := by decide +kernel
theorem dL_isDelivered_760 : decode cL_isDelivered 760 = .ok (.if_icmp .ne 7, 3) := by decide +kernel
theorem dL_isDelivered_763 : decode cL_isDelivered 763 = .ok (.iconst 1, 1) := by decide +kernel
theorem dL_isDelivered_764 : decode cL_isDelivered 764 = .ok (.goto 4, 3) := by decide +kernel
theorem dL_isDelivered_767 : decode cL_isDelivered 767 = .ok (.iconst 0, 1) := by decide +kernel
theorem dL_isDelivered_768 : decode cL_isDelivered 768 = .ok (.istore 23, 2) := by decide +kernel
theorem dL_isDelivered_770 : decode cL_isDelivered 770 = .ok (.iload 23, 2) := by decide +kernel
theorem dL_isDelivered_772 : decode cL_isDelivered 772 = .ok (.ifCond .eq 93, 3) := by decide +kernel
theorem dL_isDelivered_775 : decode cL_isDelivered 775 = .ok (.iload 20, 2) := by decide +kernel
theorem dL_isDelivered_777 : decode cL_isDelivered 777 = .ok (.iload_n 2, 1) := by decide +kernel
theorem dL_isDelivered_778 : decode cL_isDelivered 778 = .ok (.iconst 1, 1) := by decide +kernel
theorem dL_isDelivered_779 : decode cL_isDelivered 779 = .ok (.isub, 1) := by decide +kernel
theorem dL_isDelivered_780 : decode cL_isDelivered 780 = .ok (.iload 21, 2) := by decide +kernel
theorem dL_isDelivered_782 : decode cL_isDelivered 782 = .ok (.iadd, 1) := by decide +kernel
theorem dL_isDelivered_783 : decode cL_isDelivered 783 = .ok (.iload 22, 2) := by decide +kernel
theorem dL_isDelivered_785 : decode cL_isDelivered 785 = .ok (.isub, 1) := by decide +kernel
theorem dL_isDelivered_786 : decode cL_isDelivered 786 = .ok (.if_icmp .ne 79, 3) := by decide +kernel
theorem dL_isDelivered_789 : decode cL_isDelivered 789 = .ok (.aload_n 0, 1) := by decide +kernel
theorem dL_isDelivered_790 : decode cL_isDelivered 790 = .ok (.iconst 2, 1) := by decide +kernel
theorem dL_isDelivered_791 : decode cL_isDelivered 791 = .ok (.invokevirtual 8, 3) := by decide +kernel
theorem dL_isDelivered_794 : decode cL_isDelivered 794 = .ok (.iload 20, 2) := by decide +kernel
theorem dL_isDelivered_796 : decode cL_isDelivered 796 = .ok (.if_icmp .ne 69, 3) := by decide +kernel
theorem dL_isDelivered_799 : decode cL_isDelivered 799 = .ok (.aload_n 0, 1) := by decide +kernel
theorem dL_isDelivered_800 : decode cL_isDelivered 800 = .ok (.iload 6, 2) := by decide +kernel
theorem dL_isDelivered_802 : decode cL_isDelivered 802 = .ok (.iconst 3, 1) := by decide +kernel
theorem dL_isDelivered_803 : decode cL_isDelivered 803 = .ok (.invokevirtual 37, 3) := by decide +kernel
theorem dL_isDelivered_806 : decode cL_isDelivered 806 = .ok (.iload 13, 2) := by decide +kernel
theorem dL_isDelivered_808 : decode cL_isDelivered 808 = .ok (.iload 7, 2) := by decide +kernel
theorem dL_isDelivered_810 : decode cL_isDelivered 810 = .ok (.ifCond .eq 7, 3) := by decide +kernel
theorem dL_isDelivered_813 : decode cL_isDelivered 813 = .ok (.iconst 0, 1) := by decide +kernel
theorem dL_isDelivered_814 : decode cL_isDelivered 814 = .ok (.goto 4, 3) := by decide +kernel
theorem dL_isDelivered_817 : decode cL_isDelivered 817 = .ok (.iconst 1, 1) := by decide +kernel
theorem dL_isDelivered_818 : decode cL_isDelivered 818 = .ok (.iadd, 1) := by decide +kernel
theorem dL_isDelivered_819 : decode cL_isDelivered 819 = .ok (.if_icmp .ne 46, 3) := by decide +kernel
theorem dL_isDelivered_822 : decode cL_isDelivered 822 = .ok (.aload_n 0, 1) := by decide +kernel
theorem dL_isDelivered_823 : decode cL_isDelivered 823 = .ok (.iload 6, 2) := by decide +kernel
theorem dL_isDelivered_825 : decode cL_isDelivered 825 = .ok (.iconst 4, 1) := by decide +kernel
theorem dL_isDelivered_826 : decode cL_isDelivered 826 = .ok (.invokevirtual 37, 3) := by decide +kernel
theorem dL_isDelivered_829 : decode cL_isDelivered 829 = .ok (.iload 14, 2) := by decide +kernel
theorem dL_isDelivered_831 : decode cL_isDelivered 831 = .ok (.iload 21, 2) := by decide +kernel
theorem dL_isDelivered_833 : decode cL_isDelivered 833 = .ok (.iadd, 1) := by decide +kernel
theorem dL_isDelivered_834 : decode cL_isDelivered 834 = .ok (.if_icmp .ne 31, 3) := by decide +kernel
theorem dL_isDelivered_837 : decode cL_isDelivered 837 = .ok (.aload_n 0, 1) := by decide +kernel
theorem dL_isDelivered_838 : decode cL_isDelivered 838 = .ok (.iconst 4, 1) := by decide +kernel
theorem dL_isDelivered_839 : decode cL_isDelivered 839 = .ok (.invokevirtual 8, 3) := by decide +kernel
theorem dL_isDelivered_842 : decode cL_isDelivered 842 = .ok (.iload 12, 2) := by decide +kernel
theorem dL_isDelivered_844 : decode cL_isDelivered 844 = .ok (.iload 7, 2) := by decide +kernel
theorem dL_isDelivered_846 : decode cL_isDelivered 846 = .ok (.ifCond .eq 7, 3) := by decide +kernel
theorem dL_isDelivered_849 : decode cL_isDelivered 849 = .ok (.iconst 1, 1) := by decide +kernel
theorem dL_isDelivered_850 : decode cL_isDelivered 850 = .ok (.goto 4, 3) := by decide +kernel
theorem dL_isDelivered_853 : decode cL_isDelivered 853 = .ok (.iconst 0, 1) := by decide +kernel
theorem dL_isDelivered_854 : decode cL_isDelivered 854 = .ok (.iadd, 1) := by decide +kernel
theorem dL_isDelivered_855 : decode cL_isDelivered 855 = .ok (.iload 22, 2) := by decide +kernel
theorem dL_isDelivered_857 : decode cL_isDelivered 857 = .ok (.iadd, 1) := by decide +kernel
theorem dL_isDelivered_858 : decode cL_isDelivered 858 = .ok (.if_icmp .ne 7, 3) := by decide +kernel
theorem dL_isDelivered_861 : decode cL_isDelivered 861 = .ok (.iconst 1, 1) := by decide +kernel
theorem dL_isDelivered_862 : decode cL_isDelivered 862 = .ok (.goto 4, 3) := by decide +kernel
theorem dL_isDelivered_865 : decode cL_isDelivered 865 = .ok (.iconst 0, 1) := by decide +kernel
theorem dL_isDelivered_866 : decode cL_isDelivered 866 = .ok (.ireturn, 1) := by decide +kernel
theorem dL_isOpened_0 : decode cL_isOpened 0 = .ok (.aload_n 0, 1) := by decide +kernel
theorem dL_isOpened_1 : decode cL_isOpened 1 = .ok (.iconst 1, 1) := by decide +kernel
theorem dL_isOpened_2 : decode cL_isOpened 2 = .ok (.invokevirtual 8, 3) := by decide +kernel
theorem dL_isOpened_5 : decode cL_isOpened 5 = .ok (.istore_n 2, 1) := by decide +kernel
theorem dL_isOpened_6 : decode cL_isOpened 6 = .ok (.aload_n 0, 1) := by decide +kernel
theorem dL_isOpened_7 : decode cL_isOpened 7 = .ok (.iconst 2, 1) := by decide +kernel
theorem dL_isOpened_8 : decode cL_isOpened 8 = .ok (.invokevirtual 8, 3) := by decide +kernel
theorem dL_isOpened_11 : decode cL_isOpened 11 = .ok (.istore_n 3, 1) := by decide +kernel
theorem dL_isOpened_12 : decode cL_isOpened 12 = .ok (.aload_n 0, 1) := by decide +kernel
theorem dL_isOpened_13 : decode cL_isOpened 13 = .ok (.iload_n 1, 1) := by decide +kernel
theorem dL_isOpened_14 : decode cL_isOpened 14 = .ok (.invokevirtual 54, 3) := by decide +kernel
theorem dL_isOpened_17 : decode cL_isOpened 17 = .ok (.istore 4, 2) := by decide +kernel
theorem dL_isOpened_19 : decode cL_isOpened 19 = .ok (.iload_n 2, 1) := by decide +kernel
theorem dL_isOpened_20 : decode cL_isOpened 20 = .ok (.bipush 8, 2) := by decide +kernel
theorem dL_isOpened_22 : decode cL_isOpened 22 = .ok (.if_icmp .eq 13, 3) := by decide +kernel
theorem dL_isOpened_25 : decode cL_isOpened 25 = .ok (.aload_n 0, 1) := by decide +kernel
theorem dL_isOpened_26 : decode cL_isOpened 26 = .ok (.iconst 4, 1) := by decide +kernel
theorem dL_isOpened_27 : decode cL_isOpened 27 = .ok (.iconst 0, 1) := by decide +kernel
theorem dL_isOpened_28 : decode cL_isOpened 28 = .ok (.invokevirtual 37, 3) := by decide +kernel
theorem dL_isOpened_31 : decode cL_isOpened 31 = .ok (.iconst 1, 1) := by decide +kernel
theorem dL_isOpened_32 : decode cL_isOpened 32 = .ok (.if_icmp .ne 45, 3) := by decide +kernel
theorem dL_isOpened_35 : decode cL_isOpened 35 = .ok (.iload 4, 2) := by decide +kernel
theorem dL_isOpened_37 : decode cL_isOpened 37 = .ok (.iload_n 2, 1) := by decide +kernel
theorem dL_isOpened_38 : decode cL_isOpened 38 = .ok (.bipush 8, 2) := by decide +kernel
theorem dL_isOpened_40 : decode cL_isOpened 40 = .ok (.if_icmp .ne 8, 3) := by decide +kernel
theorem dL_isOpened_43 : decode cL_isOpened 43 = .ok (.bipush (-4), 2) := by decide +kernel
theorem dL_isOpened_45 : decode cL_isOpened 45 = .ok (.goto 5, 3) := by decide +kernel
theorem dL_isOpened_48 : decode cL_isOpened 48 = .ok (.bipush (-5), 2) := by decide +kernel
theorem dL_isOpened_50 : decode cL_isOpened 50 = .ok (.if_icmp .ne 25, 3) := by decide +kernel
theorem dL_isOpened_53 : decode cL_isOpened 53 = .ok (.aload_n 0, 1) := by decide +kernel
theorem dL_isOpened_54 : decode cL_isOpened 54 = .ok (.iconst 1, 1) := by decide +kernel
theorem dL_isOpened_55 : decode cL_isOpened 55 = .ok (.invokevirtual 8, 3) := by decide +kernel
theorem dL_isOpened_58 : decode cL_isOpened 58 = .ok (.iload_n 2, 1) := by decide +kernel
theorem dL_isOpened_59 : decode cL_isOpened 59 = .ok (.if_icmp .ne 16, 3) := by decide +kernel
theorem dL_isOpened_62 : decode cL_isOpened 62 = .ok (.aload_n 0, 1) := by decide +kernel
theorem dL_isOpened_63 : decode cL_isOpened 63 = .ok (.iconst 2, 1) := by decide +kernel
theorem dL_isOpened_64 : decode cL_isOpened 64 = .ok (.invokevirtual 8, 3) := by decide +kernel
theorem dL_isOpened_67 : decode cL_isOpened 67 = .ok (.iload_n 3, 1) := by decide +kernel
theorem dL_isOpened_68 : decode cL_isOpened 68 = .ok (.if_icmp .ne 7, 3) := by decide +kernel
theorem dL_isOpened_71 : decode cL_isOpened 71 = .ok (.iconst 1, 1) := by decide +kernel
theorem dL_isOpened_72 : decode cL_isOpened 72 = .ok (.goto 4, 3) := by decide +kernel
theorem dL_isOpened_75 : decode cL_isOpened 75 = .ok (.iconst 0, 1) := by decide +kernel
theorem dL_isOpened_76 : decode cL_isOpened 76 = .ok (.ireturn, 1) := by decide +kernel
theorem dL_isOpened_77 : decode cL_isOpened 77 = .ok (.iload 4, 2) := by decide +kernel
theorem dL_isOpened_79 : decode cL_isOpened 79 = .ok (.iload_n 2, 1) := by decide +kernel
theorem dL_isOpened_80 : decode cL_isOpened 80 = .ok (.if_icmp .ne 62, 3) := by decide +kernel
theorem dL_isOpened_83 : decode cL_isOpened 83 = .ok (.aload_n 0, 1) := by decide +kernel
theorem dL_isOpened_84 : decode cL_isOpened 84 = .ok (.iload_n 2, 1) := by decide +kernel
theorem dL_isOpened_85 : decode cL_isOpened 85 = .ok (.iconst 0, 1) := by decide +kernel
theorem dL_isOpened_86 : decode cL_isOpened 86 = .ok (.invokevirtual 14, 3) := by decide +kernel
theorem dL_isOpened_89 : decode cL_isOpened 89 = .ok (.iload_n 1, 1) := by decide +kernel
theorem dL_isOpened_90 : decode cL_isOpened 90 = .ok (.if_icmp .ne 52, 3) := by decide +kernel
theorem dL_isOpened_93 : decode cL_isOpened 93 = .ok (.aload_n 0, 1) := by decide +kernel
theorem dL_isOpened_94 : decode cL_isOpened 94 = .ok (.iload_n 2, 1) := by decide +kernel
theorem dL_isOpened_95 : decode cL_isOpened 95 = .ok (.iconst 1, 1) := by decide +kernel
theorem dL_isOpened_96 : decode cL_isOpened 96 = .ok (.invokevirtual 14, 3) := by decide +kernel
theorem dL_isOpened_99 : decode cL_isOpened 99 = .ok (.ifCond .ne 43, 3) := by decide +kernel
theorem dL_isOpened_102 : decode cL_isOpened 102 = .ok (.aload_n 0, 1) := by decide +kernel
theorem dL_isOpened_103 : decode cL_isOpened 103 = .ok (.iload_n 2, 1) := by decide +kernel
theorem dL_isOpened_104 : decode cL_isOpened 104 = .ok (.iconst 2, 1) := by decide +kernel
theorem dL_isOpened_105 : decode cL_isOpened 105 = .ok (.invokevirtual 14, 3) := by decide +kernel
theorem dL_isOpened_108 : decode cL_isOpened 108 = .ok (.aload_n 0, 1) := by decide +kernel
theorem dL_isOpened_109 : decode cL_isOpened 109 = .ok (.iconst 0, 1) := by decide +kernel
theorem dL_isOpened_110 : decode cL_isOpened 110 = .ok (.invokevirtual 8, 3) := by decide +kernel
theorem dL_isOpened_113 : decode cL_isOpened 113 = .ok (.if_icmp .ne 29, 3) := by decide +kernel
theorem dL_isOpened_116 : decode cL_isOpened 116 = .ok (.aload_n 0, 1) := by decide +kernel
theorem dL_isOpened_117 : decode cL_isOpened 117 = .ok (.iload_n 2, 1) := by decide +kernel
theorem dL_isOpened_118 : decode cL_isOpened 118 = .ok (.iconst 5, 1) := by decide +kernel
theorem dL_isOpened_119 : decode cL_isOpened 119 = .ok (.invokevirtual 14, 3) := by decide +kernel
theorem dL_isOpened_122 : decode cL_isOpened 122 = .ok (.iload_n 1, 1) := by decide +kernel
theorem dL_isOpened_123 : decode cL_isOpened 123 = .ok (.if_icmp .ne 19, 3) := by decide +kernel
theorem dL_isOpened_126 : decode cL_isOpened 126 = .ok (.aload_n 0, 1) := by decide +kernel
theorem dL_isOpened_127 : decode cL_isOpened 127 = .ok (.iload_n 3, 1) := by decide +kernel
theorem dL_isOpened_128 : decode cL_isOpened 128 = .ok (.iconst 0, 1) := by decide +kernel
theorem dL_isOpened_129 : decode cL_isOpened 129 = .ok (.iload_n 2, 1) := by decide +kernel
theorem dL_isOpened_130 : decode cL_isOpened 130 = .ok (.iconst 4, 1) := by decide +kernel
theorem dL_isOpened_131 : decode cL_isOpened 131 = .ok (.iload_n 1, 1) := by decide +kernel
theorem dL_isOpened_132 : decode cL_isOpened 132 = .ok (.invokestatic 50, 3) := by decide +kernel
theorem dL_isOpened_135 : decode cL_isOpened 135 = .ok (.ifCond .le 7, 3) := by decide +kernel
theorem dL_isOpened_138 : decode cL_isOpened 138 = .ok (.iconst 1, 1) := by decide +kernel
theorem dL_isOpened_139 : decode cL_isOpened 139 = .ok (.goto 4, 3) := by decide +kernel
theorem dL_isOpened_142 : decode cL_isOpened 142 = .ok (.iconst 0, 1) := by decide +kernel
theorem dL_isOpened_143 : decode cL_isOpened 143 = .ok (.ireturn, 1) := by decide +kernel
theorem dL_isFallen_0 : decode cL_isFallen 0 = .ok (.aload_n 0, 1) := by decide +kernel
theorem dL_isFallen_1 : decode cL_isFallen 1 = .ok (.iload_n 1, 1) := by decide +kernel
theorem dL_isFallen_2 : decode cL_isFallen 2 = .ok (.iconst 0, 1) := by decide +kernel
theorem dL_isFallen_3 : decode cL_isFallen 3 = .ok (.invokevirtual 37, 3) := by decide +kernel
theorem dL_isFallen_6 : decode cL_isFallen 6 = .ok (.iconst 1, 1) := by decide +kernel
theorem dL_isFallen_7 : decode cL_isFallen 7 = .ok (.if_icmp .ne 7, 3) := by decide +kernel
theorem dL_isFallen_10 : decode cL_isFallen 10 = .ok (.iconst 1, 1) := by decide +kernel
theorem dL_isFallen_11 : decode cL_isFallen 11 = .ok (.goto 4, 3) := by decide +kernel
theorem dL_isFallen_14 : decode cL_isFallen 14 = .ok (.iconst 0, 1) := by decide +kernel
theorem dL_isFallen_15 : decode cL_isFallen 15 = .ok (.istore_n 2, 1) := by decide +kernel
theorem dL_isFallen_16 : decode cL_isFallen 16 = .ok (.bipush 8, 2) := by decide +kernel
theorem dL_isFallen_18 : decode cL_isFallen 18 = .ok (.newarray .int, 2) := by decide +kernel
theorem dL_isFallen_20 : decode cL_isFallen 20 = .ok (.astore_n 3, 1) := by decide +kernel
theorem dL_isFallen_21 : decode cL_isFallen 21 = .ok (.bipush 8, 2) := by decide +kernel
theorem dL_isFallen_23 : decode cL_isFallen 23 = .ok (.newarray .int, 2) := by decide +kernel
theorem dL_isFallen_25 : decode cL_isFallen 25 = .ok (.astore 4, 2) := by decide +kernel
theorem dL_isFallen_27 : decode cL_isFallen 27 = .ok (.bipush 8, 2) := by decide +kernel
theorem dL_isFallen_29 : decode cL_isFallen 29 = .ok (.newarray .int, 2) := by decide +kernel
theorem dL_isFallen_31 : decode cL_isFallen 31 = .ok (.astore 5, 2) := by decide +kernel
theorem dL_isFallen_33 : decode cL_isFallen 33 = .ok (.iconst 0, 1) := by decide +kernel
theorem dL_isFallen_34 : decode cL_isFallen 34 = .ok (.istore 6, 2) := by decide +kernel
theorem dL_isFallen_36 : decode cL_isFallen 36 = .ok (.iload 6, 2) := by decide +kernel
theorem dL_isFallen_38 : decode cL_isFallen 38 = .ok (.aload_n 0, 1) := by decide +kernel
theorem dL_isFallen_39 : decode cL_isFallen 39 = .ok (.iconst 1, 1) := by decide +kernel
theorem dL_isFallen_40 : decode cL_isFallen 40 = .ok (.invokevirtual 8, 3) := by decide +kernel
theorem dL_isFallen_43 : decode cL_isFallen 43 = .ok (.if_icmp .ge 44, 3) := by decide +kernel
theorem dL_isFallen_46 : decode cL_isFallen 46 = .ok (.aload_n 3, 1) := by decide +kernel
theorem dL_isFallen_47 : decode cL_isFallen 47 = .ok (.iload 6, 2) := by decide +kernel
theorem dL_isFallen_49 : decode cL_isFallen 49 = .ok (.aload_n 0, 1) := by decide +kernel
theorem dL_isFallen_50 : decode cL_isFallen 50 = .ok (.iload 6, 2) := by decide +kernel
theorem dL_isFallen_52 : decode cL_isFallen 52 = .ok (.iconst 1, 1) := by decide +kernel
theorem dL_isFallen_53 : decode cL_isFallen 53 = .ok (.invokevirtual 14, 3) := by decide +kernel
theorem dL_isFallen_56 : decode cL_isFallen 56 = .ok (.iastore, 1) := by decide +kernel
theorem dL_isFallen_57 : decode cL_isFallen 57 = .ok (.aload 4, 2) := by decide +kernel
theorem dL_isFallen_59 : decode cL_isFallen 59 = .ok (.iload 6, 2) := by decide +kernel
theorem dL_isFallen_61 : decode cL_isFallen 61 = .ok (.aload_n 0, 1) := by decide +kernel
theorem dL_isFallen_62 : decode cL_isFallen 62 = .ok (.iload 6, 2) := by decide +kernel
theorem dL_isFallen_64 : decode cL_isFallen 64 = .ok (.iconst 4, 1) := by decide +kernel
theorem dL_isFallen_65 : decode cL_isFallen 65 = .ok (.invokevirtual 14, 3) := by decide +kernel
theorem dL_isFallen_68 : decode cL_isFallen 68 = .ok (.iastore, 1) := by decide +kernel
theorem dL_isFallen_69 : decode cL_isFallen 69 = .ok (.aload 5, 2) := by decide +kernel
theorem dL_isFallen_71 : decode cL_isFallen 71 = .ok (.iload 6, 2) := by decide +kernel
theorem dL_isFallen_73 : decode cL_isFallen 73 = .ok (.aload_n 0, 1) := by decide +kernel
theorem dL_isFallen_74 : decode cL_isFallen 74 = .ok (.iload 6, 2) := by decide +kernel
theorem dL_isFallen_76 : decode cL_isFallen 76 = .ok (.iconst 5, 1) := by decide +kernel
theorem dL_isFallen_77 : decode cL_isFallen 77 = .ok (.invokevirtual 14, 3) := by decide +kernel
theorem dL_isFallen_80 : decode cL_isFallen 80 = .ok (.iastore, 1) := by decide +kernel
theorem dL_isFallen_81 : decode cL_isFallen 81 = .ok (.iinc 6 1, 3) := by decide +kernel
theorem dL_isFallen_84 : decode cL_isFallen 84 = .ok (.goto (-48), 3) := by decide +kernel
theorem dL_isFallen_87 : decode cL_isFallen 87 = .ok (.aload_n 0, 1) := by decide +kernel
theorem dL_isFallen_88 : decode cL_isFallen 88 = .ok (.iconst 2, 1) := by decide +kernel
theorem dL_isFallen_89 : decode cL_isFallen 89 = .ok (.invokevirtual 8, 3) := by decide +kernel
theorem dL_isFallen_92 : decode cL_isFallen 92 = .ok (.istore 6, 2) := by decide +kernel
theorem dL_isFallen_94 : decode cL_isFallen 94 = .ok (.aload_n 0, 1) := by decide +kernel
theorem dL_isFallen_95 : decode cL_isFallen 95 = .ok (.iload_n 1, 1) := by decide +kernel
theorem dL_isFallen_96 : decode cL_isFallen 96 = .ok (.invokevirtual 57, 3) := by decide +kernel
theorem dL_isFallen_99 : decode cL_isFallen 99 = .ok (.istore 7, 2) := by decide +kernel
theorem dL_isFallen_101 : decode cL_isFallen 101 = .ok (.iload_n 2, 1) := by decide +kernel
theorem dL_isFallen_102 : decode cL_isFallen 102 = .ok (.ifCond .eq 16, 3) := by decide +kernel
theorem dL_isFallen_105 : decode cL_isFallen 105 = .ok (.iload 7, 2) := by decide +kernel
theorem dL_isFallen_107 : decode cL_isFallen 107 = .ok (.bipush (-5), 2) := by decide +kernel
theorem dL_isFallen_109 : decode cL_isFallen 109 = .ok (.if_icmp .ne 7, 3) := by decide +kernel
theorem dL_isFallen_112 : decode cL_isFallen 112 = .ok (.iconst 1, 1) := by decide +kernel
theorem dL_isFallen_113 : decode cL_isFallen 113 = .ok (.goto 4, 3) := by decide +kernel
theorem dL_isFallen_116 : decode cL_isFallen 116 = .ok (.iconst 0, 1) := by decide +kernel
theorem dL_isFallen_117 : decode cL_isFallen 117 = .ok (.ireturn, 1) := by decide +kernel
theorem dL_isFallen_118 : decode cL_isFallen 118 = .ok (.iconst 0, 1) := by decide +kernel
theorem dL_isFallen_119 : decode cL_isFallen 119 = .ok (.istore 8, 2) := by decide +kernel
theorem dL_isFallen_121 : decode cL_isFallen 121 = .ok (.iload 8, 2) := by decide +kernel
theorem dL_isFallen_123 : decode cL_isFallen 123 = .ok (.aload_n 0, 1) := by decide +kernel
theorem dL_isFallen_124 : decode cL_isFallen 124 = .ok (.iconst 1, 1) := by decide +kernel
theorem dL_isFallen_125 : decode cL_isFallen 125 = .ok (.invokevirtual 8, 3) := by decide +kernel
theorem dL_isFallen_128 : decode cL_isFallen 128 = .ok (.if_icmp .ge 119, 3) := by decide +kernel
theorem dL_isFallen_131 : decode cL_isFallen 131 = .ok (.iload_n 1, 1) := by decide +kernel
theorem dL_isFallen_132 : decode cL_isFallen 132 = .ok (.iconst 4, 1) := by decide +kernel
theorem dL_isFallen_133 : decode cL_isFallen 133 = .ok (.if_icmp .ne 14, 3) := by decide +kernel
theorem dL_isFallen_136 : decode cL_isFallen 136 = .ok (.aload_n 3, 1) := by decide +kernel
theorem dL_isFallen_137 : decode cL_isFallen 137 = .ok (.iload 8, 2) := by decide +kernel
theorem dL_isFallen_139 : decode cL_isFallen 139 = .ok (.iaload, 1) := by decide +kernel
theorem dL_isFallen_140 : decode cL_isFallen 140 = .ok (.ifCond .ne 7, 3) := by decide +kernel
theorem dL_isFallen_143 : decode cL_isFallen 143 = .ok (.iconst 2, 1) := by decide +kernel
theorem dL_isFallen_144 : decode cL_isFallen 144 = .ok (.goto 7, 3) := by decide +kernel
theorem dL_isFallen_147 : decode cL_isFallen 147 = .ok (.aload_n 3, 1) := by decide +kernel
theorem dL_isFallen_148 : decode cL_isFallen 148 = .ok (.iload 8, 2) := by decide +kernel
theorem dL_isFallen_150 : decode cL_isFallen 150 = .ok (.iaload, 1) := by decide +kernel
theorem dL_isFallen_151 : decode cL_isFallen 151 = .ok (.istore 9, 2) := by decide +kernel
theorem dL_isFallen_153 : decode cL_isFallen 153 = .ok (.iload_n 1, 1) := by decide +kernel
theorem dL_isFallen_154 : decode cL_isFallen 154 = .ok (.iconst 4, 1) := by decide +kernel
theorem dL_isFallen_155 : decode cL_isFallen 155 = .ok (.if_icmp .ne 15, 3) := by decide +kernel
theorem dL_isFallen_158 : decode cL_isFallen 158 = .ok (.aload_n 3, 1) := by decide +kernel
theorem dL_isFallen_159 : decode cL_isFallen 159 = .ok (.iload 8, 2) := by decide +kernel
theorem dL_isFallen_161 : decode cL_isFallen 161 = .ok (.iaload, 1) := by decide +kernel
theorem dL_isFallen_162 : decode cL_isFallen 162 = .ok (.iconst 1, 1) := by decide +kernel
theorem dL_isFallen_163 : decode cL_isFallen 163 = .ok (.if_icmp .ne 7, 3) := by decide +kernel
theorem dL_isFallen_166 : decode cL_isFallen 166 = .ok (.iconst 0, 1) := by decide +kernel
theorem dL_isFallen_167 : decode cL_isFallen 167 = .ok (.goto 8, 3) := by decide +kernel
theorem dL_isFallen_170 : decode cL_isFallen 170 = .ok (.aload 4, 2) := by decide +kernel
theorem dL_isFallen_172 : decode cL_isFallen 172 = .ok (.iload 8, 2) := by decide +kernel
theorem dL_isFallen_174 : decode cL_isFallen 174 = .ok (.iaload, 1) := by decide +kernel
theorem dL_isFallen_175 : decode cL_isFallen 175 = .ok (.istore 10, 2) := by decide +kernel
theorem dL_isFallen_177 : decode cL_isFallen 177 = .ok (.iload_n 1, 1) := by decide +kernel
theorem dL_isFallen_178 : decode cL_isFallen 178 = .ok (.iconst 4, 1) := by decide +kernel
theorem dL_isFallen_179 : decode cL_isFallen 179 = .ok (.if_icmp .ge 17, 3) := by decide +kernel
theorem dL_isFallen_182 : decode cL_isFallen 182 = .ok (.aload 5, 2) := by decide +kernel
theorem dL_isFallen_184 : decode cL_isFallen 184 = .ok (.iload 8, 2) := by decide +kernel
theorem dL_isFallen_186 : decode cL_isFallen 186 = .ok (.iaload, 1) := by decide +kernel
theorem dL_isFallen_187 : decode cL_isFallen 187 = .ok (.iconst 1, 1) := by decide +kernel
theorem dL_isFallen_188 : decode cL_isFallen 188 = .ok (.iload_n 1, 1) := by decide +kernel
theorem dL_isFallen_189 : decode cL_isFallen 189 = .ok (.ishl, 1) := by decide +kernel
theorem dL_isFallen_190 : decode cL_isFallen 190 = .ok (.iconst (-1), 1) := by decide +kernel
theorem dL_isFallen_191 : decode cL_isFallen 191 = .ok (.ixor, 1) := by decide +kernel
theorem dL_isFallen_192 : decode cL_isFallen 192 = .ok (.iand, 1) := by decide +kernel
theorem dL_isFallen_193 : decode cL_isFallen 193 = .ok (.goto 8, 3) := by decide +kernel
theorem dL_isFallen_196 : decode cL_isFallen 196 = .ok (.aload 5, 2) := by decide +kernel
theorem dL_isFallen_198 : decode cL_isFallen 198 = .ok (.iload 8, 2) := by decide +kernel
theorem dL_isFallen_200 : decode cL_isFallen 200 = .ok (.iaload, 1) := by decide +kernel
theorem dL_isFallen_201 : decode cL_isFallen 201 = .ok (.istore 11, 2) := by decide +kernel
theorem dL_isFallen_203 : decode cL_isFallen 203 = .ok (.aload_n 0, 1) := by decide +kernel
theorem dL_isFallen_204 : decode cL_isFallen 204 = .ok (.iload 8, 2) := by decide +kernel
theorem dL_isFallen_206 : decode cL_isFallen 206 = .ok (.iconst 1, 1) := by decide +kernel
theorem dL_isFallen_207 : decode cL_isFallen 207 = .ok (.invokevirtual 14, 3) := by decide +kernel
theorem dL_isFallen_210 : decode cL_isFallen 210 = .ok (.iload 9, 2) := by decide +kernel
theorem dL_isFallen_212 : decode cL_isFallen 212 = .ok (.if_icmp .ne 27, 3) := by decide +kernel
theorem dL_isFallen_215 : decode cL_isFallen 215 = .ok (.aload_n 0, 1) := by decide +kernel
theorem dL_isFallen_216 : decode cL_isFallen 216 = .ok (.iload 8, 2) := by decide +kernel
theorem dL_isFallen_218 : decode cL_isFallen 218 = .ok (.iconst 4, 1) := by decide +kernel
theorem dL_isFallen_219 : decode cL_isFallen 219 = .ok (.invokevirtual 14, 3) := by decide +kernel
theorem dL_isFallen_222 : decode cL_isFallen 222 = .ok (.iload 10, 2) := by decide +kernel
theorem dL_isFallen_224 : decode cL_isFallen 224 = .ok (.if_icmp .ne 15, 3) := by decide +kernel
theorem dL_isFallen_227 : decode cL_isFallen 227 = .ok (.aload_n 0, 1) := by decide +kernel
theorem dL_isFallen_228 : decode cL_isFallen 228 = .ok (.iload 8, 2) := by decide +kernel
theorem dL_isFallen_230 : decode cL_isFallen 230 = .ok (.iconst 5, 1) := by decide +kernel
theorem dL_isFallen_231 : decode cL_isFallen 231 = .ok (.invokevirtual 14, 3) := by decide +kernel
theorem dL_isFallen_234 : decode cL_isFallen 234 = .ok (.iload 11, 2) := by decide +kernel
theorem dL_isFallen_236 : decode cL_isFallen 236 = .ok (.if_icmp .eq 5, 3) := by decide +kernel
theorem dL_isFallen_239 : decode cL_isFallen 239 = .ok (.iconst 0, 1) := by decide +kernel
theorem dL_isFallen_240 : decode cL_isFallen 240 = .ok (.ireturn, 1) := by decide +kernel
theorem dL_isFallen_241 : decode cL_isFallen 241 = .ok (.iinc 8 1, 3) := by decide +kernel
theorem dL_isFallen_244 : decode cL_isFallen 244 = .ok (.goto (-123), 3) := by decide +kernel
theorem dL_isFallen_247 : decode cL_isFallen 247 = .ok (.iload 7, 2) := by decide +kernel
theorem dL_isFallen_249 : decode cL_isFallen 249 = .ok (.ifCond .le 27, 3) := by decide +kernel
theorem dL_isFallen_252 : decode cL_isFallen 252 = .ok (.aload_n 0, 1) := by decide +kernel
theorem dL_isFallen_253 : decode cL_isFallen 253 = .ok (.iload_n 1, 1) := by decide +kernel
theorem dL_isFallen_254 : decode cL_isFallen 254 = .ok (.iconst 0, 1) := by decide +kernel
theorem dL_isFallen_255 : decode cL_isFallen 255 = .ok (.invokevirtual 37, 3) := by decide +kernel
theorem dL_isFallen_258 : decode cL_isFallen 258 = .ok (.iconst 1, 1) := by decide +kernel
theorem dL_isFallen_259 : decode cL_isFallen 259 = .ok (.if_icmp .ne 17, 3) := by decide +kernel
theorem dL_isFallen_262 : decode cL_isFallen 262 = .ok (.aload_n 0, 1) := by decide +kernel
theorem dL_isFallen_263 : decode cL_isFallen 263 = .ok (.iconst 2, 1) := by decide +kernel
theorem dL_isFallen_264 : decode cL_isFallen 264 = .ok (.invokevirtual 8, 3) := by decide +kernel
theorem dL_isFallen_267 : decode cL_isFallen 267 = .ok (.iload 6, 2) := by decide +kernel
theorem dL_isFallen_269 : decode cL_isFallen 269 = .ok (.if_icmp .ne 7, 3) := by decide +kernel
theorem dL_isFallen_272 : decode cL_isFallen 272 = .ok (.iconst 1, 1) := by decide +kernel
theorem dL_isFallen_273 : decode cL_isFallen 273 = .ok (.goto 4, 3) := by decide +kernel
theorem dL_isFallen_276 : decode cL_isFallen 276 = .ok (.iconst 0, 1) := by decide +kernel
theorem dL_isFallen_277 : decode cL_isFallen 277 = .ok (.ireturn, 1) := by decide +kernel
theorem dL_isTick_0 : decode cL_isTick 0 = .ok (.aload_n 0, 1) := by decide +kernel
theorem dL_isTick_1 : decode cL_isTick 1 = .ok (.iconst 0, 1) := by decide +kernel
theorem dL_isTick_2 : decode cL_isTick 2 = .ok (.invokevirtual 8, 3) := by decide +kernel
theorem dL_isTick_5 : decode cL_isTick 5 = .ok (.istore_n 1, 1) := by decide +kernel
theorem dL_isTick_6 : decode cL_isTick 6 = .ok (.aload_n 0, 1) := by decide +kernel
theorem dL_isTick_7 : decode cL_isTick 7 = .ok (.iconst 2, 1) := by decide +kernel
theorem dL_isTick_8 : decode cL_isTick 8 = .ok (.invokevirtual 8, 3) := by decide +kernel
theorem dL_isTick_11 : decode cL_isTick 11 = .ok (.istore_n 2, 1) := by decide +kernel
theorem dL_isTick_12 : decode cL_isTick 12 = .ok (.bipush 8, 2) := by decide +kernel
theorem dL_isTick_14 : decode cL_isTick 14 = .ok (.newarray .int, 2) := by decide +kernel
theorem dL_isTick_16 : decode cL_isTick 16 = .ok (.astore_n 3, 1) := by decide +kernel
theorem dL_isTick_17 : decode cL_isTick 17 = .ok (.iload_n 2, 1) := by decide +kernel
theorem dL_isTick_18 : decode cL_isTick 18 = .ok (.istore 4, 2) := by decide +kernel
theorem dL_isTick_20 : decode cL_isTick 20 = .ok (.iconst 0, 1) := by decide +kernel
theorem dL_isTick_21 : decode cL_isTick 21 = .ok (.istore 5, 2) := by decide +kernel
theorem dL_isTick_23 : decode cL_isTick 23 = .ok (.iload 5, 2) := by decide +kernel
theorem dL_isTick_25 : decode cL_isTick 25 = .ok (.aload_n 0, 1) := by decide +kernel
theorem dL_isTick_26 : decode cL_isTick 26 = .ok (.iconst 1, 1) := by decide +kernel
theorem dL_isTick_27 : decode cL_isTick 27 = .ok (.invokevirtual 8, 3) := by decide +kernel
theorem dL_isTick_30 : decode cL_isTick 30 = .ok (.if_icmp .ge 20, 3) := by decide +kernel
theorem dL_isTick_33 : decode cL_isTick 33 = .ok (.aload_n 3, 1) := by decide +kernel
theorem dL_isTick_34 : decode cL_isTick 34 = .ok (.iload 5, 2) := by decide +kernel
theorem dL_isTick_36 : decode cL_isTick 36 = .ok (.aload_n 0, 1) := by decide +kernel
theorem dL_isTick_37 : decode cL_isTick 37 = .ok (.iload 5, 2) := by decide +kernel
theorem dL_isTick_39 : decode cL_isTick 39 = .ok (.iconst 1, 1) := by decide +kernel
theorem dL_isTick_40 : decode cL_isTick 40 = .ok (.invokevirtual 14, 3) := by decide +kernel
theorem dL_isTick_43 : decode cL_isTick 43 = .ok (.iastore, 1) := by decide +kernel
theorem dL_isTick_44 : decode cL_isTick 44 = .ok (.iinc 5 1, 3) := by decide +kernel
theorem dL_isTick_47 : decode cL_isTick 47 = .ok (.goto (-24), 3) := by decide +kernel
theorem dL_isTick_50 : decode cL_isTick 50 = .ok (.aload_n 0, 1) := by decide +kernel
theorem dL_isTick_51 : decode cL_isTick 51 = .ok (.iconst 4, 1) := by decide +kernel
theorem dL_isTick_52 : decode cL_isTick 52 = .ok (.iconst 0, 1) := by decide +kernel
theorem dL_isTick_53 : decode cL_isTick 53 = .ok (.invokevirtual 37, 3) := by decide +kernel
theorem dL_isTick_56 : decode cL_isTick 56 = .ok (.ifCond .ne 7, 3) := by decide +kernel
theorem dL_isTick_59 : decode cL_isTick 59 = .ok (.iconst 1, 1) := by decide +kernel
theorem dL_isTick_60 : decode cL_isTick 60 = .ok (.goto 4, 3) := by decide +kernel
theorem dL_isTick_63 : decode cL_isTick 63 = .ok (.iconst 0, 1) := by decide +kernel
theorem dL_isTick_64 : decode cL_isTick 64 = .ok (.istore 5, 2) := by decide +kernel
theorem dL_isTick_66 : decode cL_isTick 66 = .ok (.bipush 8, 2) := by decide +kernel
theorem dL_isTick_68 : decode cL_isTick 68 = .ok (.newarray .int, 2) := by decide +kernel
theorem dL_isTick_70 : decode cL_isTick 70 = .ok (.astore 6, 2) := by decide +kernel
theorem dL_isTick_72 : decode cL_isTick 72 = .ok (.iconst 0, 1) := by decide +kernel
theorem dL_isTick_73 : decode cL_isTick 73 = .ok (.istore 7, 2) := by decide +kernel
theorem dL_isTick_75 : decode cL_isTick 75 = .ok (.iload 7, 2) := by decide +kernel
theorem dL_isTick_77 : decode cL_isTick 77 = .ok (.aload_n 0, 1) := by decide +kernel
theorem dL_isTick_78 : decode cL_isTick 78 = .ok (.iconst 1, 1) := by decide +kernel
theorem dL_isTick_79 : decode cL_isTick 79 = .ok (.invokevirtual 8, 3) := by decide +kernel
theorem dL_isTick_82 : decode cL_isTick 82 = .ok (.if_icmp .ge 64, 3) := by decide +kernel
theorem dL_isTick_85 : decode cL_isTick 85 = .ok (.iload 5, 2) := by decide +kernel
theorem dL_isTick_87 : decode cL_isTick 87 = .ok (.ifCond .eq 32, 3) := by decide +kernel
theorem dL_isTick_90 : decode cL_isTick 90 = .ok (.aload_n 3, 1) := by decide +kernel
theorem dL_isTick_91 : decode cL_isTick 91 = .ok (.iload 7, 2) := by decide +kernel
theorem dL_isTick_93 : decode cL_isTick 93 = .ok (.iaload, 1) := by decide +kernel
theorem dL_isTick_94 : decode cL_isTick 94 = .ok (.ifCond .ne 25, 3) := by decide +kernel
theorem dL_isTick_97 : decode cL_isTick 97 = .ok (.iload_n 1, 1) := by decide +kernel
theorem dL_isTick_98 : decode cL_isTick 98 = .ok (.aload_n 0, 1) := by decide +kernel
theorem dL_isTick_99 : decode cL_isTick 99 = .ok (.iload 7, 2) := by decide +kernel
theorem dL_isTick_101 : decode cL_isTick 101 = .ok (.iconst 2, 1) := by decide +kernel
theorem dL_isTick_102 : decode cL_isTick 102 = .ok (.invokevirtual 14, 3) := by decide +kernel
theorem dL_isTick_105 : decode cL_isTick 105 = .ok (.isub, 1) := by decide +kernel
theorem dL_isTick_106 : decode cL_isTick 106 = .ok (.aload_n 0, 1) := by decide +kernel
theorem dL_isTick_107 : decode cL_isTick 107 = .ok (.bipush 7, 2) := by decide +kernel
theorem dL_isTick_109 : decode cL_isTick 109 = .ok (.invokevirtual 8, 3) := by decide +kernel
theorem dL_isTick_112 : decode cL_isTick 112 = .ok (.if_icmp .lt 7, 3) := by decide +kernel
theorem dL_isTick_115 : decode cL_isTick 115 = .ok (.iconst 1, 1) := by decide +kernel
theorem dL_isTick_116 : decode cL_isTick 116 = .ok (.goto 4, 3) := by decide +kernel
theorem dL_isTick_119 : decode cL_isTick 119 = .ok (.iconst 0, 1) := by decide +kernel
theorem dL_isTick_120 : decode cL_isTick 120 = .ok (.istore 8, 2) := by decide +kernel
theorem dL_isTick_122 : decode cL_isTick 122 = .ok (.aload 6, 2) := by decide +kernel
theorem dL_isTick_124 : decode cL_isTick 124 = .ok (.iload 7, 2) := by decide +kernel
theorem dL_isTick_126 : decode cL_isTick 126 = .ok (.iload 8, 2) := by decide +kernel
theorem dL_isTick_128 : decode cL_isTick 128 = .ok (.ifCond .eq 7, 3) := by decide +kernel
theorem dL_isTick_131 : decode cL_isTick 131 = .ok (.iconst 2, 1) := by decide +kernel
theorem dL_isTick_132 : decode cL_isTick 132 = .ok (.goto 7, 3) := by decide +kernel
theorem dL_isTick_135 : decode cL_isTick 135 = .ok (.aload_n 3, 1) := by decide +kernel
theorem dL_isTick_136 : decode cL_isTick 136 = .ok (.iload 7, 2) := by decide +kernel
theorem dL_isTick_138 : decode cL_isTick 138 = .ok (.iaload, 1) := by decide +kernel
theorem dL_isTick_139 : decode cL_isTick 139 = .ok (.iastore, 1) := by decide +kernel
theorem dL_isTick_140 : decode cL_isTick 140 = .ok (.iinc 7 1, 3) := by decide +kernel
theorem dL_isTick_143 : decode cL_isTick 143 = .ok (.goto (-68), 3) := by decide +kernel
theorem dL_isTick_146 : decode cL_isTick 146 = .ok (.aload_n 0, 1) := by decide +kernel
theorem dL_isTick_147 : decode cL_isTick 147 = .ok (.iconst 1, 1) := by decide +kernel
theorem dL_isTick_148 : decode cL_isTick 148 = .ok (.invokevirtual 60, 3) := by decide +kernel
theorem dL_isTick_151 : decode cL_isTick 151 = .ok (.iload_n 1, 1) := by decide +kernel
theorem dL_isTick_152 : decode cL_isTick 152 = .ok (.iconst 1, 1) := by decide +kernel
theorem dL_isTick_153 : decode cL_isTick 153 = .ok (.iadd, 1) := by decide +kernel
theorem dL_isTick_154 : decode cL_isTick 154 = .ok (.if_icmp .eq 5, 3) := by decide +kernel
theorem dL_isTick_157 : decode cL_isTick 157 = .ok (.iconst 0, 1) := by decide +kernel
theorem dL_isTick_158 : decode cL_isTick 158 = .ok (.ireturn, 1) := by decide +kernel
theorem dL_isTick_159 : decode cL_isTick 159 = .ok (.iconst 0, 1) := by decide +kernel
theorem dL_isTick_160 : decode cL_isTick 160 = .ok (.istore 7, 2) := by decide +kernel
theorem dL_isTick_162 : decode cL_isTick 162 = .ok (.iload 7, 2) := by decide +kernel
theorem dL_isTick_164 : decode cL_isTick 164 = .ok (.aload_n 0, 1) := by decide +kernel
theorem dL_isTick_165 : decode cL_isTick 165 = .ok (.iconst 1, 1) := by decide +kernel
theorem dL_isTick_166 : decode cL_isTick 166 = .ok (.invokevirtual 8, 3) := by decide +kernel
theorem dL_isTick_169 : decode cL_isTick 169 = .ok (.if_icmp .ge 26, 3) := by decide +kernel
theorem dL_isTick_172 : decode cL_isTick 172 = .ok (.aload_n 0, 1) := by decide +kernel
theorem dL_isTick_173 : decode cL_isTick 173 = .ok (.iload 7, 2) := by decide +kernel
theorem dL_isTick_175 : decode cL_isTick 175 = .ok (.iconst 1, 1) := by decide +kernel
theorem dL_isTick_176 : decode cL_isTick 176 = .ok (.invokevirtual 14, 3) := by decide +kernel
theorem dL_isTick_179 : decode cL_isTick 179 = .ok (.aload 6, 2) := by decide +kernel
theorem dL_isTick_181 : decode cL_isTick 181 = .ok (.iload 7, 2) := by decide +kernel
theorem dL_isTick_183 : decode cL_isTick 183 = .ok (.iaload, 1) := by decide +kernel
theorem dL_isTick_184 : decode cL_isTick 184 = .ok (.if_icmp .eq 5, 3) := by decide +kernel
theorem dL_isTick_187 : decode cL_isTick 187 = .ok (.iconst 0, 1) := by decide +kernel
theorem dL_isTick_188 : decode cL_isTick 188 = .ok (.ireturn, 1) := by decide +kernel
theorem dL_isTick_189 : decode cL_isTick 189 = .ok (.iinc 7 1, 3) := by decide +kernel
theorem dL_isTick_192 : decode cL_isTick 192 = .ok (.goto (-30), 3) := by decide +kernel
theorem dL_isTick_195 : decode cL_isTick 195 = .ok (.iconst 0, 1) := by decide +kernel
theorem dL_isTick_196 : decode cL_isTick 196 = .ok (.istore 7, 2) := by decide +kernel
theorem dL_isTick_198 : decode cL_isTick 198 = .ok (.iconst 0, 1) := by decide +kernel
theorem dL_isTick_199 : decode cL_isTick 199 = .ok (.istore 8, 2) := by decide +kernel
theorem dL_isTick_201 : decode cL_isTick 201 = .ok (.iload 4, 2) := by decide +kernel
theorem dL_isTick_203 : decode cL_isTick 203 = .ok (.aload_n 0, 1) := by decide +kernel
theorem dL_isTick_204 : decode cL_isTick 204 = .ok (.iconst 2, 1) := by decide +kernel
theorem dL_isTick_205 : decode cL_isTick 205 = .ok (.invokevirtual 8, 3) := by decide +kernel
theorem dL_isTick_208 : decode cL_isTick 208 = .ok (.if_icmp .ge 129, 3) := by decide +kernel
theorem dL_isTick_211 : decode cL_isTick 211 = .ok (.aload_n 0, 1) := by decide +kernel
theorem dL_isTick_212 : decode cL_isTick 212 = .ok (.iload 4, 2) := by decide +kernel
theorem dL_isTick_214 : decode cL_isTick 214 = .ok (.iconst 2, 1) := by decide +kernel
theorem dL_isTick_215 : decode cL_isTick 215 = .ok (.invokevirtual 34, 3) := by decide +kernel
theorem dL_isTick_218 : decode cL_isTick 218 = .ok (.iconst 4, 1) := by decide +kernel
theorem dL_isTick_219 : decode cL_isTick 219 = .ok (.if_icmp .ne 118, 3) := by decide +kernel
theorem dL_isTick_222 : decode cL_isTick 222 = .ok (.aload_n 0, 1) := by decide +kernel
theorem dL_isTick_223 : decode cL_isTick 223 = .ok (.iload 4, 2) := by decide +kernel
theorem dL_isTick_225 : decode cL_isTick 225 = .ok (.iconst 1, 1) := by decide +kernel
theorem dL_isTick_226 : decode cL_isTick 226 = .ok (.invokevirtual 34, 3) := by decide +kernel
theorem dL_isTick_229 : decode cL_isTick 229 = .ok (.istore 9, 2) := by decide +kernel
theorem dL_isTick_231 : decode cL_isTick 231 = .ok (.iload 9, 2) := by decide +kernel
theorem dL_isTick_233 : decode cL_isTick 233 = .ok (.iload 7, 2) := by decide +kernel
theorem dL_isTick_235 : decode cL_isTick 235 = .ok (.if_icmp .lt 82, 3) := by decide +kernel
theorem dL_isTick_238 : decode cL_isTick 238 = .ok (.iload 5, 2) := by decide +kernel
theorem dL_isTick_240 : decode cL_isTick 240 = .ok (.ifCond .eq 77, 3) := by decide +kernel
theorem dL_isTick_243 : decode cL_isTick 243 = .ok (.aload_n 0, 1) := by decide +kernel
theorem dL_isTick_244 : decode cL_isTick 244 = .ok (.iload 4, 2) := by decide +kernel
theorem dL_isTick_246 : decode cL_isTick 246 = .ok (.iconst 0, 1) := by decide +kernel
theorem dL_isTick_247 : decode cL_isTick 247 = .ok (.invokevirtual 34, 3) := by decide +kernel
theorem dL_isTick_250 : decode cL_isTick 250 = .ok (.iconst 4, 1) := by decide +kernel
theorem dL_isTick_251 : decode cL_isTick 251 = .ok (.if_icmp .ne 22, 3) := by decide +kernel
theorem dL_isTick_254 : decode cL_isTick 254 = .ok (.aload 6, 2) := by decide +kernel
theorem dL_isTick_256 : decode cL_isTick 256 = .ok (.iload 9, 2) := by decide +kernel
theorem dL_isTick_258 : decode cL_isTick 258 = .ok (.iaload, 1) := by decide +kernel
theorem dL_isTick_259 : decode cL_isTick 259 = .ok (.iconst 2, 1) := by decide +kernel
theorem dL_isTick_260 : decode cL_isTick 260 = .ok (.if_icmp .ne 57, 3) := by decide +kernel
theorem dL_isTick_263 : decode cL_isTick 263 = .ok (.aload_n 3, 1) := by decide +kernel
theorem dL_isTick_264 : decode cL_isTick 264 = .ok (.iload 9, 2) := by decide +kernel
theorem dL_isTick_266 : decode cL_isTick 266 = .ok (.iaload, 1) := by decide +kernel
theorem dL_isTick_267 : decode cL_isTick 267 = .ok (.ifCond .ne 50, 3) := by decide +kernel
theorem dL_isTick_270 : decode cL_isTick 270 = .ok (.goto 43, 3) := by decide +kernel
theorem dL_isTick_273 : decode cL_isTick 273 = .ok (.aload_n 0, 1) := by decide +kernel
theorem dL_isTick_274 : decode cL_isTick 274 = .ok (.iload 4, 2) := by decide +kernel
theorem dL_isTick_276 : decode cL_isTick 276 = .ok (.iconst 0, 1) := by decide +kernel
theorem dL_isTick_277 : decode cL_isTick 277 = .ok (.invokevirtual 34, 3) := by decide +kernel
theorem dL_isTick_280 : decode cL_isTick 280 = .ok (.iconst 3, 1) := by decide +kernel
theorem dL_isTick_281 : decode cL_isTick 281 = .ok (.if_icmp .ne 36, 3) := by decide +kernel
theorem dL_isTick_284 : decode cL_isTick 284 = .ok (.aload 6, 2) := by decide +kernel
theorem dL_isTick_286 : decode cL_isTick 286 = .ok (.iload 9, 2) := by decide +kernel
theorem dL_isTick_288 : decode cL_isTick 288 = .ok (.iaload, 1) := by decide +kernel
theorem dL_isTick_289 : decode cL_isTick 289 = .ok (.iconst 1, 1) := by decide +kernel
theorem dL_isTick_290 : decode cL_isTick 290 = .ok (.if_icmp .ne 27, 3) := by decide +kernel
theorem dL_isTick_293 : decode cL_isTick 293 = .ok (.aload_n 0, 1) := by decide +kernel
theorem dL_isTick_294 : decode cL_isTick 294 = .ok (.iload 9, 2) := by decide +kernel
theorem dL_isTick_296 : decode cL_isTick 296 = .ok (.iconst 4, 1) := by decide +kernel
theorem dL_isTick_297 : decode cL_isTick 297 = .ok (.invokevirtual 14, 3) := by decide +kernel
theorem dL_isTick_300 : decode cL_isTick 300 = .ok (.aload_n 0, 1) := by decide +kernel
theorem dL_isTick_301 : decode cL_isTick 301 = .ok (.iload 4, 2) := by decide +kernel
theorem dL_isTick_303 : decode cL_isTick 303 = .ok (.iconst 3, 1) := by decide +kernel
theorem dL_isTick_304 : decode cL_isTick 304 = .ok (.invokevirtual 34, 3) := by decide +kernel
theorem dL_isTick_307 : decode cL_isTick 307 = .ok (.invokestatic 18, 3) := by decide +kernel
theorem dL_isTick_310 : decode cL_isTick 310 = .ok (.ifCond .ne 7, 3) := by decide +kernel
theorem dL_isTick_313 : decode cL_isTick 313 = .ok (.iconst 1, 1) := by decide +kernel
theorem dL_isTick_314 : decode cL_isTick 314 = .ok (.goto 4, 3) := by decide +kernel
theorem dL_isTick_317 : decode cL_isTick 317 = .ok (.iconst 0, 1) := by decide +kernel
theorem dL_isTick_318 : decode cL_isTick 318 = .ok (.istore 10, 2) := by decide +kernel
theorem dL_isTick_320 : decode cL_isTick 320 = .ok (.iload 10, 2) := by decide +kernel
theorem dL_isTick_322 : decode cL_isTick 322 = .ok (.ifCond .ne 5, 3) := by decide +kernel
theorem dL_isTick_325 : decode cL_isTick 325 = .ok (.iconst 0, 1) := by decide +kernel
theorem dL_isTick_326 : decode cL_isTick 326 = .ok (.ireturn, 1) := by decide +kernel
theorem dL_isTick_327 : decode cL_isTick 327 = .ok (.iload 9, 2) := by decide +kernel
theorem dL_isTick_329 : decode cL_isTick 329 = .ok (.istore 7, 2) := by decide +kernel
theorem dL_isTick_331 : decode cL_isTick 331 = .ok (.iinc 4 1, 3) := by decide +kernel
theorem dL_isTick_334 : decode cL_isTick 334 = .ok (.goto (-133), 3) := by decide +kernel
theorem dL_isTick_337 : decode cL_isTick 337 = .ok (.iload 4, 2) := by decide +kernel
theorem dL_isTick_339 : decode cL_isTick 339 = .ok (.aload_n 0, 1) := by decide +kernel
theorem dL_isTick_340 : decode cL_isTick 340 = .ok (.iconst 2, 1) := by decide +kernel
theorem dL_isTick_341 : decode cL_isTick 341 = .ok (.invokevirtual 8, 3) := by decide +kernel
theorem dL_isTick_344 : decode cL_isTick 344 = .ok (.if_icmp .ge 139, 3) := by decide +kernel
theorem dL_isTick_347 : decode cL_isTick 347 = .ok (.aload_n 0, 1) := by decide +kernel
theorem dL_isTick_348 : decode cL_isTick 348 = .ok (.iload 4, 2) := by decide +kernel
theorem dL_isTick_350 : decode cL_isTick 350 = .ok (.iconst 2, 1) := by decide +kernel
theorem dL_isTick_351 : decode cL_isTick 351 = .ok (.invokevirtual 34, 3) := by decide +kernel
theorem dL_isTick_354 : decode cL_isTick 354 = .ok (.istore 9, 2) := by decide +kernel
theorem dL_isTick_356 : decode cL_isTick 356 = .ok (.aload_n 0, 1) := by decide +kernel
theorem dL_isTick_357 : decode cL_isTick 357 = .ok (.iload 4, 2) := by decide +kernel
theorem dL_isTick_359 : decode cL_isTick 359 = .ok (.iconst 1, 1) := by decide +kernel
theorem dL_isTick_360 : decode cL_isTick 360 = .ok (.invokevirtual 34, 3) := by decide +kernel
theorem dL_isTick_363 : decode cL_isTick 363 = .ok (.istore 10, 2) := by decide +kernel
theorem dL_isTick_365 : decode cL_isTick 365 = .ok (.aload_n 0, 1) := by decide +kernel
theorem dL_isTick_366 : decode cL_isTick 366 = .ok (.iload 4, 2) := by decide +kernel
theorem dL_isTick_368 : decode cL_isTick 368 = .ok (.iconst 3, 1) := by decide +kernel
theorem dL_isTick_369 : decode cL_isTick 369 = .ok (.invokevirtual 34, 3) := by decide +kernel
theorem dL_isTick_372 : decode cL_isTick 372 = .ok (.istore 11, 2) := by decide +kernel
theorem dL_isTick_374 : decode cL_isTick 374 = .ok (.iload 9, 2) := by decide +kernel
theorem dL_isTick_376 : decode cL_isTick 376 = .ok (.iload 8, 2) := by decide +kernel
theorem dL_isTick_378 : decode cL_isTick 378 = .ok (.if_icmp .lt 85, 3) := by decide +kernel
theorem dL_isTick_381 : decode cL_isTick 381 = .ok (.iload 9, 2) := by decide +kernel
theorem dL_isTick_383 : decode cL_isTick 383 = .ok (.iconst 4, 1) := by decide +kernel
theorem dL_isTick_384 : decode cL_isTick 384 = .ok (.if_icmp .ge 79, 3) := by decide +kernel
theorem dL_isTick_387 : decode cL_isTick 387 = .ok (.aload_n 0, 1) := by decide +kernel
theorem dL_isTick_388 : decode cL_isTick 388 = .ok (.iload 4, 2) := by decide +kernel
theorem dL_isTick_390 : decode cL_isTick 390 = .ok (.iconst 0, 1) := by decide +kernel
theorem dL_isTick_391 : decode cL_isTick 391 = .ok (.invokevirtual 34, 3) := by decide +kernel
theorem dL_isTick_394 : decode cL_isTick 394 = .ok (.bipush 6, 2) := by decide +kernel
theorem dL_isTick_396 : decode cL_isTick 396 = .ok (.if_icmp .ne 67, 3) := by decide +kernel
theorem dL_isTick_399 : decode cL_isTick 399 = .ok (.aload_n 0, 1) := by decide +kernel
theorem dL_isTick_400 : decode cL_isTick 400 = .ok (.iload 9, 2) := by decide +kernel
theorem dL_isTick_402 : decode cL_isTick 402 = .ok (.iconst 0, 1) := by decide +kernel
theorem dL_isTick_403 : decode cL_isTick 403 = .ok (.invokevirtual 37, 3) := by decide +kernel
theorem dL_isTick_406 : decode cL_isTick 406 = .ok (.ifCond .ne 57, 3) := by decide +kernel
theorem dL_isTick_409 : decode cL_isTick 409 = .ok (.aload_n 0, 1) := by decide +kernel
theorem dL_isTick_410 : decode cL_isTick 410 = .ok (.iload 10, 2) := by decide +kernel
theorem dL_isTick_412 : decode cL_isTick 412 = .ok (.iload 9, 2) := by decide +kernel
theorem dL_isTick_414 : decode cL_isTick 414 = .ok (.invokevirtual 24, 3) := by decide +kernel
theorem dL_isTick_417 : decode cL_isTick 417 = .ok (.iconst 1, 1) := by decide +kernel
theorem dL_isTick_418 : decode cL_isTick 418 = .ok (.if_icmp .ne 45, 3) := by decide +kernel
theorem dL_isTick_421 : decode cL_isTick 421 = .ok (.iload 11, 2) := by decide +kernel
theorem dL_isTick_423 : decode cL_isTick 423 = .ok (.iload 9, 2) := by decide +kernel
theorem dL_isTick_425 : decode cL_isTick 425 = .ok (.if_icmp .eq 38, 3) := by decide +kernel
theorem dL_isTick_428 : decode cL_isTick 428 = .ok (.iload 11, 2) := by decide +kernel
theorem dL_isTick_430 : decode cL_isTick 430 = .ok (.iconst 4, 1) := by decide +kernel
theorem dL_isTick_431 : decode cL_isTick 431 = .ok (.if_icmp .eq 28, 3) := by decide +kernel
theorem dL_isTick_434 : decode cL_isTick 434 = .ok (.aload_n 0, 1) := by decide +kernel
theorem dL_isTick_435 : decode cL_isTick 435 = .ok (.bipush 10, 2) := by decide +kernel
theorem dL_isTick_437 : decode cL_isTick 437 = .ok (.invokevirtual 8, 3) := by decide +kernel
theorem dL_isTick_440 : decode cL_isTick 440 = .ok (.iconst 1, 1) := by decide +kernel
theorem dL_isTick_441 : decode cL_isTick 441 = .ok (.if_icmp .ne 22, 3) := by decide +kernel
theorem dL_isTick_444 : decode cL_isTick 444 = .ok (.aload_n 0, 1) := by decide +kernel
theorem dL_isTick_445 : decode cL_isTick 445 = .ok (.iload 10, 2) := by decide +kernel
theorem dL_isTick_447 : decode cL_isTick 447 = .ok (.iconst 0, 1) := by decide +kernel
theorem dL_isTick_448 : decode cL_isTick 448 = .ok (.invokevirtual 14, 3) := by decide +kernel
theorem dL_isTick_451 : decode cL_isTick 451 = .ok (.iload 11, 2) := by decide +kernel
theorem dL_isTick_453 : decode cL_isTick 453 = .ok (.invokestatic 18, 3) := by decide +kernel
theorem dL_isTick_456 : decode cL_isTick 456 = .ok (.ifCond .eq 7, 3) := by decide +kernel
theorem dL_isTick_459 : decode cL_isTick 459 = .ok (.iconst 1, 1) := by decide +kernel
theorem dL_isTick_460 : decode cL_isTick 460 = .ok (.goto 4, 3) := by decide +kernel
theorem dL_isTick_463 : decode cL_isTick 463 = .ok (.iconst 0, 1) := by decide +kernel
theorem dL_isTick_464 : decode cL_isTick 464 = .ok (.istore 12, 2) := by decide +kernel
theorem dL_isTick_466 : decode cL_isTick 466 = .ok (.iload 12, 2) := by decide +kernel
theorem dL_isTick_468 : decode cL_isTick 468 = .ok (.ifCond .ne 5, 3) := by decide +kernel
theorem dL_isTick_471 : decode cL_isTick 471 = .ok (.iconst 0, 1) := by decide +kernel
theorem dL_isTick_472 : decode cL_isTick 472 = .ok (.ireturn, 1) := by decide +kernel
theorem dL_isTick_473 : decode cL_isTick 473 = .ok (.iload 9, 2) := by decide +kernel
theorem dL_isTick_475 : decode cL_isTick 475 = .ok (.istore 8, 2) := by decide +kernel
theorem dL_isTick_477 : decode cL_isTick 477 = .ok (.iinc 4 1, 3) := by decide +kernel
theorem dL_isTick_480 : decode cL_isTick 480 = .ok (.goto (-143), 3) := by decide +kernel
theorem dL_isTick_483 : decode cL_isTick 483 = .ok (.iconst 1, 1) := by decide +kernel
theorem dL_isTick_484 : decode cL_isTick 484 = .ok (.ireturn, 1) := by decide +kernel
theorem dL_isAct_0 : decode cL_isAct 0 = .ok (.aload_n 0, 1) := by decide +kernel
theorem dL_isAct_1 : decode cL_isAct 1 = .ok (.iconst 2, 1) := by decide +kernel
theorem dL_isAct_2 : decode cL_isAct 2 = .ok (.invokevirtual 8, 3) := by decide +kernel
theorem dL_isAct_5 : decode cL_isAct 5 = .ok (.istore_n 3, 1) := by decide +kernel
theorem dL_isAct_6 : decode cL_isAct 6 = .ok (.aload_n 1, 1) := by decide +kernel
theorem dL_isAct_7 : decode cL_isAct 7 = .ok (.iload_n 2, 1) := by decide +kernel
theorem dL_isAct_8 : decode cL_isAct 8 = .ok (.iconst 1, 1) := by decide +kernel
theorem dL_isAct_9 : decode cL_isAct 9 = .ok (.iadd, 1) := by decide +kernel
theorem dL_isAct_10 : decode cL_isAct 10 = .ok (.iload_n 3, 1) := by decide +kernel
theorem dL_isAct_11 : decode cL_isAct 11 = .ok (.ifCond .ne 7, 3) := by decide +kernel
theorem dL_isAct_14 : decode cL_isAct 14 = .ok (.iconst 1, 1) := by decide +kernel
theorem dL_isAct_15 : decode cL_isAct 15 = .ok (.goto 4, 3) := by decide +kernel
theorem dL_isAct_18 : decode cL_isAct 18 = .ok (.iload_n 3, 1) := by decide +kernel
theorem dL_isAct_19 : decode cL_isAct 19 = .ok (.invokestatic 63, 3) := by decide +kernel
theorem dL_isAct_22 : decode cL_isAct 22 = .ok (.istore 4, 2) := by decide +kernel
theorem dL_isAct_24 : decode cL_isAct 24 = .ok (.aload_n 1, 1) := by decide +kernel
theorem dL_isAct_25 : decode cL_isAct 25 = .ok (.iload_n 2, 1) := by decide +kernel
theorem dL_isAct_26 : decode cL_isAct 26 = .ok (.iconst 2, 1) := by decide +kernel
theorem dL_isAct_27 : decode cL_isAct 27 = .ok (.iadd, 1) := by decide +kernel
theorem dL_isAct_28 : decode cL_isAct 28 = .ok (.iconst 3, 1) := by decide +kernel
theorem dL_isAct_29 : decode cL_isAct 29 = .ok (.invokestatic 63, 3) := by decide +kernel
theorem dL_isAct_32 : decode cL_isAct 32 = .ok (.ifCond .le 7, 3) := by decide +kernel
theorem dL_isAct_35 : decode cL_isAct 35 = .ok (.iconst 0, 1) := by decide +kernel
theorem dL_isAct_36 : decode cL_isAct 36 = .ok (.goto 5, 3) := by decide +kernel
theorem dL_isAct_39 : decode cL_isAct 39 = .ok (.iload 4, 2) := by decide +kernel
theorem dL_isAct_41 : decode cL_isAct 41 = .ok (.istore 4, 2) := by decide +kernel
theorem dL_isAct_43 : decode cL_isAct 43 = .ok (.aload_n 1, 1) := by decide +kernel
theorem dL_isAct_44 : decode cL_isAct 44 = .ok (.iload_n 2, 1) := by decide +kernel
theorem dL_isAct_45 : decode cL_isAct 45 = .ok (.bipush 20, 2) := by decide +kernel
theorem dL_isAct_47 : decode cL_isAct 47 = .ok (.invokestatic 63, 3) := by decide +kernel
theorem dL_isAct_50 : decode cL_isAct 50 = .ok (.tableswitch 490 0 10 #[58, 58, 74, 74, 79, 138, 235, 267, 267, 338, 406], 58) := by decide +kernel
theorem dL_isAct_108 : decode cL_isAct 108 = .ok (.aload_n 0, 1) := by decide +kernel
theorem dL_isAct_109 : decode cL_isAct 109 = .ok (.iconst 1, 1) := by decide +kernel
theorem dL_isAct_110 : decode cL_isAct 110 = .ok (.aload_n 1, 1) := by decide +kernel
theorem dL_isAct_111 : decode cL_isAct 111 = .ok (.iload_n 2, 1) := by decide +kernel
theorem dL_isAct_112 : decode cL_isAct 112 = .ok (.iconst 1, 1) := by decide +kernel
theorem dL_isAct_113 : decode cL_isAct 113 = .ok (.iadd, 1) := by decide +kernel
theorem dL_isAct_114 : decode cL_isAct 114 = .ok (.bipush 15, 2) := by decide +kernel
theorem dL_isAct_116 : decode cL_isAct 116 = .ok (.invokestatic 63, 3) := by decide +kernel
theorem dL_isAct_119 : decode cL_isAct 119 = .ok (.iadd, 1) := by decide +kernel
theorem dL_isAct_120 : decode cL_isAct 120 = .ok (.invokestatic 67, 3) := by decide +kernel
theorem dL_isAct_123 : decode cL_isAct 123 = .ok (.ireturn, 1) := by decide +kernel
theorem dL_isAct_124 : decode cL_isAct 124 = .ok (.aload_n 0, 1) := by decide +kernel
theorem dL_isAct_125 : decode cL_isAct 125 = .ok (.invokestatic 70, 3) := by decide +kernel
theorem dL_isAct_128 : decode cL_isAct 128 = .ok (.ireturn, 1) := by decide +kernel
theorem dL_isAct_129 : decode cL_isAct 129 = .ok (.aload_n 0, 1) := by decide +kernel
theorem dL_isAct_130 : decode cL_isAct 130 = .ok (.iconst 4, 1) := by decide +kernel
theorem dL_isAct_131 : decode cL_isAct 131 = .ok (.invokevirtual 8, 3) := by decide +kernel
theorem dL_isAct_134 : decode cL_isAct 134 = .ok (.istore 5, 2) := by decide +kernel
theorem dL_isAct_136 : decode cL_isAct 136 = .ok (.aload_n 0, 1) := by decide +kernel
theorem dL_isAct_137 : decode cL_isAct 137 = .ok (.iload 4, 2) := by decide +kernel
theorem dL_isAct_139 : decode cL_isAct 139 = .ok (.invokevirtual 74, 3) := by decide +kernel
theorem dL_isAct_142 : decode cL_isAct 142 = .ok (.istore 6, 2) := by decide +kernel
theorem dL_isAct_144 : decode cL_isAct 144 = .ok (.iload_n 3, 1) := by decide +kernel
theorem dL_isAct_145 : decode cL_isAct 145 = .ok (.ifCond .ne 17, 3) := by decide +kernel
theorem dL_isAct_148 : decode cL_isAct 148 = .ok (.iload 6, 2) := by decide +kernel
theorem dL_isAct_150 : decode cL_isAct 150 = .ok (.iconst (-1), 1) := by decide +kernel
theorem dL_isAct_151 : decode cL_isAct 151 = .ok (.if_icmp .ne 7, 3) := by decide +kernel
theorem dL_isAct_154 : decode cL_isAct 154 = .ok (.iconst 1, 1) := by decide +kernel
theorem dL_isAct_155 : decode cL_isAct 155 = .ok (.goto 32, 3) := by decide +kernel
theorem dL_isAct_158 : decode cL_isAct 158 = .ok (.iconst 0, 1) := by decide +kernel
theorem dL_isAct_159 : decode cL_isAct 159 = .ok (.goto 28, 3) := by decide +kernel
theorem dL_isAct_162 : decode cL_isAct 162 = .ok (.iload 6, 2) := by decide +kernel
theorem dL_isAct_164 : decode cL_isAct 164 = .ok (.iload_n 3, 1) := by decide +kernel
theorem dL_isAct_165 : decode cL_isAct 165 = .ok (.iconst 1, 1) := by decide +kernel
theorem dL_isAct_166 : decode cL_isAct 166 = .ok (.isub, 1) := by decide +kernel
theorem dL_isAct_167 : decode cL_isAct 167 = .ok (.if_icmp .ne 19, 3) := by decide +kernel
theorem dL_isAct_170 : decode cL_isAct 170 = .ok (.aload_n 0, 1) := by decide +kernel
theorem dL_isAct_171 : decode cL_isAct 171 = .ok (.iconst 4, 1) := by decide +kernel
theorem dL_isAct_172 : decode cL_isAct 172 = .ok (.invokevirtual 8, 3) := by decide +kernel
theorem dL_isAct_175 : decode cL_isAct 175 = .ok (.iload 5, 2) := by decide +kernel
theorem dL_isAct_177 : decode cL_isAct 177 = .ok (.iconst 1, 1) := by decide +kernel
theorem dL_isAct_178 : decode cL_isAct 178 = .ok (.iadd, 1) := by decide +kernel
theorem dL_isAct_179 : decode cL_isAct 179 = .ok (.if_icmp .ne 7, 3) := by decide +kernel
theorem dL_isAct_182 : decode cL_isAct 182 = .ok (.iconst 1, 1) := by decide +kernel
theorem dL_isAct_183 : decode cL_isAct 183 = .ok (.goto 4, 3) := by decide +kernel
theorem dL_isAct_186 : decode cL_isAct 186 = .ok (.iconst 0, 1) := by decide +kernel
theorem dL_isAct_187 : decode cL_isAct 187 = .ok (.ireturn, 1) := by decide +kernel
theorem dL_isAct_188 : decode cL_isAct 188 = .ok (.aload_n 0, 1) := by decide +kernel
theorem dL_isAct_189 : decode cL_isAct 189 = .ok (.iload 4, 2) := by decide +kernel
theorem dL_isAct_191 : decode cL_isAct 191 = .ok (.iconst 0, 1) := by decide +kernel
theorem dL_isAct_192 : decode cL_isAct 192 = .ok (.invokevirtual 34, 3) := by decide +kernel
theorem dL_isAct_195 : decode cL_isAct 195 = .ok (.istore 7, 2) := by decide +kernel
theorem dL_isAct_197 : decode cL_isAct 197 = .ok (.aload_n 0, 1) := by decide +kernel
theorem dL_isAct_198 : decode cL_isAct 198 = .ok (.iload 4, 2) := by decide +kernel
theorem dL_isAct_200 : decode cL_isAct 200 = .ok (.invokevirtual 77, 3) := by decide +kernel
theorem dL_isAct_203 : decode cL_isAct 203 = .ok (.istore 8, 2) := by decide +kernel
theorem dL_isAct_205 : decode cL_isAct 205 = .ok (.iload_n 3, 1) := by decide +kernel
theorem dL_isAct_206 : decode cL_isAct 206 = .ok (.ifCond .ne 17, 3) := by decide +kernel
theorem dL_isAct_209 : decode cL_isAct 209 = .ok (.iload 8, 2) := by decide +kernel
theorem dL_isAct_211 : decode cL_isAct 211 = .ok (.iconst (-1), 1) := by decide +kernel
theorem dL_isAct_212 : decode cL_isAct 212 = .ok (.if_icmp .ne 7, 3) := by decide +kernel
theorem dL_isAct_215 : decode cL_isAct 215 = .ok (.iconst 1, 1) := by decide +kernel
theorem dL_isAct_216 : decode cL_isAct 216 = .ok (.goto 68, 3) := by decide +kernel
theorem dL_isAct_219 : decode cL_isAct 219 = .ok (.iconst 0, 1) := by decide +kernel
theorem dL_isAct_220 : decode cL_isAct 220 = .ok (.goto 64, 3) := by decide +kernel
theorem dL_isAct_223 : decode cL_isAct 223 = .ok (.iload_n 3, 1) := by decide +kernel
theorem dL_isAct_224 : decode cL_isAct 224 = .ok (.bipush 60, 2) := by decide +kernel
theorem dL_isAct_226 : decode cL_isAct 226 = .ok (.if_icmp .ne 18, 3) := by decide +kernel
theorem dL_isAct_229 : decode cL_isAct 229 = .ok (.iload 8, 2) := by decide +kernel
theorem dL_isAct_231 : decode cL_isAct 231 = .ok (.bipush (-4), 2) := by decide +kernel
theorem dL_isAct_233 : decode cL_isAct 233 = .ok (.if_icmp .ne 7, 3) := by decide +kernel
theorem dL_isAct_236 : decode cL_isAct 236 = .ok (.iconst 1, 1) := by decide +kernel
theorem dL_isAct_237 : decode cL_isAct 237 = .ok (.goto 47, 3) := by decide +kernel
theorem dL_isAct_240 : decode cL_isAct 240 = .ok (.iconst 0, 1) := by decide +kernel
theorem dL_isAct_241 : decode cL_isAct 241 = .ok (.goto 43, 3) := by decide +kernel
theorem dL_isAct_244 : decode cL_isAct 244 = .ok (.iload 8, 2) := by decide +kernel
theorem dL_isAct_246 : decode cL_isAct 246 = .ok (.iload_n 3, 1) := by decide +kernel
theorem dL_isAct_247 : decode cL_isAct 247 = .ok (.iconst 1, 1) := by decide +kernel
theorem dL_isAct_248 : decode cL_isAct 248 = .ok (.iadd, 1) := by decide +kernel
theorem dL_isAct_249 : decode cL_isAct 249 = .ok (.if_icmp .ne 34, 3) := by decide +kernel
theorem dL_isAct_252 : decode cL_isAct 252 = .ok (.aload_n 0, 1) := by decide +kernel
theorem dL_isAct_253 : decode cL_isAct 253 = .ok (.iload_n 3, 1) := by decide +kernel
theorem dL_isAct_254 : decode cL_isAct 254 = .ok (.iconst 0, 1) := by decide +kernel
theorem dL_isAct_255 : decode cL_isAct 255 = .ok (.invokevirtual 34, 3) := by decide +kernel
theorem dL_isAct_258 : decode cL_isAct 258 = .ok (.iload 7, 2) := by decide +kernel
theorem dL_isAct_260 : decode cL_isAct 260 = .ok (.if_icmp .ne 23, 3) := by decide +kernel
theorem dL_isAct_263 : decode cL_isAct 263 = .ok (.aload_n 0, 1) := by decide +kernel
theorem dL_isAct_264 : decode cL_isAct 264 = .ok (.iload_n 3, 1) := by decide +kernel
theorem dL_isAct_265 : decode cL_isAct 265 = .ok (.iconst 3, 1) := by decide +kernel
theorem dL_isAct_266 : decode cL_isAct 266 = .ok (.invokevirtual 34, 3) := by decide +kernel
theorem dL_isAct_269 : decode cL_isAct 269 = .ok (.aload_n 0, 1) := by decide +kernel
theorem dL_isAct_270 : decode cL_isAct 270 = .ok (.iload 4, 2) := by decide +kernel
theorem dL_isAct_272 : decode cL_isAct 272 = .ok (.iconst 3, 1) := by decide +kernel
theorem dL_isAct_273 : decode cL_isAct 273 = .ok (.invokevirtual 34, 3) := by decide +kernel
theorem dL_isAct_276 : decode cL_isAct 276 = .ok (.if_icmp .ne 7, 3) := by decide +kernel
theorem dL_isAct_279 : decode cL_isAct 279 = .ok (.iconst 1, 1) := by decide +kernel
theorem dL_isAct_280 : decode cL_isAct 280 = .ok (.goto 4, 3) := by decide +kernel
theorem dL_isAct_283 : decode cL_isAct 283 = .ok (.iconst 0, 1) := by decide +kernel
theorem dL_isAct_284 : decode cL_isAct 284 = .ok (.ireturn, 1) := by decide +kernel
theorem dL_isAct_285 : decode cL_isAct 285 = .ok (.aload_n 1, 1) := by decide +kernel
theorem dL_isAct_286 : decode cL_isAct 286 = .ok (.iload_n 2, 1) := by decide +kernel
theorem dL_isAct_287 : decode cL_isAct 287 = .ok (.iconst 2, 1) := by decide +kernel
theorem dL_isAct_288 : decode cL_isAct 288 = .ok (.iadd, 1) := by decide +kernel
theorem dL_isAct_289 : decode cL_isAct 289 = .ok (.iconst 2, 1) := by decide +kernel
theorem dL_isAct_290 : decode cL_isAct 290 = .ok (.invokestatic 63, 3) := by decide +kernel
theorem dL_isAct_293 : decode cL_isAct 293 = .ok (.ifCond .eq 18, 3) := by decide +kernel
theorem dL_isAct_296 : decode cL_isAct 296 = .ok (.aload_n 0, 1) := by decide +kernel
theorem dL_isAct_297 : decode cL_isAct 297 = .ok (.aload_n 1, 1) := by decide +kernel
theorem dL_isAct_298 : decode cL_isAct 298 = .ok (.iload_n 2, 1) := by decide +kernel
theorem dL_isAct_299 : decode cL_isAct 299 = .ok (.iconst 1, 1) := by decide +kernel
theorem dL_isAct_300 : decode cL_isAct 300 = .ok (.iadd, 1) := by decide +kernel
theorem dL_isAct_301 : decode cL_isAct 301 = .ok (.iconst 5, 1) := by decide +kernel
theorem dL_isAct_302 : decode cL_isAct 302 = .ok (.invokestatic 63, 3) := by decide +kernel
theorem dL_isAct_305 : decode cL_isAct 305 = .ok (.invokestatic 80, 3) := by decide +kernel
theorem dL_isAct_308 : decode cL_isAct 308 = .ok (.ifCond .eq 7, 3) := by decide +kernel
theorem dL_isAct_311 : decode cL_isAct 311 = .ok (.iconst 1, 1) := by decide +kernel
theorem dL_isAct_312 : decode cL_isAct 312 = .ok (.goto 4, 3) := by decide +kernel
theorem dL_isAct_315 : decode cL_isAct 315 = .ok (.iconst 0, 1) := by decide +kernel
theorem dL_isAct_316 : decode cL_isAct 316 = .ok (.ireturn, 1) := by decide +kernel
theorem dL_isAct_317 : decode cL_isAct 317 = .ok (.aload_n 1, 1) := by decide +kernel
theorem dL_isAct_318 : decode cL_isAct 318 = .ok (.iload_n 2, 1) := by decide +kernel
theorem dL_isAct_319 : decode cL_isAct 319 = .ok (.iconst 1, 1) := by decide +kernel
theorem dL_isAct_320 : decode cL_isAct 320 = .ok (.iadd, 1) := by decide +kernel
theorem dL_isAct_321 : decode cL_isAct 321 = .ok (.iconst 5, 1) := by decide +kernel
theorem dL_isAct_322 : decode cL_isAct 322 = .ok (.invokestatic 63, 3) := by decide +kernel
theorem dL_isAct_325 : decode cL_isAct 325 = .ok (.istore 9, 2) := by decide +kernel
theorem dL_isAct_327 : decode cL_isAct 327 = .ok (.aload_n 0, 1) := by decide +kernel
theorem dL_isAct_328 : decode cL_isAct 328 = .ok (.iload 9, 2) := by decide +kernel
theorem dL_isAct_330 : decode cL_isAct 330 = .ok (.iconst 0, 1) := by decide +kernel
theorem dL_isAct_331 : decode cL_isAct 331 = .ok (.invokevirtual 37, 3) := by decide +kernel
theorem dL_isAct_334 : decode cL_isAct 334 = .ok (.iconst 1, 1) := by decide +kernel
theorem dL_isAct_335 : decode cL_isAct 335 = .ok (.if_icmp .ne 7, 3) := by decide +kernel
theorem dL_isAct_338 : decode cL_isAct 338 = .ok (.iconst 1, 1) := by decide +kernel
theorem dL_isAct_339 : decode cL_isAct 339 = .ok (.goto 4, 3) := by decide +kernel
theorem dL_isAct_342 : decode cL_isAct 342 = .ok (.iconst 0, 1) := by decide +kernel
theorem dL_isAct_343 : decode cL_isAct 343 = .ok (.istore 10, 2) := by decide +kernel
theorem dL_isAct_345 : decode cL_isAct 345 = .ok (.aload_n 0, 1) := by decide +kernel
theorem dL_isAct_346 : decode cL_isAct 346 = .ok (.iload 9, 2) := by decide +kernel
theorem dL_isAct_348 : decode cL_isAct 348 = .ok (.invokevirtual 83, 3) := by decide +kernel
theorem dL_isAct_351 : decode cL_isAct 351 = .ok (.ifCond .ge 7, 3) := by decide +kernel
theorem dL_isAct_354 : decode cL_isAct 354 = .ok (.iconst 1, 1) := by decide +kernel
theorem dL_isAct_355 : decode cL_isAct 355 = .ok (.goto 4, 3) := by decide +kernel
theorem dL_isAct_358 : decode cL_isAct 358 = .ok (.iconst 0, 1) := by decide +kernel
theorem dL_isAct_359 : decode cL_isAct 359 = .ok (.iload 10, 2) := by decide +kernel
theorem dL_isAct_361 : decode cL_isAct 361 = .ok (.ifCond .ne 7, 3) := by decide +kernel
theorem dL_isAct_364 : decode cL_isAct 364 = .ok (.iconst 1, 1) := by decide +kernel
theorem dL_isAct_365 : decode cL_isAct 365 = .ok (.goto 4, 3) := by decide +kernel
theorem dL_isAct_368 : decode cL_isAct 368 = .ok (.iconst 0, 1) := by decide +kernel
theorem dL_isAct_369 : decode cL_isAct 369 = .ok (.if_icmp .ne 17, 3) := by decide +kernel
theorem dL_isAct_372 : decode cL_isAct 372 = .ok (.aload_n 0, 1) := by decide +kernel
theorem dL_isAct_373 : decode cL_isAct 373 = .ok (.iload 9, 2) := by decide +kernel
theorem dL_isAct_375 : decode cL_isAct 375 = .ok (.iconst 0, 1) := by decide +kernel
theorem dL_isAct_376 : decode cL_isAct 376 = .ok (.invokevirtual 37, 3) := by decide +kernel
theorem dL_isAct_379 : decode cL_isAct 379 = .ok (.ifCond .ne 7, 3) := by decide +kernel
theorem dL_isAct_382 : decode cL_isAct 382 = .ok (.iconst 1, 1) := by decide +kernel
theorem dL_isAct_383 : decode cL_isAct 383 = .ok (.goto 4, 3) := by decide +kernel
theorem dL_isAct_386 : decode cL_isAct 386 = .ok (.iconst 0, 1) := by decide +kernel
theorem dL_isAct_387 : decode cL_isAct 387 = .ok (.ireturn, 1) := by decide +kernel
theorem dL_isAct_388 : decode cL_isAct 388 = .ok (.aload_n 1, 1) := by decide +kernel
theorem dL_isAct_389 : decode cL_isAct 389 = .ok (.iload_n 2, 1) := by decide +kernel
theorem dL_isAct_390 : decode cL_isAct 390 = .ok (.iconst 1, 1) := by decide +kernel
theorem dL_isAct_391 : decode cL_isAct 391 = .ok (.iadd, 1) := by decide +kernel
theorem dL_isAct_392 : decode cL_isAct 392 = .ok (.iconst 4, 1) := by decide +kernel
theorem dL_isAct_393 : decode cL_isAct 393 = .ok (.invokestatic 63, 3) := by decide +kernel
theorem dL_isAct_396 : decode cL_isAct 396 = .ok (.istore 11, 2) := by decide +kernel
theorem dL_isAct_398 : decode cL_isAct 398 = .ok (.aload_n 1, 1) := by decide +kernel
theorem dL_isAct_399 : decode cL_isAct 399 = .ok (.iload_n 2, 1) := by decide +kernel
theorem dL_isAct_400 : decode cL_isAct 400 = .ok (.iconst 2, 1) := by decide +kernel
theorem dL_isAct_401 : decode cL_isAct 401 = .ok (.iadd, 1) := by decide +kernel
theorem dL_isAct_402 : decode cL_isAct 402 = .ok (.iconst 3, 1) := by decide +kernel
theorem dL_isAct_403 : decode cL_isAct 403 = .ok (.invokestatic 63, 3) := by decide +kernel
theorem dL_isAct_406 : decode cL_isAct 406 = .ok (.ifCond .ne 7, 3) := by decide +kernel
theorem dL_isAct_409 : decode cL_isAct 409 = .ok (.iconst 0, 1) := by decide +kernel
theorem dL_isAct_410 : decode cL_isAct 410 = .ok (.goto 4, 3) := by decide +kernel
theorem dL_isAct_413 : decode cL_isAct 413 = .ok (.iconst 1, 1) := by decide +kernel
theorem dL_isAct_414 : decode cL_isAct 414 = .ok (.istore 12, 2) := by decide +kernel
theorem dL_isAct_416 : decode cL_isAct 416 = .ok (.aload_n 0, 1) := by decide +kernel
theorem dL_isAct_417 : decode cL_isAct 417 = .ok (.iload 11, 2) := by decide +kernel
theorem dL_isAct_419 : decode cL_isAct 419 = .ok (.iconst 1, 1) := by decide +kernel
theorem dL_isAct_420 : decode cL_isAct 420 = .ok (.invokevirtual 37, 3) := by decide +kernel
theorem dL_isAct_423 : decode cL_isAct 423 = .ok (.istore 13, 2) := by decide +kernel
theorem dL_isAct_425 : decode cL_isAct 425 = .ok (.aload_n 0, 1) := by decide +kernel
theorem dL_isAct_426 : decode cL_isAct 426 = .ok (.iload 11, 2) := by decide +kernel
theorem dL_isAct_428 : decode cL_isAct 428 = .ok (.iload 12, 2) := by decide +kernel
theorem dL_isAct_430 : decode cL_isAct 430 = .ok (.invokevirtual 86, 3) := by decide +kernel
theorem dL_isAct_433 : decode cL_isAct 433 = .ok (.iload 13, 2) := by decide +kernel
theorem dL_isAct_435 : decode cL_isAct 435 = .ok (.if_icmp .ne 19, 3) := by decide +kernel
theorem dL_isAct_438 : decode cL_isAct 438 = .ok (.aload_n 0, 1) := by decide +kernel
theorem dL_isAct_439 : decode cL_isAct 439 = .ok (.iload 11, 2) := by decide +kernel
theorem dL_isAct_441 : decode cL_isAct 441 = .ok (.iconst 1, 1) := by decide +kernel
theorem dL_isAct_442 : decode cL_isAct 442 = .ok (.invokevirtual 37, 3) := by decide +kernel
theorem dL_isAct_445 : decode cL_isAct 445 = .ok (.iload 12, 2) := by decide +kernel
theorem dL_isAct_447 : decode cL_isAct 447 = .ok (.if_icmp .ne 7, 3) := by decide +kernel
theorem dL_isAct_450 : decode cL_isAct 450 = .ok (.iconst 1, 1) := by decide +kernel
theorem dL_isAct_451 : decode cL_isAct 451 = .ok (.goto 4, 3) := by decide +kernel
theorem dL_isAct_454 : decode cL_isAct 454 = .ok (.iconst 0, 1) := by decide +kernel
theorem dL_isAct_455 : decode cL_isAct 455 = .ok (.ireturn, 1) := by decide +kernel
theorem dL_isAct_456 : decode cL_isAct 456 = .ok (.aload_n 1, 1) := by decide +kernel
theorem dL_isAct_457 : decode cL_isAct 457 = .ok (.iload_n 2, 1) := by decide +kernel
theorem dL_isAct_458 : decode cL_isAct 458 = .ok (.iconst 1, 1) := by decide +kernel
theorem dL_isAct_459 : decode cL_isAct 459 = .ok (.iadd, 1) := by decide +kernel
theorem dL_isAct_460 : decode cL_isAct 460 = .ok (.iconst 4, 1) := by decide +kernel
theorem dL_isAct_461 : decode cL_isAct 461 = .ok (.invokestatic 63, 3) := by decide +kernel
theorem dL_isAct_464 : decode cL_isAct 464 = .ok (.istore 14, 2) := by decide +kernel
theorem dL_isAct_466 : decode cL_isAct 466 = .ok (.iload 14, 2) := by decide +kernel
theorem dL_isAct_468 : decode cL_isAct 468 = .ok (.iconst 3, 1) := by decide +kernel
theorem dL_isAct_469 : decode cL_isAct 469 = .ok (.if_icmp .ne 14, 3) := by decide +kernel
theorem dL_isAct_472 : decode cL_isAct 472 = .ok (.aload_n 1, 1) := by decide +kernel
theorem dL_isAct_473 : decode cL_isAct 473 = .ok (.iload_n 2, 1) := by decide +kernel
theorem dL_isAct_474 : decode cL_isAct 474 = .ok (.iconst 2, 1) := by decide +kernel
theorem dL_isAct_475 : decode cL_isAct 475 = .ok (.iadd, 1) := by decide +kernel
theorem dL_isAct_476 : decode cL_isAct 476 = .ok (.iconst 2, 1) := by decide +kernel
theorem dL_isAct_477 : decode cL_isAct 477 = .ok (.invokestatic 63, 3) := by decide +kernel
theorem dL_isAct_480 : decode cL_isAct 480 = .ok (.goto 14, 3) := by decide +kernel
theorem dL_isAct_483 : decode cL_isAct 483 = .ok (.iconst 1, 1) := by decide +kernel
theorem dL_isAct_484 : decode cL_isAct 484 = .ok (.aload_n 1, 1) := by decide +kernel
theorem dL_isAct_485 : decode cL_isAct 485 = .ok (.iload_n 2, 1) := by decide +kernel
theorem dL_isAct_486 : decode cL_isAct 486 = .ok (.iconst 2, 1) := by decide +kernel
theorem dL_isAct_487 : decode cL_isAct 487 = .ok (.iadd, 1) := by decide +kernel
theorem dL_isAct_488 : decode cL_isAct 488 = .ok (.bipush 6, 2) := by decide +kernel
theorem dL_isAct_490 : decode cL_isAct 490 = .ok (.invokestatic 63, 3) := by decide +kernel
theorem dL_isAct_493 : decode cL_isAct 493 = .ok (.iadd, 1) := by decide +kernel
theorem dL_isAct_494 : decode cL_isAct 494 = .ok (.istore 15, 2) := by decide +kernel
theorem dL_isAct_496 : decode cL_isAct 496 = .ok (.aload_n 0, 1) := by decide +kernel
theorem dL_isAct_497 : decode cL_isAct 497 = .ok (.bipush 7, 2) := by decide +kernel
theorem dL_isAct_499 : decode cL_isAct 499 = .ok (.iload 14, 2) := by decide +kernel
theorem dL_isAct_501 : decode cL_isAct 501 = .ok (.iadd, 1) := by decide +kernel
theorem dL_isAct_502 : decode cL_isAct 502 = .ok (.invokevirtual 8, 3) := by decide +kernel
theorem dL_isAct_505 : decode cL_isAct 505 = .ok (.istore 16, 2) := by decide +kernel
theorem dL_isAct_507 : decode cL_isAct 507 = .ok (.aload_n 0, 1) := by decide +kernel
theorem dL_isAct_508 : decode cL_isAct 508 = .ok (.iload 14, 2) := by decide +kernel
theorem dL_isAct_510 : decode cL_isAct 510 = .ok (.iload 15, 2) := by decide +kernel
theorem dL_isAct_512 : decode cL_isAct 512 = .ok (.invokevirtual 89, 3) := by decide +kernel
theorem dL_isAct_515 : decode cL_isAct 515 = .ok (.iload 16, 2) := by decide +kernel
theorem dL_isAct_517 : decode cL_isAct 517 = .ok (.if_icmp .ne 21, 3) := by decide +kernel
theorem dL_isAct_520 : decode cL_isAct 520 = .ok (.aload_n 0, 1) := by decide +kernel
theorem dL_isAct_521 : decode cL_isAct 521 = .ok (.bipush 7, 2) := by decide +kernel
theorem dL_isAct_523 : decode cL_isAct 523 = .ok (.iload 14, 2) := by decide +kernel
theorem dL_isAct_525 : decode cL_isAct 525 = .ok (.iadd, 1) := by decide +kernel
theorem dL_isAct_526 : decode cL_isAct 526 = .ok (.invokevirtual 8, 3) := by decide +kernel
theorem dL_isAct_529 : decode cL_isAct 529 = .ok (.iload 15, 2) := by decide +kernel
theorem dL_isAct_531 : decode cL_isAct 531 = .ok (.if_icmp .ne 7, 3) := by decide +kernel
theorem dL_isAct_534 : decode cL_isAct 534 = .ok (.iconst 1, 1) := by decide +kernel
theorem dL_isAct_535 : decode cL_isAct 535 = .ok (.goto 4, 3) := by decide +kernel
theorem dL_isAct_538 : decode cL_isAct 538 = .ok (.iconst 0, 1) := by decide +kernel
theorem dL_isAct_539 : decode cL_isAct 539 = .ok (.ireturn, 1) := by decide +kernel
theorem dL_isAct_540 : decode cL_isAct 540 = .ok (.aload_n 0, 1) := by decide +kernel
theorem dL_isAct_541 : decode cL_isAct 541 = .ok (.iload 4, 2) := by decide +kernel
theorem dL_isAct_543 : decode cL_isAct 543 = .ok (.invokestatic 92, 3) := by decide +kernel
theorem dL_isAct_546 : decode cL_isAct 546 = .ok (.ireturn, 1) := by decide +kernel
theorem dL_law_0 : decode cL_law 0 = .ok (.new 9, 3) := by decide +kernel
theorem dL_law_3 : decode cL_law 3 = .ok (.dup, 1) := by decide +kernel
theorem dL_law_4 : decode cL_law 4 = .ok (.invokespecial 95, 3) := by decide +kernel
theorem dL_law_7 : decode cL_law 7 = .ok (.astore_n 1, 1) := by decide +kernel
theorem dL_law_8 : decode cL_law 8 = .ok (.aload_n 1, 1) := by decide +kernel
theorem dL_law_9 : decode cL_law 9 = .ok (.iconst 1, 1) := by decide +kernel
theorem dL_law_10 : decode cL_law 10 = .ok (.aload_n 0, 1) := by decide +kernel
theorem dL_law_11 : decode cL_law 11 = .ok (.iconst 0, 1) := by decide +kernel
theorem dL_law_12 : decode cL_law 12 = .ok (.bipush 15, 2) := by decide +kernel
theorem dL_law_14 : decode cL_law 14 = .ok (.invokestatic 63, 3) := by decide +kernel
theorem dL_law_17 : decode cL_law 17 = .ok (.iadd, 1) := by decide +kernel
theorem dL_law_18 : decode cL_law 18 = .ok (.invokestatic 67, 3) := by decide +kernel
theorem dL_law_21 : decode cL_law 21 = .ok (.ifCond .ne 5, 3) := by decide +kernel
theorem dL_law_24 : decode cL_law 24 = .ok (.iconst 0, 1) := by decide +kernel
theorem dL_law_25 : decode cL_law 25 = .ok (.ireturn, 1) := by decide +kernel
theorem dL_law_26 : decode cL_law 26 = .ok (.iconst 0, 1) := by decide +kernel
theorem dL_law_27 : decode cL_law 27 = .ok (.istore_n 2, 1) := by decide +kernel
theorem dL_law_28 : decode cL_law 28 = .ok (.iload_n 2, 1) := by decide +kernel
theorem dL_law_29 : decode cL_law 29 = .ok (.bipush 70, 2) := by decide +kernel
theorem dL_law_31 : decode cL_law 31 = .ok (.if_icmp .ge 31, 3) := by decide +kernel
theorem dL_law_34 : decode cL_law 34 = .ok (.aload_n 1, 1) := by decide +kernel
theorem dL_law_35 : decode cL_law 35 = .ok (.aload_n 0, 1) := by decide +kernel
theorem dL_law_36 : decode cL_law 36 = .ok (.iconst 1, 1) := by decide +kernel
theorem dL_law_37 : decode cL_law 37 = .ok (.iconst 3, 1) := by decide +kernel
theorem dL_law_38 : decode cL_law 38 = .ok (.iload_n 2, 1) := by decide +kernel
theorem dL_law_39 : decode cL_law 39 = .ok (.imul, 1) := by decide +kernel
theorem dL_law_40 : decode cL_law 40 = .ok (.iadd, 1) := by decide +kernel
theorem dL_law_41 : decode cL_law 41 = .ok (.invokestatic 96, 3) := by decide +kernel
theorem dL_law_44 : decode cL_law 44 = .ok (.ifCond .eq 10, 3) := by decide +kernel
theorem dL_law_47 : decode cL_law 47 = .ok (.aload_n 1, 1) := by decide +kernel
theorem dL_law_48 : decode cL_law 48 = .ok (.invokestatic 100, 3) := by decide +kernel
theorem dL_law_51 : decode cL_law 51 = .ok (.ifCond .ne 5, 3) := by decide +kernel
theorem dL_law_54 : decode cL_law 54 = .ok (.iconst 0, 1) := by decide +kernel
theorem dL_law_55 : decode cL_law 55 = .ok (.ireturn, 1) := by decide +kernel
theorem dL_law_56 : decode cL_law 56 = .ok (.iinc 2 1, 3) := by decide +kernel
theorem dL_law_59 : decode cL_law 59 = .ok (.goto (-31), 3) := by decide +kernel
theorem dL_law_62 : decode cL_law 62 = .ok (.iconst 1, 1) := by decide +kernel
theorem dL_law_63 : decode cL_law 63 = .ok (.ireturn, 1) := by decide +kernel
