theorem dJ9_floorMod_7cf53_0 : decode cJ9_floorMod_7cf53 0 = .ok (.iload_n 0, 1) := by decide +kernel
theorem dJ9_floorMod_7cf53_1 : decode cJ9_floorMod_7cf53 1 = .ok (.iload_n 1, 1) := by decide +kernel
theorem dJ9_floorMod_7cf53_2 : decode cJ9_floorMod_7cf53 2 = .ok (.irem, 1) := by decide +kernel
theorem dJ9_floorMod_7cf53_3 : decode cJ9_floorMod_7cf53 3 = .ok (.istore_n 2, 1) := by decide +kernel
theorem dJ9_floorMod_7cf53_4 : decode cJ9_floorMod_7cf53 4 = .ok (.iload_n 0, 1) := by decide +kernel
theorem dJ9_floorMod_7cf53_5 : decode cJ9_floorMod_7cf53 5 = .ok (.iload_n 1, 1) := by decide +kernel
theorem dJ9_floorMod_7cf53_6 : decode cJ9_floorMod_7cf53 6 = .ok (.ixor, 1) := by decide +kernel
theorem dJ9_floorMod_7cf53_7 : decode cJ9_floorMod_7cf53 7 = .ok (.ifCond .ge 11, 3) := by decide +kernel
theorem dJ9_floorMod_7cf53_10 : decode cJ9_floorMod_7cf53 10 = .ok (.iload_n 2, 1) := by decide +kernel
theorem dJ9_floorMod_7cf53_11 : decode cJ9_floorMod_7cf53 11 = .ok (.ifCond .eq 7, 3) := by decide +kernel
theorem dJ9_floorMod_7cf53_14 : decode cJ9_floorMod_7cf53 14 = .ok (.iload_n 2, 1) := by decide +kernel
theorem dJ9_floorMod_7cf53_15 : decode cJ9_floorMod_7cf53 15 = .ok (.iload_n 1, 1) := by decide +kernel
theorem dJ9_floorMod_7cf53_16 : decode cJ9_floorMod_7cf53 16 = .ok (.iadd, 1) := by decide +kernel
theorem dJ9_floorMod_7cf53_17 : decode cJ9_floorMod_7cf53 17 = .ok (.ireturn, 1) := by decide +kernel
theorem dJ9_floorMod_7cf53_18 : decode cJ9_floorMod_7cf53 18 = .ok (.iload_n 2, 1) := by decide +kernel
theorem dJ9_floorMod_7cf53_19 : decode cJ9_floorMod_7cf53 19 = .ok (.ireturn, 1) := by decide +kernel
theorem dJ9_min_7cf53_0 : decode cJ9_min_7cf53 0 = .ok (.iload_n 0, 1) := by decide +kernel
theorem dJ9_min_7cf53_1 : decode cJ9_min_7cf53 1 = .ok (.iload_n 1, 1) := by decide +kernel
theorem dJ9_min_7cf53_2 : decode cJ9_min_7cf53 2 = .ok (.if_icmp .gt 7, 3) := by decide +kernel
theorem dJ9_min_7cf53_5 : decode cJ9_min_7cf53 5 = .ok (.iload_n 0, 1) := by decide +kernel
theorem dJ9_min_7cf53_6 : decode cJ9_min_7cf53 6 = .ok (.goto 4, 3) := by decide +kernel
theorem dJ9_min_7cf53_9 : decode cJ9_min_7cf53 9 = .ok (.iload_n 1, 1) := by decide +kernel
theorem dJ9_min_7cf53_10 : decode cJ9_min_7cf53 10 = .ok (.ireturn, 1) := by decide +kernel
theorem dJ7_fill_53178_0 : decode cJ7_fill_53178 0 = .ok (.iconst 0, 1) := by decide +kernel
theorem dJ7_fill_53178_1 : decode cJ7_fill_53178 1 = .ok (.istore_n 2, 1) := by decide +kernel
theorem dJ7_fill_53178_2 : decode cJ7_fill_53178 2 = .ok (.aload_n 0, 1) := by decide +kernel
theorem dJ7_fill_53178_3 : decode cJ7_fill_53178 3 = .ok (.arraylength, 1) := by decide +kernel
theorem dJ7_fill_53178_4 : decode cJ7_fill_53178 4 = .ok (.istore_n 3, 1) := by decide +kernel
theorem dJ7_fill_53178_5 : decode cJ7_fill_53178 5 = .ok (.iload_n 2, 1) := by decide +kernel
theorem dJ7_fill_53178_6 : decode cJ7_fill_53178 6 = .ok (.iload_n 3, 1) := by decide +kernel
theorem dJ7_fill_53178_7 : decode cJ7_fill_53178 7 = .ok (.if_icmp .ge 13, 3) := by decide +kernel
theorem dJ7_fill_53178_10 : decode cJ7_fill_53178 10 = .ok (.aload_n 0, 1) := by decide +kernel
theorem dJ7_fill_53178_11 : decode cJ7_fill_53178 11 = .ok (.iload_n 2, 1) := by decide +kernel
theorem dJ7_fill_53178_12 : decode cJ7_fill_53178 12 = .ok (.iload_n 1, 1) := by decide +kernel
theorem dJ7_fill_53178_13 : decode cJ7_fill_53178 13 = .ok (.iastore, 1) := by decide +kernel
theorem dJ7_fill_53178_14 : decode cJ7_fill_53178 14 = .ok (.iinc 2 1, 3) := by decide +kernel
theorem dJ7_fill_53178_17 : decode cJ7_fill_53178 17 = .ok (.goto (-12), 3) := by decide +kernel
theorem dJ7_fill_53178_20 : decode cJ7_fill_53178 20 = .ok (.return_, 1) := by decide +kernel
theorem dL_cell_0 : decode cL_cell 0 = .ok (.iload_n 1, 1) := by decide +kernel
theorem dL_cell_1 : decode cL_cell 1 = .ok (.aload_n 0, 1) := by decide +kernel
theorem dL_cell_2 : decode cL_cell 2 = .ok (.arraylength, 1) := by decide +kernel
theorem dL_cell_3 : decode cL_cell 3 = .ok (.if_icmp .ge 9, 3) := by decide +kernel
theorem dL_cell_6 : decode cL_cell 6 = .ok (.aload_n 0, 1) := by decide +kernel
theorem dL_cell_7 : decode cL_cell 7 = .ok (.iload_n 1, 1) := by decide +kernel
theorem dL_cell_8 : decode cL_cell 8 = .ok (.iaload, 1) := by decide +kernel
theorem dL_cell_9 : decode cL_cell 9 = .ok (.goto 11, 3) := by decide +kernel
theorem dL_cell_12 : decode cL_cell 12 = .ok (.ldc 7, 2) := by decide +kernel
theorem dL_cell_14 : decode cL_cell 14 = .ok (.iload_n 1, 1) := by decide +kernel
theorem dL_cell_15 : decode cL_cell 15 = .ok (.sipush 349, 3) := by decide +kernel
theorem dL_cell_18 : decode cL_cell 18 = .ok (.iadd, 1) := by decide +kernel
theorem dL_cell_19 : decode cL_cell 19 = .ok (.imul, 1) := by decide +kernel
theorem dL_cell_20 : decode cL_cell 20 = .ok (.ireturn, 1) := by decide +kernel
theorem dL_up_0 : decode cL_up 0 = .ok (.iload_n 0, 1) := by decide +kernel
theorem dL_up_1 : decode cL_up 1 = .ok (.ldc 8, 2) := by decide +kernel
theorem dL_up_3 : decode cL_up 3 = .ok (.iand, 1) := by decide +kernel
theorem dL_up_4 : decode cL_up 4 = .ok (.iload_n 1, 1) := by decide +kernel
theorem dL_up_5 : decode cL_up 5 = .ok (.irem, 1) := by decide +kernel
theorem dL_up_6 : decode cL_up 6 = .ok (.ireturn, 1) := by decide +kernel
theorem dL_act_0 : decode cL_act 0 = .ok (.iload_n 3, 1) := by decide +kernel
theorem dL_act_1 : decode cL_act 1 = .ok (.bipush 8, 2) := by decide +kernel
theorem dL_act_3 : decode cL_act 3 = .ok (.invokestatic 9, 3) := by decide +kernel
theorem dL_act_6 : decode cL_act 6 = .ok (.istore 4, 2) := by decide +kernel
theorem dL_act_8 : decode cL_act 8 = .ok (.iload 4, 2) := by decide +kernel
theorem dL_act_10 : decode cL_act 10 = .ok (.iconst 1, 1) := by decide +kernel
theorem dL_act_11 : decode cL_act 11 = .ok (.iadd, 1) := by decide +kernel
theorem dL_act_12 : decode cL_act 12 = .ok (.iload_n 3, 1) := by decide +kernel
theorem dL_act_13 : decode cL_act 13 = .ok (.iconst 3, 1) := by decide +kernel
theorem dL_act_14 : decode cL_act 14 = .ok (.ishr, 1) := by decide +kernel
theorem dL_act_15 : decode cL_act 15 = .ok (.bipush 7, 2) := by decide +kernel
theorem dL_act_17 : decode cL_act 17 = .ok (.invokestatic 9, 3) := by decide +kernel
theorem dL_act_20 : decode cL_act 20 = .ok (.iadd, 1) := by decide +kernel
theorem dL_act_21 : decode cL_act 21 = .ok (.bipush 8, 2) := by decide +kernel
theorem dL_act_23 : decode cL_act 23 = .ok (.irem, 1) := by decide +kernel
theorem dL_act_24 : decode cL_act 24 = .ok (.istore 5, 2) := by decide +kernel
theorem dL_act_26 : decode cL_act 26 = .ok (.iload 5, 2) := by decide +kernel
theorem dL_act_28 : decode cL_act 28 = .ok (.iconst 1, 1) := by decide +kernel
theorem dL_act_29 : decode cL_act 29 = .ok (.iadd, 1) := by decide +kernel
theorem dL_act_30 : decode cL_act 30 = .ok (.iload_n 3, 1) := by decide +kernel
theorem dL_act_31 : decode cL_act 31 = .ok (.bipush 6, 2) := by decide +kernel
theorem dL_act_33 : decode cL_act 33 = .ok (.ishr, 1) := by decide +kernel
theorem dL_act_34 : decode cL_act 34 = .ok (.bipush 7, 2) := by decide +kernel
theorem dL_act_36 : decode cL_act 36 = .ok (.invokestatic 9, 3) := by decide +kernel
theorem dL_act_39 : decode cL_act 39 = .ok (.iadd, 1) := by decide +kernel
theorem dL_act_40 : decode cL_act 40 = .ok (.bipush 8, 2) := by decide +kernel
theorem dL_act_42 : decode cL_act 42 = .ok (.irem, 1) := by decide +kernel
theorem dL_act_43 : decode cL_act 43 = .ok (.istore 6, 2) := by decide +kernel
theorem dL_act_45 : decode cL_act 45 = .ok (.iload_n 3, 1) := by decide +kernel
theorem dL_act_46 : decode cL_act 46 = .ok (.bipush 9, 2) := by decide +kernel
theorem dL_act_48 : decode cL_act 48 = .ok (.ishr, 1) := by decide +kernel
theorem dL_act_49 : decode cL_act 49 = .ok (.iconst 4, 1) := by decide +kernel
theorem dL_act_50 : decode cL_act 50 = .ok (.invokestatic 9, 3) := by decide +kernel
theorem dL_act_53 : decode cL_act 53 = .ok (.istore 7, 2) := by decide +kernel
theorem dL_act_55 : decode cL_act 55 = .ok (.iload_n 3, 1) := by decide +kernel
theorem dL_act_56 : decode cL_act 56 = .ok (.bipush 11, 2) := by decide +kernel
theorem dL_act_58 : decode cL_act 58 = .ok (.ishr, 1) := by decide +kernel
theorem dL_act_59 : decode cL_act 59 = .ok (.sipush 10000, 3) := by decide +kernel
theorem dL_act_62 : decode cL_act 62 = .ok (.invokestatic 9, 3) := by decide +kernel
theorem dL_act_65 : decode cL_act 65 = .ok (.istore 8, 2) := by decide +kernel
theorem dL_act_67 : decode cL_act 67 = .ok (.aload_n 0, 1) := by decide +kernel
theorem dL_act_68 : decode cL_act 68 = .ok (.invokevirtual 15, 3) := by decide +kernel
theorem dL_act_71 : decode cL_act 71 = .ok (.istore 9, 2) := by decide +kernel
theorem dL_act_73 : decode cL_act 73 = .ok (.aload_n 0, 1) := by decide +kernel
theorem dL_act_74 : decode cL_act 74 = .ok (.invokevirtual 21, 3) := by decide +kernel
theorem dL_act_77 : decode cL_act 77 = .ok (.istore 10, 2) := by decide +kernel
theorem dL_act_79 : decode cL_act 79 = .ok (.iload_n 2, 1) := by decide +kernel
theorem dL_act_80 : decode cL_act 80 = .ok (.bipush 16, 2) := by decide +kernel
theorem dL_act_82 : decode cL_act 82 = .ok (.invokestatic 9, 3) := by decide +kernel
theorem dL_act_85 : decode cL_act 85 = .ok (.tableswitch 323 0 11 #[63, 63, 91, 100, 100, 100, 165, 283, 283, 283, 289, 289], 63) := by decide +kernel
theorem dL_act_148 : decode cL_act 148 = .ok (.aload_n 0, 1) := by decide +kernel
theorem dL_act_149 : decode cL_act 149 = .ok (.iload 4, 2) := by decide +kernel
theorem dL_act_151 : decode cL_act 151 = .ok (.iload_n 3, 1) := by decide +kernel
theorem dL_act_152 : decode cL_act 152 = .ok (.iconst 4, 1) := by decide +kernel
theorem dL_act_153 : decode cL_act 153 = .ok (.ishr, 1) := by decide +kernel
theorem dL_act_154 : decode cL_act 154 = .ok (.iconst 3, 1) := by decide +kernel
theorem dL_act_155 : decode cL_act 155 = .ok (.iand, 1) := by decide +kernel
theorem dL_act_156 : decode cL_act 156 = .ok (.ifCond .le 7, 3) := by decide +kernel
theorem dL_act_159 : decode cL_act 159 = .ok (.iconst 1, 1) := by decide +kernel
theorem dL_act_160 : decode cL_act 160 = .ok (.goto 4, 3) := by decide +kernel
theorem dL_act_163 : decode cL_act 163 = .ok (.iconst 0, 1) := by decide +kernel
theorem dL_act_164 : decode cL_act 164 = .ok (.invokevirtual 24, 3) := by decide +kernel
theorem dL_act_167 : decode cL_act 167 = .ok (.ifCond .eq 7, 3) := by decide +kernel
theorem dL_act_170 : decode cL_act 170 = .ok (.iconst 1, 1) := by decide +kernel
theorem dL_act_171 : decode cL_act 171 = .ok (.goto 4, 3) := by decide +kernel
theorem dL_act_174 : decode cL_act 174 = .ok (.iconst 0, 1) := by decide +kernel
theorem dL_act_175 : decode cL_act 175 = .ok (.ireturn, 1) := by decide +kernel
theorem dL_act_176 : decode cL_act 176 = .ok (.aload_n 0, 1) := by decide +kernel
theorem dL_act_177 : decode cL_act 177 = .ok (.iload 4, 2) := by decide +kernel
theorem dL_act_179 : decode cL_act 179 = .ok (.iload 8, 2) := by decide +kernel
theorem dL_act_181 : decode cL_act 181 = .ok (.invokevirtual 28, 3) := by decide +kernel
theorem dL_act_184 : decode cL_act 184 = .ok (.ireturn, 1) := by decide +kernel
theorem dL_act_185 : decode cL_act 185 = .ok (.iload 4, 2) := by decide +kernel
theorem dL_act_187 : decode cL_act 187 = .ok (.iload 6, 2) := by decide +kernel
theorem dL_act_189 : decode cL_act 189 = .ok (.if_icmp .eq 52, 3) := by decide +kernel
theorem dL_act_192 : decode cL_act 192 = .ok (.iload 9, 2) := by decide +kernel
theorem dL_act_194 : decode cL_act 194 = .ok (.bipush 6, 2) := by decide +kernel
theorem dL_act_196 : decode cL_act 196 = .ok (.if_icmp .ge 45, 3) := by decide +kernel
theorem dL_act_199 : decode cL_act 199 = .ok (.aload_n 0, 1) := by decide +kernel
theorem dL_act_200 : decode cL_act 200 = .ok (.iload 4, 2) := by decide +kernel
theorem dL_act_202 : decode cL_act 202 = .ok (.invokevirtual 31, 3) := by decide +kernel
theorem dL_act_205 : decode cL_act 205 = .ok (.ifCond .eq 36, 3) := by decide +kernel
theorem dL_act_208 : decode cL_act 208 = .ok (.aload_n 0, 1) := by decide +kernel
theorem dL_act_209 : decode cL_act 209 = .ok (.iload 5, 2) := by decide +kernel
theorem dL_act_211 : decode cL_act 211 = .ok (.invokevirtual 31, 3) := by decide +kernel
theorem dL_act_214 : decode cL_act 214 = .ok (.ifCond .eq 27, 3) := by decide +kernel
theorem dL_act_217 : decode cL_act 217 = .ok (.aload_n 0, 1) := by decide +kernel
theorem dL_act_218 : decode cL_act 218 = .ok (.iload 6, 2) := by decide +kernel
theorem dL_act_220 : decode cL_act 220 = .ok (.invokevirtual 31, 3) := by decide +kernel
theorem dL_act_223 : decode cL_act 223 = .ok (.ifCond .eq 18, 3) := by decide +kernel
theorem dL_act_226 : decode cL_act 226 = .ok (.aload_n 0, 1) := by decide +kernel
theorem dL_act_227 : decode cL_act 227 = .ok (.iload 4, 2) := by decide +kernel
theorem dL_act_229 : decode cL_act 229 = .ok (.iload 5, 2) := by decide +kernel
theorem dL_act_231 : decode cL_act 231 = .ok (.iload 6, 2) := by decide +kernel
theorem dL_act_233 : decode cL_act 233 = .ok (.iload 7, 2) := by decide +kernel
theorem dL_act_235 : decode cL_act 235 = .ok (.invokevirtual 35, 3) := by decide +kernel
theorem dL_act_238 : decode cL_act 238 = .ok (.goto 11, 3) := by decide +kernel
theorem dL_act_241 : decode cL_act 241 = .ok (.aload_n 0, 1) := by decide +kernel
theorem dL_act_242 : decode cL_act 242 = .ok (.iload 4, 2) := by decide +kernel
theorem dL_act_244 : decode cL_act 244 = .ok (.iload 8, 2) := by decide +kernel
theorem dL_act_246 : decode cL_act 246 = .ok (.invokevirtual 28, 3) := by decide +kernel
theorem dL_act_249 : decode cL_act 249 = .ok (.ireturn, 1) := by decide +kernel
theorem dL_act_250 : decode cL_act 250 = .ok (.iload 9, 2) := by decide +kernel
theorem dL_act_252 : decode cL_act 252 = .ok (.ifCond .le 7, 3) := by decide +kernel
theorem dL_act_255 : decode cL_act 255 = .ok (.iconst 1, 1) := by decide +kernel
theorem dL_act_256 : decode cL_act 256 = .ok (.goto 4, 3) := by decide +kernel
theorem dL_act_259 : decode cL_act 259 = .ok (.iconst 0, 1) := by decide +kernel
theorem dL_act_260 : decode cL_act 260 = .ok (.istore 11, 2) := by decide +kernel
theorem dL_act_262 : decode cL_act 262 = .ok (.iconst 0, 1) := by decide +kernel
theorem dL_act_263 : decode cL_act 263 = .ok (.istore 12, 2) := by decide +kernel
theorem dL_act_265 : decode cL_act 265 = .ok (.iload 12, 2) := by decide +kernel
theorem dL_act_267 : decode cL_act 267 = .ok (.iload 10, 2) := by decide +kernel
theorem dL_act_269 : decode cL_act 269 = .ok (.if_icmp .ge 35, 3) := by decide +kernel
theorem dL_act_272 : decode cL_act 272 = .ok (.iload 11, 2) := by decide +kernel
theorem dL_act_274 : decode cL_act 274 = .ok (.ifCond .eq 21, 3) := by decide +kernel
theorem dL_act_277 : decode cL_act 277 = .ok (.aload_n 0, 1) := by decide +kernel
theorem dL_act_278 : decode cL_act 278 = .ok (.iload 12, 2) := by decide +kernel
theorem dL_act_280 : decode cL_act 280 = .ok (.iconst 0, 1) := by decide +kernel
theorem dL_act_281 : decode cL_act 281 = .ok (.invokevirtual 39, 3) := by decide +kernel
theorem dL_act_284 : decode cL_act 284 = .ok (.iload 9, 2) := by decide +kernel
theorem dL_act_286 : decode cL_act 286 = .ok (.iconst 1, 1) := by decide +kernel
theorem dL_act_287 : decode cL_act 287 = .ok (.isub, 1) := by decide +kernel
theorem dL_act_288 : decode cL_act 288 = .ok (.if_icmp .eq 7, 3) := by decide +kernel
theorem dL_act_291 : decode cL_act 291 = .ok (.iconst 1, 1) := by decide +kernel
theorem dL_act_292 : decode cL_act 292 = .ok (.goto 4, 3) := by decide +kernel
theorem dL_act_295 : decode cL_act 295 = .ok (.iconst 0, 1) := by decide +kernel
theorem dL_act_296 : decode cL_act 296 = .ok (.istore 11, 2) := by decide +kernel
theorem dL_act_298 : decode cL_act 298 = .ok (.iinc 12 1, 3) := by decide +kernel
theorem dL_act_301 : decode cL_act 301 = .ok (.goto (-36), 3) := by decide +kernel
theorem dL_act_304 : decode cL_act 304 = .ok (.iconst 0, 1) := by decide +kernel
theorem dL_act_305 : decode cL_act 305 = .ok (.istore 12, 2) := by decide +kernel
theorem dL_act_307 : decode cL_act 307 = .ok (.iload 12, 2) := by decide +kernel
theorem dL_act_309 : decode cL_act 309 = .ok (.iconst 4, 1) := by decide +kernel
theorem dL_act_310 : decode cL_act 310 = .ok (.if_icmp .ge 37, 3) := by decide +kernel
theorem dL_act_313 : decode cL_act 313 = .ok (.iload 11, 2) := by decide +kernel
theorem dL_act_315 : decode cL_act 315 = .ok (.ifCond .eq 32, 3) := by decide +kernel
theorem dL_act_318 : decode cL_act 318 = .ok (.aload_n 1, 1) := by decide +kernel
theorem dL_act_319 : decode cL_act 319 = .ok (.iload 12, 2) := by decide +kernel
theorem dL_act_321 : decode cL_act 321 = .ok (.aload_n 1, 1) := by decide +kernel
theorem dL_act_322 : decode cL_act 322 = .ok (.iload 12, 2) := by decide +kernel
theorem dL_act_324 : decode cL_act 324 = .ok (.iaload, 1) := by decide +kernel
theorem dL_act_325 : decode cL_act 325 = .ok (.iload 9, 2) := by decide +kernel
theorem dL_act_327 : decode cL_act 327 = .ok (.iconst 1, 1) := by decide +kernel
theorem dL_act_328 : decode cL_act 328 = .ok (.isub, 1) := by decide +kernel
theorem dL_act_329 : decode cL_act 329 = .ok (.if_icmp .ne 7, 3) := by decide +kernel
theorem dL_act_332 : decode cL_act 332 = .ok (.iconst (-1), 1) := by decide +kernel
theorem dL_act_333 : decode cL_act 333 = .ok (.goto 7, 3) := by decide +kernel
theorem dL_act_336 : decode cL_act 336 = .ok (.aload_n 1, 1) := by decide +kernel
theorem dL_act_337 : decode cL_act 337 = .ok (.iload 12, 2) := by decide +kernel
theorem dL_act_339 : decode cL_act 339 = .ok (.iaload, 1) := by decide +kernel
theorem dL_act_340 : decode cL_act 340 = .ok (.iastore, 1) := by decide +kernel
theorem dL_act_341 : decode cL_act 341 = .ok (.iinc 12 1, 3) := by decide +kernel
theorem dL_act_344 : decode cL_act 344 = .ok (.goto (-37), 3) := by decide +kernel
theorem dL_act_347 : decode cL_act 347 = .ok (.iload 11, 2) := by decide +kernel
theorem dL_act_349 : decode cL_act 349 = .ok (.ifCond .eq 10, 3) := by decide +kernel
theorem dL_act_352 : decode cL_act 352 = .ok (.aload_n 0, 1) := by decide +kernel
theorem dL_act_353 : decode cL_act 353 = .ok (.invokevirtual 42, 3) := by decide +kernel
theorem dL_act_356 : decode cL_act 356 = .ok (.goto 11, 3) := by decide +kernel
theorem dL_act_359 : decode cL_act 359 = .ok (.aload_n 0, 1) := by decide +kernel
theorem dL_act_360 : decode cL_act 360 = .ok (.iload 4, 2) := by decide +kernel
theorem dL_act_362 : decode cL_act 362 = .ok (.iload 8, 2) := by decide +kernel
theorem dL_act_364 : decode cL_act 364 = .ok (.invokevirtual 28, 3) := by decide +kernel
theorem dL_act_367 : decode cL_act 367 = .ok (.ireturn, 1) := by decide +kernel
theorem dL_act_368 : decode cL_act 368 = .ok (.aload_n 0, 1) := by decide +kernel
theorem dL_act_369 : decode cL_act 369 = .ok (.aload_n 1, 1) := by decide +kernel
theorem dL_act_370 : decode cL_act 370 = .ok (.invokestatic 45, 3) := by decide +kernel
theorem dL_act_373 : decode cL_act 373 = .ok (.ireturn, 1) := by decide +kernel
theorem dL_act_374 : decode cL_act 374 = .ok (.aload_n 1, 1) := by decide +kernel
theorem dL_act_375 : decode cL_act 375 = .ok (.iload 7, 2) := by decide +kernel
theorem dL_act_377 : decode cL_act 377 = .ok (.iaload, 1) := by decide +kernel
theorem dL_act_378 : decode cL_act 378 = .ok (.ifCond .lt 21, 3) := by decide +kernel
theorem dL_act_381 : decode cL_act 381 = .ok (.iload 10, 2) := by decide +kernel
theorem dL_act_383 : decode cL_act 383 = .ok (.bipush 12, 2) := by decide +kernel
theorem dL_act_385 : decode cL_act 385 = .ok (.if_icmp .ge 14, 3) := by decide +kernel
theorem dL_act_388 : decode cL_act 388 = .ok (.aload_n 0, 1) := by decide +kernel
theorem dL_act_389 : decode cL_act 389 = .ok (.iload 7, 2) := by decide +kernel
theorem dL_act_391 : decode cL_act 391 = .ok (.iload 8, 2) := by decide +kernel
theorem dL_act_393 : decode cL_act 393 = .ok (.invokevirtual 49, 3) := by decide +kernel
theorem dL_act_396 : decode cL_act 396 = .ok (.goto 11, 3) := by decide +kernel
theorem dL_act_399 : decode cL_act 399 = .ok (.aload_n 0, 1) := by decide +kernel
theorem dL_act_400 : decode cL_act 400 = .ok (.iload 4, 2) := by decide +kernel
theorem dL_act_402 : decode cL_act 402 = .ok (.iload 8, 2) := by decide +kernel
theorem dL_act_404 : decode cL_act 404 = .ok (.invokevirtual 28, 3) := by decide +kernel
theorem dL_act_407 : decode cL_act 407 = .ok (.ireturn, 1) := by decide +kernel
theorem dL_act_408 : decode cL_act 408 = .ok (.iload 9, 2) := by decide +kernel
theorem dL_act_410 : decode cL_act 410 = .ok (.ifCond .le 25, 3) := by decide +kernel
theorem dL_act_413 : decode cL_act 413 = .ok (.iload 10, 2) := by decide +kernel
theorem dL_act_415 : decode cL_act 415 = .ok (.bipush 12, 2) := by decide +kernel
theorem dL_act_417 : decode cL_act 417 = .ok (.if_icmp .ge 18, 3) := by decide +kernel
theorem dL_act_420 : decode cL_act 420 = .ok (.aload_n 0, 1) := by decide +kernel
theorem dL_act_421 : decode cL_act 421 = .ok (.iload_n 3, 1) := by decide +kernel
theorem dL_act_422 : decode cL_act 422 = .ok (.iload 9, 2) := by decide +kernel
theorem dL_act_424 : decode cL_act 424 = .ok (.invokestatic 9, 3) := by decide +kernel
theorem dL_act_427 : decode cL_act 427 = .ok (.iload 8, 2) := by decide +kernel
theorem dL_act_429 : decode cL_act 429 = .ok (.invokevirtual 52, 3) := by decide +kernel
theorem dL_act_432 : decode cL_act 432 = .ok (.goto 11, 3) := by decide +kernel
theorem dL_act_435 : decode cL_act 435 = .ok (.aload_n 0, 1) := by decide +kernel
theorem dL_act_436 : decode cL_act 436 = .ok (.iload 4, 2) := by decide +kernel
theorem dL_act_438 : decode cL_act 438 = .ok (.iload 8, 2) := by decide +kernel
theorem dL_act_440 : decode cL_act 440 = .ok (.invokevirtual 28, 3) := by decide +kernel
theorem dL_act_443 : decode cL_act 443 = .ok (.ireturn, 1) := by decide +kernel
theorem dL_passes_0 : decode cL_passes 0 = .ok (.iconst 0, 1) := by decide +kernel
theorem dL_passes_1 : decode cL_passes 1 = .ok (.istore_n 2, 1) := by decide +kernel
theorem dL_passes_2 : decode cL_passes 2 = .ok (.iload_n 2, 1) := by decide +kernel
theorem dL_passes_3 : decode cL_passes 3 = .ok (.aload_n 0, 1) := by decide +kernel
theorem dL_passes_4 : decode cL_passes 4 = .ok (.invokevirtual 21, 3) := by decide +kernel
theorem dL_passes_7 : decode cL_passes 7 = .ok (.if_icmp .ge 64, 3) := by decide +kernel
theorem dL_passes_10 : decode cL_passes 10 = .ok (.aload_n 0, 1) := by decide +kernel
theorem dL_passes_11 : decode cL_passes 11 = .ok (.iload_n 2, 1) := by decide +kernel
theorem dL_passes_12 : decode cL_passes 12 = .ok (.iconst 0, 1) := by decide +kernel
theorem dL_passes_13 : decode cL_passes 13 = .ok (.invokevirtual 39, 3) := by decide +kernel
theorem dL_passes_16 : decode cL_passes 16 = .ok (.istore_n 3, 1) := by decide +kernel
theorem dL_passes_17 : decode cL_passes 17 = .ok (.aload_n 0, 1) := by decide +kernel
theorem dL_passes_18 : decode cL_passes 18 = .ok (.iload_n 2, 1) := by decide +kernel
theorem dL_passes_19 : decode cL_passes 19 = .ok (.invokevirtual 55, 3) := by decide +kernel
theorem dL_passes_22 : decode cL_passes 22 = .ok (.iconst 1, 1) := by decide +kernel
theorem dL_passes_23 : decode cL_passes 23 = .ok (.if_icmp .ne 16, 3) := by decide +kernel
theorem dL_passes_26 : decode cL_passes 26 = .ok (.aload_n 0, 1) := by decide +kernel
theorem dL_passes_27 : decode cL_passes 27 = .ok (.iload_n 2, 1) := by decide +kernel
theorem dL_passes_28 : decode cL_passes 28 = .ok (.iconst 3, 1) := by decide +kernel
theorem dL_passes_29 : decode cL_passes 29 = .ok (.invokevirtual 39, 3) := by decide +kernel
theorem dL_passes_32 : decode cL_passes 32 = .ok (.ifCond .ne 7, 3) := by decide +kernel
theorem dL_passes_35 : decode cL_passes 35 = .ok (.iconst 1, 1) := by decide +kernel
theorem dL_passes_36 : decode cL_passes 36 = .ok (.goto 4, 3) := by decide +kernel
theorem dL_passes_39 : decode cL_passes 39 = .ok (.iconst 0, 1) := by decide +kernel
theorem dL_passes_40 : decode cL_passes 40 = .ok (.istore 4, 2) := by decide +kernel
theorem dL_passes_42 : decode cL_passes 42 = .ok (.aload_n 1, 1) := by decide +kernel
theorem dL_passes_43 : decode cL_passes 43 = .ok (.aload_n 0, 1) := by decide +kernel
theorem dL_passes_44 : decode cL_passes 44 = .ok (.iload_n 3, 1) := by decide +kernel
theorem dL_passes_45 : decode cL_passes 45 = .ok (.invokevirtual 59, 3) := by decide +kernel
theorem dL_passes_48 : decode cL_passes 48 = .ok (.iload 4, 2) := by decide +kernel
theorem dL_passes_50 : decode cL_passes 50 = .ok (.ifCond .eq 7, 3) := by decide +kernel
theorem dL_passes_53 : decode cL_passes 53 = .ok (.iload_n 3, 1) := by decide +kernel
theorem dL_passes_54 : decode cL_passes 54 = .ok (.goto 10, 3) := by decide +kernel
theorem dL_passes_57 : decode cL_passes 57 = .ok (.aload_n 1, 1) := by decide +kernel
theorem dL_passes_58 : decode cL_passes 58 = .ok (.aload_n 0, 1) := by decide +kernel
theorem dL_passes_59 : decode cL_passes 59 = .ok (.iload_n 3, 1) := by decide +kernel
theorem dL_passes_60 : decode cL_passes 60 = .ok (.invokevirtual 59, 3) := by decide +kernel
theorem dL_passes_63 : decode cL_passes 63 = .ok (.iaload, 1) := by decide +kernel
theorem dL_passes_64 : decode cL_passes 64 = .ok (.iastore, 1) := by decide +kernel
theorem dL_passes_65 : decode cL_passes 65 = .ok (.iinc 2 1, 3) := by decide +kernel
theorem dL_passes_68 : decode cL_passes 68 = .ok (.goto (-66), 3) := by decide +kernel
theorem dL_passes_71 : decode cL_passes 71 = .ok (.aload_n 0, 1) := by decide +kernel
theorem dL_passes_72 : decode cL_passes 72 = .ok (.iconst 1, 1) := by decide +kernel
theorem dL_passes_73 : decode cL_passes 73 = .ok (.invokevirtual 62, 3) := by decide +kernel
theorem dL_passes_76 : decode cL_passes 76 = .ok (.ireturn, 1) := by decide +kernel
theorem dL_holds_0 : decode cL_holds 0 = .ok (.iconst 0, 1) := by decide +kernel
theorem dL_holds_1 : decode cL_holds 1 = .ok (.istore_n 1, 1) := by decide +kernel
theorem dL_holds_2 : decode cL_holds 2 = .ok (.aload_n 0, 1) := by decide +kernel
theorem dL_holds_3 : decode cL_holds 3 = .ok (.invokevirtual 21, 3) := by decide +kernel
theorem dL_holds_6 : decode cL_holds 6 = .ok (.aload_n 0, 1) := by decide +kernel
theorem dL_holds_7 : decode cL_holds 7 = .ok (.iconst 0, 1) := by decide +kernel
theorem dL_holds_8 : decode cL_holds 8 = .ok (.invokevirtual 65, 3) := by decide +kernel
theorem dL_holds_11 : decode cL_holds 11 = .ok (.aload_n 0, 1) := by decide +kernel
theorem dL_holds_12 : decode cL_holds 12 = .ok (.iconst 2, 1) := by decide +kernel
theorem dL_holds_13 : decode cL_holds 13 = .ok (.invokevirtual 65, 3) := by decide +kernel
theorem dL_holds_16 : decode cL_holds 16 = .ok (.iadd, 1) := by decide +kernel
theorem dL_holds_17 : decode cL_holds 17 = .ok (.aload_n 0, 1) := by decide +kernel
theorem dL_holds_18 : decode cL_holds 18 = .ok (.iconst 1, 1) := by decide +kernel
theorem dL_holds_19 : decode cL_holds 19 = .ok (.invokevirtual 65, 3) := by decide +kernel
theorem dL_holds_22 : decode cL_holds 22 = .ok (.isub, 1) := by decide +kernel
theorem dL_holds_23 : decode cL_holds 23 = .ok (.aload_n 0, 1) := by decide +kernel
theorem dL_holds_24 : decode cL_holds 24 = .ok (.iconst 3, 1) := by decide +kernel
theorem dL_holds_25 : decode cL_holds 25 = .ok (.invokevirtual 65, 3) := by decide +kernel
theorem dL_holds_28 : decode cL_holds 28 = .ok (.isub, 1) := by decide +kernel
theorem dL_holds_29 : decode cL_holds 29 = .ok (.aload_n 0, 1) := by decide +kernel
theorem dL_holds_30 : decode cL_holds 30 = .ok (.iconst 4, 1) := by decide +kernel
theorem dL_holds_31 : decode cL_holds 31 = .ok (.invokevirtual 65, 3) := by decide +kernel
theorem dL_holds_34 : decode cL_holds 34 = .ok (.isub, 1) := by decide +kernel
theorem dL_holds_35 : decode cL_holds 35 = .ok (.if_icmp .ne 50, 3) := by decide +kernel
theorem dL_holds_38 : decode cL_holds 38 = .ok (.aload_n 0, 1) := by decide +kernel
theorem dL_holds_39 : decode cL_holds 39 = .ok (.invokevirtual 21, 3) := by decide +kernel
theorem dL_holds_42 : decode cL_holds 42 = .ok (.ifCond .lt 43, 3) := by decide +kernel
theorem dL_holds_45 : decode cL_holds 45 = .ok (.aload_n 0, 1) := by decide +kernel
theorem dL_holds_46 : decode cL_holds 46 = .ok (.invokevirtual 21, 3) := by decide +kernel
theorem dL_holds_49 : decode cL_holds 49 = .ok (.bipush 12, 2) := by decide +kernel
theorem dL_holds_51 : decode cL_holds 51 = .ok (.if_icmp .gt 34, 3) := by decide +kernel
theorem dL_holds_54 : decode cL_holds 54 = .ok (.aload_n 0, 1) := by decide +kernel
theorem dL_holds_55 : decode cL_holds 55 = .ok (.invokevirtual 15, 3) := by decide +kernel
theorem dL_holds_58 : decode cL_holds 58 = .ok (.bipush 6, 2) := by decide +kernel
theorem dL_holds_60 : decode cL_holds 60 = .ok (.if_icmp .gt 25, 3) := by decide +kernel
theorem dL_holds_63 : decode cL_holds 63 = .ok (.aload_n 0, 1) := by decide +kernel
theorem dL_holds_64 : decode cL_holds 64 = .ok (.invokevirtual 68, 3) := by decide +kernel
theorem dL_holds_67 : decode cL_holds 67 = .ok (.dconst 0, 1) := by decide +kernel
theorem dL_holds_68 : decode cL_holds 68 = .ok (.dcmp .l, 1) := by decide +kernel
theorem dL_holds_69 : decode cL_holds 69 = .ok (.ifCond .lt 16, 3) := by decide +kernel
theorem dL_holds_72 : decode cL_holds 72 = .ok (.aload_n 0, 1) := by decide +kernel
theorem dL_holds_73 : decode cL_holds 73 = .ok (.invokevirtual 68, 3) := by decide +kernel
theorem dL_holds_76 : decode cL_holds 76 = .ok (.dconst 1, 1) := by decide +kernel
theorem dL_holds_77 : decode cL_holds 77 = .ok (.dcmp .g, 1) := by decide +kernel
theorem dL_holds_78 : decode cL_holds 78 = .ok (.ifCond .gt 7, 3) := by decide +kernel
theorem dL_holds_81 : decode cL_holds 81 = .ok (.iconst 1, 1) := by decide +kernel
theorem dL_holds_82 : decode cL_holds 82 = .ok (.goto 4, 3) := by decide +kernel
theorem dL_holds_85 : decode cL_holds 85 = .ok (.iconst 0, 1) := by decide +kernel
theorem dL_holds_86 : decode cL_holds 86 = .ok (.istore_n 2, 1) := by decide +kernel
theorem dL_holds_87 : decode cL_holds 87 = .ok (.iconst 0, 1) := by decide +kernel
theorem dL_holds_88 : decode cL_holds 88 = .ok (.istore_n 3, 1) := by decide +kernel
theorem dL_holds_89 : decode cL_holds 89 = .ok (.iload_n 3, 1) := by decide +kernel
theorem dL_holds_90 : decode cL_holds 90 = .ok (.aload_n 0, 1) := by decide +kernel
theorem dL_holds_91 : decode cL_holds 91 = .ok (.invokevirtual 21, 3) := by decide +kernel
theorem dL_holds_94 : decode cL_holds 94 = .ok (.if_icmp .ge 133, 3) := by decide +kernel
theorem dL_holds_97 : decode cL_holds 97 = .ok (.aload_n 0, 1) := by decide +kernel
theorem dL_holds_98 : decode cL_holds 98 = .ok (.iload_n 3, 1) := by decide +kernel
theorem dL_holds_99 : decode cL_holds 99 = .ok (.iconst 3, 1) := by decide +kernel
theorem dL_holds_100 : decode cL_holds 100 = .ok (.invokevirtual 39, 3) := by decide +kernel
theorem dL_holds_103 : decode cL_holds 103 = .ok (.iconst 1, 1) := by decide +kernel
theorem dL_holds_104 : decode cL_holds 104 = .ok (.if_icmp .ne 7, 3) := by decide +kernel
theorem dL_holds_107 : decode cL_holds 107 = .ok (.iconst 1, 1) := by decide +kernel
theorem dL_holds_108 : decode cL_holds 108 = .ok (.goto 4, 3) := by decide +kernel
theorem dL_holds_111 : decode cL_holds 111 = .ok (.iconst 0, 1) := by decide +kernel
theorem dL_holds_112 : decode cL_holds 112 = .ok (.istore 4, 2) := by decide +kernel
theorem dL_holds_114 : decode cL_holds 114 = .ok (.aload_n 0, 1) := by decide +kernel
theorem dL_holds_115 : decode cL_holds 115 = .ok (.iload_n 3, 1) := by decide +kernel
theorem dL_holds_116 : decode cL_holds 116 = .ok (.iconst 1, 1) := by decide +kernel
theorem dL_holds_117 : decode cL_holds 117 = .ok (.invokevirtual 39, 3) := by decide +kernel
theorem dL_holds_120 : decode cL_holds 120 = .ok (.istore 5, 2) := by decide +kernel
theorem dL_holds_122 : decode cL_holds 122 = .ok (.aload_n 0, 1) := by decide +kernel
theorem dL_holds_123 : decode cL_holds 123 = .ok (.iload_n 3, 1) := by decide +kernel
theorem dL_holds_124 : decode cL_holds 124 = .ok (.invokevirtual 55, 3) := by decide +kernel
theorem dL_holds_127 : decode cL_holds 127 = .ok (.istore 6, 2) := by decide +kernel
theorem dL_holds_129 : decode cL_holds 129 = .ok (.iload_n 1, 1) := by decide +kernel
theorem dL_holds_130 : decode cL_holds 130 = .ok (.iload 6, 2) := by decide +kernel
theorem dL_holds_132 : decode cL_holds 132 = .ok (.iconst (-1), 1) := by decide +kernel
theorem dL_holds_133 : decode cL_holds 133 = .ok (.if_icmp .ne 7, 3) := by decide +kernel
theorem dL_holds_136 : decode cL_holds 136 = .ok (.iconst 1, 1) := by decide +kernel
theorem dL_holds_137 : decode cL_holds 137 = .ok (.goto 4, 3) := by decide +kernel
theorem dL_holds_140 : decode cL_holds 140 = .ok (.iconst 0, 1) := by decide +kernel
theorem dL_holds_141 : decode cL_holds 141 = .ok (.iadd, 1) := by decide +kernel
theorem dL_holds_142 : decode cL_holds 142 = .ok (.istore_n 1, 1) := by decide +kernel
theorem dL_holds_143 : decode cL_holds 143 = .ok (.iload_n 2, 1) := by decide +kernel
theorem dL_holds_144 : decode cL_holds 144 = .ok (.ifCond .eq 75, 3) := by decide +kernel
theorem dL_holds_147 : decode cL_holds 147 = .ok (.aload_n 0, 1) := by decide +kernel
theorem dL_holds_148 : decode cL_holds 148 = .ok (.iload_n 3, 1) := by decide +kernel
theorem dL_holds_149 : decode cL_holds 149 = .ok (.iconst 2, 1) := by decide +kernel
theorem dL_holds_150 : decode cL_holds 150 = .ok (.invokevirtual 39, 3) := by decide +kernel
theorem dL_holds_153 : decode cL_holds 153 = .ok (.ifCond .lt 66, 3) := by decide +kernel
theorem dL_holds_156 : decode cL_holds 156 = .ok (.aload_n 0, 1) := by decide +kernel
theorem dL_holds_157 : decode cL_holds 157 = .ok (.iload_n 3, 1) := by decide +kernel
theorem dL_holds_158 : decode cL_holds 158 = .ok (.iconst 2, 1) := by decide +kernel
theorem dL_holds_159 : decode cL_holds 159 = .ok (.invokevirtual 39, 3) := by decide +kernel
theorem dL_holds_162 : decode cL_holds 162 = .ok (.sipush 9999, 3) := by decide +kernel
theorem dL_holds_165 : decode cL_holds 165 = .ok (.if_icmp .gt 54, 3) := by decide +kernel
theorem dL_holds_168 : decode cL_holds 168 = .ok (.aload_n 0, 1) := by decide +kernel
theorem dL_holds_169 : decode cL_holds 169 = .ok (.iload_n 3, 1) := by decide +kernel
theorem dL_holds_170 : decode cL_holds 170 = .ok (.iconst 0, 1) := by decide +kernel
theorem dL_holds_171 : decode cL_holds 171 = .ok (.invokevirtual 39, 3) := by decide +kernel
theorem dL_holds_174 : decode cL_holds 174 = .ok (.ifCond .lt 45, 3) := by decide +kernel
theorem dL_holds_177 : decode cL_holds 177 = .ok (.aload_n 0, 1) := by decide +kernel
theorem dL_holds_178 : decode cL_holds 178 = .ok (.iload_n 3, 1) := by decide +kernel
theorem dL_holds_179 : decode cL_holds 179 = .ok (.iconst 0, 1) := by decide +kernel
theorem dL_holds_180 : decode cL_holds 180 = .ok (.invokevirtual 39, 3) := by decide +kernel
theorem dL_holds_183 : decode cL_holds 183 = .ok (.aload_n 0, 1) := by decide +kernel
theorem dL_holds_184 : decode cL_holds 184 = .ok (.invokevirtual 15, 3) := by decide +kernel
theorem dL_holds_187 : decode cL_holds 187 = .ok (.if_icmp .ge 32, 3) := by decide +kernel
theorem dL_holds_190 : decode cL_holds 190 = .ok (.iload 6, 2) := by decide +kernel
theorem dL_holds_192 : decode cL_holds 192 = .ok (.iconst (-1), 1) := by decide +kernel
theorem dL_holds_193 : decode cL_holds 193 = .ok (.if_icmp .eq 22, 3) := by decide +kernel
theorem dL_holds_196 : decode cL_holds 196 = .ok (.iload 6, 2) := by decide +kernel
theorem dL_holds_198 : decode cL_holds 198 = .ok (.iload 4, 2) := by decide +kernel
theorem dL_holds_200 : decode cL_holds 200 = .ok (.ifCond .eq 8, 3) := by decide +kernel
theorem dL_holds_203 : decode cL_holds 203 = .ok (.iload 5, 2) := by decide +kernel
theorem dL_holds_205 : decode cL_holds 205 = .ok (.goto 7, 3) := by decide +kernel
theorem dL_holds_208 : decode cL_holds 208 = .ok (.iconst 4, 1) := by decide +kernel
theorem dL_holds_209 : decode cL_holds 209 = .ok (.iload 5, 2) := by decide +kernel
theorem dL_holds_211 : decode cL_holds 211 = .ok (.isub, 1) := by decide +kernel
theorem dL_holds_212 : decode cL_holds 212 = .ok (.if_icmp .ne 7, 3) := by decide +kernel
theorem dL_holds_215 : decode cL_holds 215 = .ok (.iconst 1, 1) := by decide +kernel
theorem dL_holds_216 : decode cL_holds 216 = .ok (.goto 4, 3) := by decide +kernel
theorem dL_holds_219 : decode cL_holds 219 = .ok (.iconst 0, 1) := by decide +kernel
theorem dL_holds_220 : decode cL_holds 220 = .ok (.istore_n 2, 1) := by decide +kernel
theorem dL_holds_221 : decode cL_holds 221 = .ok (.iinc 3 1, 3) := by decide +kernel
theorem dL_holds_224 : decode cL_holds 224 = .ok (.goto (-135), 3) := by decide +kernel
theorem dL_holds_227 : decode cL_holds 227 = .ok (.iconst 0, 1) := by decide +kernel
theorem dL_holds_228 : decode cL_holds 228 = .ok (.istore_n 3, 1) := by decide +kernel
theorem dL_holds_229 : decode cL_holds 229 = .ok (.iload_n 3, 1) := by decide +kernel
theorem dL_holds_230 : decode cL_holds 230 = .ok (.bipush 8, 2) := by decide +kernel
theorem dL_holds_232 : decode cL_holds 232 = .ok (.if_icmp .ge 339, 3) := by decide +kernel
theorem dL_holds_235 : decode cL_holds 235 = .ok (.iconst 0, 1) := by decide +kernel
theorem dL_holds_236 : decode cL_holds 236 = .ok (.istore 4, 2) := by decide +kernel
theorem dL_holds_238 : decode cL_holds 238 = .ok (.iconst 0, 1) := by decide +kernel
theorem dL_holds_239 : decode cL_holds 239 = .ok (.istore 5, 2) := by decide +kernel
theorem dL_holds_241 : decode cL_holds 241 = .ok (.iload 5, 2) := by decide +kernel
theorem dL_holds_243 : decode cL_holds 243 = .ok (.aload_n 0, 1) := by decide +kernel
theorem dL_holds_244 : decode cL_holds 244 = .ok (.invokevirtual 15, 3) := by decide +kernel
theorem dL_holds_247 : decode cL_holds 247 = .ok (.if_icmp .ge 214, 3) := by decide +kernel
theorem dL_holds_250 : decode cL_holds 250 = .ok (.aload_n 0, 1) := by decide +kernel
theorem dL_holds_251 : decode cL_holds 251 = .ok (.iload_n 3, 1) := by decide +kernel
theorem dL_holds_252 : decode cL_holds 252 = .ok (.iload 5, 2) := by decide +kernel
theorem dL_holds_254 : decode cL_holds 254 = .ok (.iconst 0, 1) := by decide +kernel
theorem dL_holds_255 : decode cL_holds 255 = .ok (.invokevirtual 72, 3) := by decide +kernel
theorem dL_holds_258 : decode cL_holds 258 = .ok (.istore 6, 2) := by decide +kernel
theorem dL_holds_260 : decode cL_holds 260 = .ok (.aload_n 0, 1) := by decide +kernel
theorem dL_holds_261 : decode cL_holds 261 = .ok (.iload_n 3, 1) := by decide +kernel
theorem dL_holds_262 : decode cL_holds 262 = .ok (.iload 5, 2) := by decide +kernel
theorem dL_holds_264 : decode cL_holds 264 = .ok (.iconst 1, 1) := by decide +kernel
theorem dL_holds_265 : decode cL_holds 265 = .ok (.invokevirtual 72, 3) := by decide +kernel
theorem dL_holds_268 : decode cL_holds 268 = .ok (.istore 7, 2) := by decide +kernel
theorem dL_holds_270 : decode cL_holds 270 = .ok (.aload_n 0, 1) := by decide +kernel
theorem dL_holds_271 : decode cL_holds 271 = .ok (.iload 5, 2) := by decide +kernel
theorem dL_holds_273 : decode cL_holds 273 = .ok (.iconst 1, 1) := by decide +kernel
theorem dL_holds_274 : decode cL_holds 274 = .ok (.invokevirtual 76, 3) := by decide +kernel
theorem dL_holds_277 : decode cL_holds 277 = .ok (.iload_n 3, 1) := by decide +kernel
theorem dL_holds_278 : decode cL_holds 278 = .ok (.if_icmp .ne 7, 3) := by decide +kernel
theorem dL_holds_281 : decode cL_holds 281 = .ok (.iconst 1, 1) := by decide +kernel
theorem dL_holds_282 : decode cL_holds 282 = .ok (.goto 34, 3) := by decide +kernel
theorem dL_holds_285 : decode cL_holds 285 = .ok (.aload_n 0, 1) := by decide +kernel
theorem dL_holds_286 : decode cL_holds 286 = .ok (.iload 5, 2) := by decide +kernel
theorem dL_holds_288 : decode cL_holds 288 = .ok (.iconst 2, 1) := by decide +kernel
theorem dL_holds_289 : decode cL_holds 289 = .ok (.invokevirtual 76, 3) := by decide +kernel
theorem dL_holds_292 : decode cL_holds 292 = .ok (.iload_n 3, 1) := by decide +kernel
theorem dL_holds_293 : decode cL_holds 293 = .ok (.if_icmp .ne 7, 3) := by decide +kernel
theorem dL_holds_296 : decode cL_holds 296 = .ok (.iconst 2, 1) := by decide +kernel
theorem dL_holds_297 : decode cL_holds 297 = .ok (.goto 19, 3) := by decide +kernel
theorem dL_holds_300 : decode cL_holds 300 = .ok (.aload_n 0, 1) := by decide +kernel
theorem dL_holds_301 : decode cL_holds 301 = .ok (.iload 5, 2) := by decide +kernel
theorem dL_holds_303 : decode cL_holds 303 = .ok (.iconst 3, 1) := by decide +kernel
theorem dL_holds_304 : decode cL_holds 304 = .ok (.invokevirtual 76, 3) := by decide +kernel
theorem dL_holds_307 : decode cL_holds 307 = .ok (.iload_n 3, 1) := by decide +kernel
theorem dL_holds_308 : decode cL_holds 308 = .ok (.if_icmp .ne 7, 3) := by decide +kernel
theorem dL_holds_311 : decode cL_holds 311 = .ok (.iconst 3, 1) := by decide +kernel
theorem dL_holds_312 : decode cL_holds 312 = .ok (.goto 4, 3) := by decide +kernel
theorem dL_holds_315 : decode cL_holds 315 = .ok (.iconst 0, 1) := by decide +kernel
theorem dL_holds_316 : decode cL_holds 316 = .ok (.istore 8, 2) := by decide +kernel
theorem dL_holds_318 : decode cL_holds 318 = .ok (.iload 4, 2) := by decide +kernel
theorem dL_holds_320 : decode cL_holds 320 = .ok (.iload 6, 2) := by decide +kernel
theorem dL_holds_322 : decode cL_holds 322 = .ok (.ifCond .lt 17, 3) := by decide +kernel
theorem dL_holds_325 : decode cL_holds 325 = .ok (.iload 6, 2) := by decide +kernel
theorem dL_holds_327 : decode cL_holds 327 = .ok (.bipush 8, 2) := by decide +kernel
theorem dL_holds_329 : decode cL_holds 329 = .ok (.if_icmp .ge 10, 3) := by decide +kernel
theorem dL_holds_332 : decode cL_holds 332 = .ok (.iconst 1, 1) := by decide +kernel
theorem dL_holds_333 : decode cL_holds 333 = .ok (.iload 6, 2) := by decide +kernel
theorem dL_holds_335 : decode cL_holds 335 = .ok (.ishl, 1) := by decide +kernel
theorem dL_holds_336 : decode cL_holds 336 = .ok (.goto 4, 3) := by decide +kernel
theorem dL_holds_339 : decode cL_holds 339 = .ok (.iconst 0, 1) := by decide +kernel
theorem dL_holds_340 : decode cL_holds 340 = .ok (.ior, 1) := by decide +kernel
theorem dL_holds_341 : decode cL_holds 341 = .ok (.istore 4, 2) := by decide +kernel
theorem dL_holds_343 : decode cL_holds 343 = .ok (.iload 4, 2) := by decide +kernel
theorem dL_holds_345 : decode cL_holds 345 = .ok (.iload 7, 2) := by decide +kernel
theorem dL_holds_347 : decode cL_holds 347 = .ok (.ifCond .lt 17, 3) := by decide +kernel
theorem dL_holds_350 : decode cL_holds 350 = .ok (.iload 7, 2) := by decide +kernel
theorem dL_holds_352 : decode cL_holds 352 = .ok (.bipush 8, 2) := by decide +kernel
theorem dL_holds_354 : decode cL_holds 354 = .ok (.if_icmp .ge 10, 3) := by decide +kernel
theorem dL_holds_357 : decode cL_holds 357 = .ok (.iconst 1, 1) := by decide +kernel
theorem dL_holds_358 : decode cL_holds 358 = .ok (.iload 7, 2) := by decide +kernel
theorem dL_holds_360 : decode cL_holds 360 = .ok (.ishl, 1) := by decide +kernel
theorem dL_holds_361 : decode cL_holds 361 = .ok (.goto 4, 3) := by decide +kernel
theorem dL_holds_364 : decode cL_holds 364 = .ok (.iconst 0, 1) := by decide +kernel
theorem dL_holds_365 : decode cL_holds 365 = .ok (.ior, 1) := by decide +kernel
theorem dL_holds_366 : decode cL_holds 366 = .ok (.istore 4, 2) := by decide +kernel
theorem dL_holds_368 : decode cL_holds 368 = .ok (.iload_n 2, 1) := by decide +kernel
theorem dL_holds_369 : decode cL_holds 369 = .ok (.ifCond .eq 84, 3) := by decide +kernel
theorem dL_holds_372 : decode cL_holds 372 = .ok (.iload 6, 2) := by decide +kernel
theorem dL_holds_374 : decode cL_holds 374 = .ok (.iload 8, 2) := by decide +kernel
theorem dL_holds_376 : decode cL_holds 376 = .ok (.ifCond .ne 7, 3) := by decide +kernel
theorem dL_holds_379 : decode cL_holds 379 = .ok (.iconst (-1), 1) := by decide +kernel
theorem dL_holds_380 : decode cL_holds 380 = .ok (.goto 24, 3) := by decide +kernel
theorem dL_holds_383 : decode cL_holds 383 = .ok (.iload 8, 2) := by decide +kernel
theorem dL_holds_385 : decode cL_holds 385 = .ok (.iconst 1, 1) := by decide +kernel
theorem dL_holds_386 : decode cL_holds 386 = .ok (.if_icmp .ne 8, 3) := by decide +kernel
theorem dL_holds_389 : decode cL_holds 389 = .ok (.bipush 8, 2) := by decide +kernel
theorem dL_holds_391 : decode cL_holds 391 = .ok (.goto 13, 3) := by decide +kernel
theorem dL_holds_394 : decode cL_holds 394 = .ok (.aload_n 0, 1) := by decide +kernel
theorem dL_holds_395 : decode cL_holds 395 = .ok (.iload 5, 2) := by decide +kernel
theorem dL_holds_397 : decode cL_holds 397 = .ok (.iload 8, 2) := by decide +kernel
theorem dL_holds_399 : decode cL_holds 399 = .ok (.iconst 1, 1) := by decide +kernel
theorem dL_holds_400 : decode cL_holds 400 = .ok (.isub, 1) := by decide +kernel
theorem dL_holds_401 : decode cL_holds 401 = .ok (.invokevirtual 76, 3) := by decide +kernel
theorem dL_holds_404 : decode cL_holds 404 = .ok (.if_icmp .ne 49, 3) := by decide +kernel
theorem dL_holds_407 : decode cL_holds 407 = .ok (.iload 7, 2) := by decide +kernel
theorem dL_holds_409 : decode cL_holds 409 = .ok (.iload 8, 2) := by decide +kernel
theorem dL_holds_411 : decode cL_holds 411 = .ok (.ifCond .ne 7, 3) := by decide +kernel
theorem dL_holds_414 : decode cL_holds 414 = .ok (.iconst (-1), 1) := by decide +kernel
theorem dL_holds_415 : decode cL_holds 415 = .ok (.goto 31, 3) := by decide +kernel
theorem dL_holds_418 : decode cL_holds 418 = .ok (.iload 8, 2) := by decide +kernel
theorem dL_holds_420 : decode cL_holds 420 = .ok (.iconst 3, 1) := by decide +kernel
theorem dL_holds_421 : decode cL_holds 421 = .ok (.if_icmp .ne 15, 3) := by decide +kernel
theorem dL_holds_424 : decode cL_holds 424 = .ok (.bipush 10, 2) := by decide +kernel
theorem dL_holds_426 : decode cL_holds 426 = .ok (.aload_n 0, 1) := by decide +kernel
theorem dL_holds_427 : decode cL_holds 427 = .ok (.iload 5, 2) := by decide +kernel
theorem dL_holds_429 : decode cL_holds 429 = .ok (.invokevirtual 59, 3) := by decide +kernel
theorem dL_holds_432 : decode cL_holds 432 = .ok (.iadd, 1) := by decide +kernel
theorem dL_holds_433 : decode cL_holds 433 = .ok (.goto 13, 3) := by decide +kernel
theorem dL_holds_436 : decode cL_holds 436 = .ok (.aload_n 0, 1) := by decide +kernel
theorem dL_holds_437 : decode cL_holds 437 = .ok (.iload 5, 2) := by decide +kernel
theorem dL_holds_439 : decode cL_holds 439 = .ok (.iload 8, 2) := by decide +kernel
theorem dL_holds_441 : decode cL_holds 441 = .ok (.iconst 1, 1) := by decide +kernel
theorem dL_holds_442 : decode cL_holds 442 = .ok (.iadd, 1) := by decide +kernel
theorem dL_holds_443 : decode cL_holds 443 = .ok (.invokevirtual 76, 3) := by decide +kernel
theorem dL_holds_446 : decode cL_holds 446 = .ok (.if_icmp .ne 7, 3) := by decide +kernel
theorem dL_holds_449 : decode cL_holds 449 = .ok (.iconst 1, 1) := by decide +kernel
theorem dL_holds_450 : decode cL_holds 450 = .ok (.goto 4, 3) := by decide +kernel
theorem dL_holds_453 : decode cL_holds 453 = .ok (.iconst 0, 1) := by decide +kernel
theorem dL_holds_454 : decode cL_holds 454 = .ok (.istore_n 2, 1) := by decide +kernel
theorem dL_holds_455 : decode cL_holds 455 = .ok (.iinc 5 1, 3) := by decide +kernel
theorem dL_holds_458 : decode cL_holds 458 = .ok (.goto (-217), 3) := by decide +kernel
theorem dL_holds_461 : decode cL_holds 461 = .ok (.iload_n 2, 1) := by decide +kernel
theorem dL_holds_462 : decode cL_holds 462 = .ok (.ifCond .eq 52, 3) := by decide +kernel
theorem dL_holds_465 : decode cL_holds 465 = .ok (.aload_n 0, 1) := by decide +kernel
theorem dL_holds_466 : decode cL_holds 466 = .ok (.iload_n 3, 1) := by decide +kernel
theorem dL_holds_467 : decode cL_holds 467 = .ok (.invokevirtual 79, 3) := by decide +kernel
theorem dL_holds_470 : decode cL_holds 470 = .ok (.iload 4, 2) := by decide +kernel
theorem dL_holds_472 : decode cL_holds 472 = .ok (.if_icmp .ne 42, 3) := by decide +kernel
theorem dL_holds_475 : decode cL_holds 475 = .ok (.iload 4, 2) := by decide +kernel
theorem dL_holds_477 : decode cL_holds 477 = .ok (.iload_n 3, 1) := by decide +kernel
theorem dL_holds_478 : decode cL_holds 478 = .ok (.ishr, 1) := by decide +kernel
theorem dL_holds_479 : decode cL_holds 479 = .ok (.iconst 1, 1) := by decide +kernel
theorem dL_holds_480 : decode cL_holds 480 = .ok (.iand, 1) := by decide +kernel
theorem dL_holds_481 : decode cL_holds 481 = .ok (.ifCond .ne 33, 3) := by decide +kernel
theorem dL_holds_484 : decode cL_holds 484 = .ok (.aload_n 0, 1) := by decide +kernel
theorem dL_holds_485 : decode cL_holds 485 = .ok (.iload_n 3, 1) := by decide +kernel
theorem dL_holds_486 : decode cL_holds 486 = .ok (.invokevirtual 31, 3) := by decide +kernel
theorem dL_holds_489 : decode cL_holds 489 = .ok (.ifCond .ne 12, 3) := by decide +kernel
theorem dL_holds_492 : decode cL_holds 492 = .ok (.aload_n 0, 1) := by decide +kernel
theorem dL_holds_493 : decode cL_holds 493 = .ok (.iload_n 3, 1) := by decide +kernel
theorem dL_holds_494 : decode cL_holds 494 = .ok (.invokevirtual 82, 3) := by decide +kernel
theorem dL_holds_497 : decode cL_holds 497 = .ok (.iload_n 1, 1) := by decide +kernel
theorem dL_holds_498 : decode cL_holds 498 = .ok (.if_icmp .ne 16, 3) := by decide +kernel
theorem dL_holds_501 : decode cL_holds 501 = .ok (.aload_n 0, 1) := by decide +kernel
theorem dL_holds_502 : decode cL_holds 502 = .ok (.iload_n 3, 1) := by decide +kernel
theorem dL_holds_503 : decode cL_holds 503 = .ok (.invokevirtual 82, 3) := by decide +kernel
theorem dL_holds_506 : decode cL_holds 506 = .ok (.iload_n 1, 1) := by decide +kernel
theorem dL_holds_507 : decode cL_holds 507 = .ok (.if_icmp .lt 7, 3) := by decide +kernel
theorem dL_holds_510 : decode cL_holds 510 = .ok (.iconst 1, 1) := by decide +kernel
theorem dL_holds_511 : decode cL_holds 511 = .ok (.goto 4, 3) := by decide +kernel
theorem dL_holds_514 : decode cL_holds 514 = .ok (.iconst 0, 1) := by decide +kernel
theorem dL_holds_515 : decode cL_holds 515 = .ok (.istore_n 2, 1) := by decide +kernel
theorem dL_holds_516 : decode cL_holds 516 = .ok (.iconst 0, 1) := by decide +kernel
theorem dL_holds_517 : decode cL_holds 517 = .ok (.istore 5, 2) := by decide +kernel
theorem dL_holds_519 : decode cL_holds 519 = .ok (.iload 5, 2) := by decide +kernel
theorem dL_holds_521 : decode cL_holds 521 = .ok (.bipush 8, 2) := by decide +kernel
theorem dL_holds_523 : decode cL_holds 523 = .ok (.if_icmp .ge 42, 3) := by decide +kernel
theorem dL_holds_526 : decode cL_holds 526 = .ok (.iload_n 2, 1) := by decide +kernel
theorem dL_holds_527 : decode cL_holds 527 = .ok (.ifCond .eq 30, 3) := by decide +kernel
theorem dL_holds_530 : decode cL_holds 530 = .ok (.aload_n 0, 1) := by decide +kernel
theorem dL_holds_531 : decode cL_holds 531 = .ok (.iload_n 3, 1) := by decide +kernel
theorem dL_holds_532 : decode cL_holds 532 = .ok (.invokevirtual 79, 3) := by decide +kernel
theorem dL_holds_535 : decode cL_holds 535 = .ok (.iload 5, 2) := by decide +kernel
theorem dL_holds_537 : decode cL_holds 537 = .ok (.ishr, 1) := by decide +kernel
theorem dL_holds_538 : decode cL_holds 538 = .ok (.iconst 1, 1) := by decide +kernel
theorem dL_holds_539 : decode cL_holds 539 = .ok (.iand, 1) := by decide +kernel
theorem dL_holds_540 : decode cL_holds 540 = .ok (.aload_n 0, 1) := by decide +kernel
theorem dL_holds_541 : decode cL_holds 541 = .ok (.iload 5, 2) := by decide +kernel
theorem dL_holds_543 : decode cL_holds 543 = .ok (.invokevirtual 79, 3) := by decide +kernel
theorem dL_holds_546 : decode cL_holds 546 = .ok (.iload_n 3, 1) := by decide +kernel
theorem dL_holds_547 : decode cL_holds 547 = .ok (.ishr, 1) := by decide +kernel
theorem dL_holds_548 : decode cL_holds 548 = .ok (.iconst 1, 1) := by decide +kernel
theorem dL_holds_549 : decode cL_holds 549 = .ok (.iand, 1) := by decide +kernel
theorem dL_holds_550 : decode cL_holds 550 = .ok (.if_icmp .ne 7, 3) := by decide +kernel
theorem dL_holds_553 : decode cL_holds 553 = .ok (.iconst 1, 1) := by decide +kernel
theorem dL_holds_554 : decode cL_holds 554 = .ok (.goto 4, 3) := by decide +kernel
theorem dL_holds_557 : decode cL_holds 557 = .ok (.iconst 0, 1) := by decide +kernel
theorem dL_holds_558 : decode cL_holds 558 = .ok (.istore_n 2, 1) := by decide +kernel
theorem dL_holds_559 : decode cL_holds 559 = .ok (.iinc 5 1, 3) := by decide +kernel
theorem dL_holds_562 : decode cL_holds 562 = .ok (.goto (-43), 3) := by decide +kernel
theorem dL_holds_565 : decode cL_holds 565 = .ok (.iinc 3 1, 3) := by decide +kernel
theorem dL_holds_568 : decode cL_holds 568 = .ok (.goto (-339), 3) := by decide +kernel
theorem dL_holds_571 : decode cL_holds 571 = .ok (.iconst 0, 1) := by decide +kernel
theorem dL_holds_572 : decode cL_holds 572 = .ok (.istore_n 3, 1) := by decide +kernel
theorem dL_holds_573 : decode cL_holds 573 = .ok (.iload_n 3, 1) := by decide +kernel
theorem dL_holds_574 : decode cL_holds 574 = .ok (.aload_n 0, 1) := by decide +kernel
theorem dL_holds_575 : decode cL_holds 575 = .ok (.invokevirtual 15, 3) := by decide +kernel
theorem dL_holds_578 : decode cL_holds 578 = .ok (.if_icmp .ge 71, 3) := by decide +kernel
theorem dL_holds_581 : decode cL_holds 581 = .ok (.iload_n 2, 1) := by decide +kernel
theorem dL_holds_582 : decode cL_holds 582 = .ok (.ifCond .eq 59, 3) := by decide +kernel
theorem dL_holds_585 : decode cL_holds 585 = .ok (.aload_n 0, 1) := by decide +kernel
theorem dL_holds_586 : decode cL_holds 586 = .ok (.iload_n 3, 1) := by decide +kernel
theorem dL_holds_587 : decode cL_holds 587 = .ok (.invokevirtual 85, 3) := by decide +kernel
theorem dL_holds_590 : decode cL_holds 590 = .ok (.aload_n 0, 1) := by decide +kernel
theorem dL_holds_591 : decode cL_holds 591 = .ok (.aload_n 0, 1) := by decide +kernel
theorem dL_holds_592 : decode cL_holds 592 = .ok (.iload_n 3, 1) := by decide +kernel
theorem dL_holds_593 : decode cL_holds 593 = .ok (.iconst 1, 1) := by decide +kernel
theorem dL_holds_594 : decode cL_holds 594 = .ok (.invokevirtual 76, 3) := by decide +kernel
theorem dL_holds_597 : decode cL_holds 597 = .ok (.invokevirtual 31, 3) := by decide +kernel
theorem dL_holds_600 : decode cL_holds 600 = .ok (.ifCond .eq 33, 3) := by decide +kernel
theorem dL_holds_603 : decode cL_holds 603 = .ok (.aload_n 0, 1) := by decide +kernel
theorem dL_holds_604 : decode cL_holds 604 = .ok (.aload_n 0, 1) := by decide +kernel
theorem dL_holds_605 : decode cL_holds 605 = .ok (.iload_n 3, 1) := by decide +kernel
theorem dL_holds_606 : decode cL_holds 606 = .ok (.iconst 2, 1) := by decide +kernel
theorem dL_holds_607 : decode cL_holds 607 = .ok (.invokevirtual 76, 3) := by decide +kernel
theorem dL_holds_610 : decode cL_holds 610 = .ok (.invokevirtual 31, 3) := by decide +kernel
theorem dL_holds_613 : decode cL_holds 613 = .ok (.ifCond .eq 20, 3) := by decide +kernel
theorem dL_holds_616 : decode cL_holds 616 = .ok (.aload_n 0, 1) := by decide +kernel
theorem dL_holds_617 : decode cL_holds 617 = .ok (.aload_n 0, 1) := by decide +kernel
theorem dL_holds_618 : decode cL_holds 618 = .ok (.iload_n 3, 1) := by decide +kernel
theorem dL_holds_619 : decode cL_holds 619 = .ok (.iconst 3, 1) := by decide +kernel
theorem dL_holds_620 : decode cL_holds 620 = .ok (.invokevirtual 76, 3) := by decide +kernel
theorem dL_holds_623 : decode cL_holds 623 = .ok (.invokevirtual 31, 3) := by decide +kernel
theorem dL_holds_626 : decode cL_holds 626 = .ok (.ifCond .eq 7, 3) := by decide +kernel
theorem dL_holds_629 : decode cL_holds 629 = .ok (.iconst 1, 1) := by decide +kernel
theorem dL_holds_630 : decode cL_holds 630 = .ok (.goto 4, 3) := by decide +kernel
theorem dL_holds_633 : decode cL_holds 633 = .ok (.iconst 0, 1) := by decide +kernel
theorem dL_holds_634 : decode cL_holds 634 = .ok (.if_icmp .ne 7, 3) := by decide +kernel
theorem dL_holds_637 : decode cL_holds 637 = .ok (.iconst 1, 1) := by decide +kernel
theorem dL_holds_638 : decode cL_holds 638 = .ok (.goto 4, 3) := by decide +kernel
theorem dL_holds_641 : decode cL_holds 641 = .ok (.iconst 0, 1) := by decide +kernel
theorem dL_holds_642 : decode cL_holds 642 = .ok (.istore_n 2, 1) := by decide +kernel
theorem dL_holds_643 : decode cL_holds 643 = .ok (.iinc 3 1, 3) := by decide +kernel
theorem dL_holds_646 : decode cL_holds 646 = .ok (.goto (-73), 3) := by decide +kernel
theorem dL_holds_649 : decode cL_holds 649 = .ok (.aload_n 0, 1) := by decide +kernel
theorem dL_holds_650 : decode cL_holds 650 = .ok (.iconst 1, 1) := by decide +kernel
theorem dL_holds_651 : decode cL_holds 651 = .ok (.invokevirtual 88, 3) := by decide +kernel
theorem dL_holds_654 : decode cL_holds 654 = .ok (.istore_n 3, 1) := by decide +kernel
theorem dL_holds_655 : decode cL_holds 655 = .ok (.aload_n 0, 1) := by decide +kernel
theorem dL_holds_656 : decode cL_holds 656 = .ok (.iconst 2, 1) := by decide +kernel
theorem dL_holds_657 : decode cL_holds 657 = .ok (.invokevirtual 88, 3) := by decide +kernel
theorem dL_holds_660 : decode cL_holds 660 = .ok (.istore 4, 2) := by decide +kernel
theorem dL_holds_662 : decode cL_holds 662 = .ok (.aload_n 0, 1) := by decide +kernel
theorem dL_holds_663 : decode cL_holds 663 = .ok (.iconst 3, 1) := by decide +kernel
theorem dL_holds_664 : decode cL_holds 664 = .ok (.invokevirtual 88, 3) := by decide +kernel
theorem dL_holds_667 : decode cL_holds 667 = .ok (.istore 5, 2) := by decide +kernel
theorem dL_holds_669 : decode cL_holds 669 = .ok (.iload_n 2, 1) := by decide +kernel
theorem dL_holds_670 : decode cL_holds 670 = .ok (.ifCond .eq 78, 3) := by decide +kernel
theorem dL_holds_673 : decode cL_holds 673 = .ok (.iload_n 3, 1) := by decide +kernel
theorem dL_holds_674 : decode cL_holds 674 = .ok (.iconst (-1), 1) := by decide +kernel
theorem dL_holds_675 : decode cL_holds 675 = .ok (.if_icmp .eq 11, 3) := by decide +kernel
theorem dL_holds_678 : decode cL_holds 678 = .ok (.aload_n 0, 1) := by decide +kernel
theorem dL_holds_679 : decode cL_holds 679 = .ok (.iload_n 3, 1) := by decide +kernel
theorem dL_holds_680 : decode cL_holds 680 = .ok (.invokevirtual 31, 3) := by decide +kernel
theorem dL_holds_683 : decode cL_holds 683 = .ok (.ifCond .eq 65, 3) := by decide +kernel
theorem dL_holds_686 : decode cL_holds 686 = .ok (.iload 4, 2) := by decide +kernel
theorem dL_holds_688 : decode cL_holds 688 = .ok (.iconst (-1), 1) := by decide +kernel
theorem dL_holds_689 : decode cL_holds 689 = .ok (.if_icmp .eq 22, 3) := by decide +kernel
theorem dL_holds_692 : decode cL_holds 692 = .ok (.iload_n 3, 1) := by decide +kernel
theorem dL_holds_693 : decode cL_holds 693 = .ok (.ifCond .lt 55, 3) := by decide +kernel
theorem dL_holds_696 : decode cL_holds 696 = .ok (.iload_n 3, 1) := by decide +kernel
theorem dL_holds_697 : decode cL_holds 697 = .ok (.iload 4, 2) := by decide +kernel
theorem dL_holds_699 : decode cL_holds 699 = .ok (.if_icmp .eq 49, 3) := by decide +kernel
theorem dL_holds_702 : decode cL_holds 702 = .ok (.aload_n 0, 1) := by decide +kernel
theorem dL_holds_703 : decode cL_holds 703 = .ok (.iload 4, 2) := by decide +kernel
theorem dL_holds_705 : decode cL_holds 705 = .ok (.invokevirtual 31, 3) := by decide +kernel
theorem dL_holds_708 : decode cL_holds 708 = .ok (.ifCond .eq 40, 3) := by decide +kernel
theorem dL_holds_711 : decode cL_holds 711 = .ok (.iload 5, 2) := by decide +kernel
theorem dL_holds_713 : decode cL_holds 713 = .ok (.iconst (-1), 1) := by decide +kernel
theorem dL_holds_714 : decode cL_holds 714 = .ok (.if_icmp .eq 30, 3) := by decide +kernel
theorem dL_holds_717 : decode cL_holds 717 = .ok (.iload 4, 2) := by decide +kernel
theorem dL_holds_719 : decode cL_holds 719 = .ok (.ifCond .lt 29, 3) := by decide +kernel
theorem dL_holds_722 : decode cL_holds 722 = .ok (.iload 5, 2) := by decide +kernel
theorem dL_holds_724 : decode cL_holds 724 = .ok (.iload_n 3, 1) := by decide +kernel
theorem dL_holds_725 : decode cL_holds 725 = .ok (.if_icmp .eq 23, 3) := by decide +kernel
theorem dL_holds_728 : decode cL_holds 728 = .ok (.iload 5, 2) := by decide +kernel
theorem dL_holds_730 : decode cL_holds 730 = .ok (.iload 4, 2) := by decide +kernel
theorem dL_holds_732 : decode cL_holds 732 = .ok (.if_icmp .eq 16, 3) := by decide +kernel
theorem dL_holds_735 : decode cL_holds 735 = .ok (.aload_n 0, 1) := by decide +kernel
theorem dL_holds_736 : decode cL_holds 736 = .ok (.iload 5, 2) := by decide +kernel
theorem dL_holds_738 : decode cL_holds 738 = .ok (.invokevirtual 31, 3) := by decide +kernel
theorem dL_holds_741 : decode cL_holds 741 = .ok (.ifCond .eq 7, 3) := by decide +kernel
theorem dL_holds_744 : decode cL_holds 744 = .ok (.iconst 1, 1) := by decide +kernel
theorem dL_holds_745 : decode cL_holds 745 = .ok (.goto 4, 3) := by decide +kernel
theorem dL_holds_748 : decode cL_holds 748 = .ok (.iconst 0, 1) := by decide +kernel
theorem dL_holds_749 : decode cL_holds 749 = .ok (.ireturn, 1) := by decide +kernel
theorem dL_isBrought_0 : decode cL_isBrought 0 = .ok (.aload_n 0, 1) := by decide +kernel
theorem dL_isBrought_1 : decode cL_isBrought 1 = .ok (.iload_n 1, 1) := by decide +kernel
theorem dL_isBrought_2 : decode cL_isBrought 2 = .ok (.invokevirtual 85, 3) := by decide +kernel
theorem dL_isBrought_5 : decode cL_isBrought 5 = .ok (.ifCond .eq 12, 3) := by decide +kernel
theorem dL_isBrought_8 : decode cL_isBrought 8 = .ok (.aload_n 0, 1) := by decide +kernel
theorem dL_isBrought_9 : decode cL_isBrought 9 = .ok (.invokevirtual 21, 3) := by decide +kernel
theorem dL_isBrought_12 : decode cL_isBrought 12 = .ok (.bipush 12, 2) := by decide +kernel
theorem dL_isBrought_14 : decode cL_isBrought 14 = .ok (.if_icmp .ne 5, 3) := by decide +kernel
theorem dL_isBrought_17 : decode cL_isBrought 17 = .ok (.iconst 1, 1) := by decide +kernel
theorem dL_isBrought_18 : decode cL_isBrought 18 = .ok (.ireturn, 1) := by decide +kernel
theorem dL_isBrought_19 : decode cL_isBrought 19 = .ok (.aload_n 0, 1) := by decide +kernel
theorem dL_isBrought_20 : decode cL_isBrought 20 = .ok (.invokevirtual 91, 3) := by decide +kernel
theorem dL_isBrought_23 : decode cL_isBrought 23 = .ok (.lstore 4, 2) := by decide +kernel
theorem dL_isBrought_25 : decode cL_isBrought 25 = .ok (.aload_n 0, 1) := by decide +kernel
theorem dL_isBrought_26 : decode cL_isBrought 26 = .ok (.iload_n 1, 1) := by decide +kernel
theorem dL_isBrought_27 : decode cL_isBrought 27 = .ok (.invokevirtual 59, 3) := by decide +kernel
theorem dL_isBrought_30 : decode cL_isBrought 30 = .ok (.istore 6, 2) := by decide +kernel
theorem dL_isBrought_32 : decode cL_isBrought 32 = .ok (.aload_n 0, 1) := by decide +kernel
theorem dL_isBrought_33 : decode cL_isBrought 33 = .ok (.iload_n 1, 1) := by decide +kernel
theorem dL_isBrought_34 : decode cL_isBrought 34 = .ok (.iload_n 2, 1) := by decide +kernel
theorem dL_isBrought_35 : decode cL_isBrought 35 = .ok (.invokevirtual 52, 3) := by decide +kernel
theorem dL_isBrought_38 : decode cL_isBrought 38 = .ok (.istore 7, 2) := by decide +kernel
theorem dL_isBrought_40 : decode cL_isBrought 40 = .ok (.iload 7, 2) := by decide +kernel
theorem dL_isBrought_42 : decode cL_isBrought 42 = .ok (.aload_n 0, 1) := by decide +kernel
theorem dL_isBrought_43 : decode cL_isBrought 43 = .ok (.invokevirtual 21, 3) := by decide +kernel
theorem dL_isBrought_46 : decode cL_isBrought 46 = .ok (.iconst 1, 1) := by decide +kernel
theorem dL_isBrought_47 : decode cL_isBrought 47 = .ok (.isub, 1) := by decide +kernel
theorem dL_isBrought_48 : decode cL_isBrought 48 = .ok (.if_icmp .ne 37, 3) := by decide +kernel
theorem dL_isBrought_51 : decode cL_isBrought 51 = .ok (.aload_n 0, 1) := by decide +kernel
theorem dL_isBrought_52 : decode cL_isBrought 52 = .ok (.iload 7, 2) := by decide +kernel
theorem dL_isBrought_54 : decode cL_isBrought 54 = .ok (.iconst 1, 1) := by decide +kernel
theorem dL_isBrought_55 : decode cL_isBrought 55 = .ok (.invokevirtual 39, 3) := by decide +kernel
theorem dL_isBrought_58 : decode cL_isBrought 58 = .ok (.ifCond .ne 27, 3) := by decide +kernel
theorem dL_isBrought_61 : decode cL_isBrought 61 = .ok (.aload_n 0, 1) := by decide +kernel
theorem dL_isBrought_62 : decode cL_isBrought 62 = .ok (.iload 7, 2) := by decide +kernel
theorem dL_isBrought_64 : decode cL_isBrought 64 = .ok (.iconst 3, 1) := by decide +kernel
theorem dL_isBrought_65 : decode cL_isBrought 65 = .ok (.invokevirtual 39, 3) := by decide +kernel
theorem dL_isBrought_68 : decode cL_isBrought 68 = .ok (.ifCond .ne 17, 3) := by decide +kernel
theorem dL_isBrought_71 : decode cL_isBrought 71 = .ok (.aload_n 0, 1) := by decide +kernel
theorem dL_isBrought_72 : decode cL_isBrought 72 = .ok (.iload 7, 2) := by decide +kernel
theorem dL_isBrought_74 : decode cL_isBrought 74 = .ok (.invokevirtual 55, 3) := by decide +kernel
theorem dL_isBrought_77 : decode cL_isBrought 77 = .ok (.iconst 4, 1) := by decide +kernel
theorem dL_isBrought_78 : decode cL_isBrought 78 = .ok (.if_icmp .ne 7, 3) := by decide +kernel
theorem dL_isBrought_81 : decode cL_isBrought 81 = .ok (.iconst 1, 1) := by decide +kernel
theorem dL_isBrought_82 : decode cL_isBrought 82 = .ok (.goto 4, 3) := by decide +kernel
theorem dL_isBrought_85 : decode cL_isBrought 85 = .ok (.iconst 0, 1) := by decide +kernel
theorem dL_isBrought_86 : decode cL_isBrought 86 = .ok (.istore 8, 2) := by decide +kernel
theorem dL_isBrought_88 : decode cL_isBrought 88 = .ok (.aload_n 0, 1) := by decide +kernel
theorem dL_isBrought_89 : decode cL_isBrought 89 = .ok (.aload_n 0, 1) := by decide +kernel
theorem dL_isBrought_90 : decode cL_isBrought 90 = .ok (.iload_n 1, 1) := by decide +kernel
theorem dL_isBrought_91 : decode cL_isBrought 91 = .ok (.iconst 2, 1) := by decide +kernel
theorem dL_isBrought_92 : decode cL_isBrought 92 = .ok (.invokevirtual 76, 3) := by decide +kernel
theorem dL_isBrought_95 : decode cL_isBrought 95 = .ok (.iload_n 3, 1) := by decide +kernel
theorem dL_isBrought_96 : decode cL_isBrought 96 = .ok (.invokevirtual 28, 3) := by decide +kernel
theorem dL_isBrought_99 : decode cL_isBrought 99 = .ok (.istore 9, 2) := by decide +kernel
theorem dL_isBrought_101 : decode cL_isBrought 101 = .ok (.iconst 0, 1) := by decide +kernel
theorem dL_isBrought_102 : decode cL_isBrought 102 = .ok (.istore 10, 2) := by decide +kernel
theorem dL_isBrought_104 : decode cL_isBrought 104 = .ok (.iconst 0, 1) := by decide +kernel
theorem dL_isBrought_105 : decode cL_isBrought 105 = .ok (.istore 11, 2) := by decide +kernel
theorem dL_isBrought_107 : decode cL_isBrought 107 = .ok (.iload 11, 2) := by decide +kernel
theorem dL_isBrought_109 : decode cL_isBrought 109 = .ok (.aload_n 0, 1) := by decide +kernel
theorem dL_isBrought_110 : decode cL_isBrought 110 = .ok (.invokevirtual 21, 3) := by decide +kernel
theorem dL_isBrought_113 : decode cL_isBrought 113 = .ok (.if_icmp .ge 29, 3) := by decide +kernel
theorem dL_isBrought_116 : decode cL_isBrought 116 = .ok (.iload 10, 2) := by decide +kernel
theorem dL_isBrought_118 : decode cL_isBrought 118 = .ok (.aload_n 0, 1) := by decide +kernel
theorem dL_isBrought_119 : decode cL_isBrought 119 = .ok (.iload 11, 2) := by decide +kernel
theorem dL_isBrought_121 : decode cL_isBrought 121 = .ok (.invokevirtual 55, 3) := by decide +kernel
theorem dL_isBrought_124 : decode cL_isBrought 124 = .ok (.iconst (-1), 1) := by decide +kernel
theorem dL_isBrought_125 : decode cL_isBrought 125 = .ok (.if_icmp .ne 7, 3) := by decide +kernel
theorem dL_isBrought_128 : decode cL_isBrought 128 = .ok (.iconst 0, 1) := by decide +kernel
theorem dL_isBrought_129 : decode cL_isBrought 129 = .ok (.goto 4, 3) := by decide +kernel
theorem dL_isBrought_132 : decode cL_isBrought 132 = .ok (.iconst 1, 1) := by decide +kernel
theorem dL_isBrought_133 : decode cL_isBrought 133 = .ok (.iadd, 1) := by decide +kernel
theorem dL_isBrought_134 : decode cL_isBrought 134 = .ok (.istore 10, 2) := by decide +kernel
theorem dL_isBrought_136 : decode cL_isBrought 136 = .ok (.iinc 11 1, 3) := by decide +kernel
theorem dL_isBrought_139 : decode cL_isBrought 139 = .ok (.goto (-32), 3) := by decide +kernel
theorem dL_isBrought_142 : decode cL_isBrought 142 = .ok (.iload 8, 2) := by decide +kernel
theorem dL_isBrought_144 : decode cL_isBrought 144 = .ok (.ifCond .eq 74, 3) := by decide +kernel
theorem dL_isBrought_147 : decode cL_isBrought 147 = .ok (.iload 9, 2) := by decide +kernel
theorem dL_isBrought_149 : decode cL_isBrought 149 = .ok (.ifCond .lt 69, 3) := by decide +kernel
theorem dL_isBrought_152 : decode cL_isBrought 152 = .ok (.aload_n 0, 1) := by decide +kernel
theorem dL_isBrought_153 : decode cL_isBrought 153 = .ok (.iconst 4, 1) := by decide +kernel
theorem dL_isBrought_154 : decode cL_isBrought 154 = .ok (.invokevirtual 62, 3) := by decide +kernel
theorem dL_isBrought_157 : decode cL_isBrought 157 = .ok (.iload 10, 2) := by decide +kernel
theorem dL_isBrought_159 : decode cL_isBrought 159 = .ok (.if_icmp .ne 59, 3) := by decide +kernel
theorem dL_isBrought_162 : decode cL_isBrought 162 = .ok (.aload_n 0, 1) := by decide +kernel
theorem dL_isBrought_163 : decode cL_isBrought 163 = .ok (.invokevirtual 21, 3) := by decide +kernel
theorem dL_isBrought_166 : decode cL_isBrought 166 = .ok (.ifCond .ne 52, 3) := by decide +kernel
theorem dL_isBrought_169 : decode cL_isBrought 169 = .ok (.aload_n 0, 1) := by decide +kernel
theorem dL_isBrought_170 : decode cL_isBrought 170 = .ok (.iload 6, 2) := by decide +kernel
theorem dL_isBrought_172 : decode cL_isBrought 172 = .ok (.invokevirtual 95, 3) := by decide +kernel
theorem dL_isBrought_175 : decode cL_isBrought 175 = .ok (.iload_n 2, 1) := by decide +kernel
theorem dL_isBrought_176 : decode cL_isBrought 176 = .ok (.if_icmp .ne 42, 3) := by decide +kernel
theorem dL_isBrought_179 : decode cL_isBrought 179 = .ok (.aload_n 0, 1) := by decide +kernel
theorem dL_isBrought_180 : decode cL_isBrought 180 = .ok (.iload 6, 2) := by decide +kernel
theorem dL_isBrought_182 : decode cL_isBrought 182 = .ok (.iload_n 3, 1) := by decide +kernel
theorem dL_isBrought_183 : decode cL_isBrought 183 = .ok (.invokevirtual 49, 3) := by decide +kernel
theorem dL_isBrought_186 : decode cL_isBrought 186 = .ok (.ifCond .ne 32, 3) := by decide +kernel
theorem dL_isBrought_189 : decode cL_isBrought 189 = .ok (.aload_n 0, 1) := by decide +kernel
theorem dL_isBrought_190 : decode cL_isBrought 190 = .ok (.iconst 3, 1) := by decide +kernel
theorem dL_isBrought_191 : decode cL_isBrought 191 = .ok (.invokevirtual 62, 3) := by decide +kernel
theorem dL_isBrought_194 : decode cL_isBrought 194 = .ok (.ifCond .ne 24, 3) := by decide +kernel
theorem dL_isBrought_197 : decode cL_isBrought 197 = .ok (.aload_n 0, 1) := by decide +kernel
theorem dL_isBrought_198 : decode cL_isBrought 198 = .ok (.iconst 1, 1) := by decide +kernel
theorem dL_isBrought_199 : decode cL_isBrought 199 = .ok (.invokevirtual 62, 3) := by decide +kernel
theorem dL_isBrought_202 : decode cL_isBrought 202 = .ok (.iconst 1, 1) := by decide +kernel
theorem dL_isBrought_203 : decode cL_isBrought 203 = .ok (.if_icmp .ne 15, 3) := by decide +kernel
theorem dL_isBrought_206 : decode cL_isBrought 206 = .ok (.aload_n 0, 1) := by decide +kernel
theorem dL_isBrought_207 : decode cL_isBrought 207 = .ok (.invokevirtual 98, 3) := by decide +kernel
theorem dL_isBrought_210 : decode cL_isBrought 210 = .ok (.iload_n 3, 1) := by decide +kernel
theorem dL_isBrought_211 : decode cL_isBrought 211 = .ok (.if_icmp .ne 7, 3) := by decide +kernel
theorem dL_isBrought_214 : decode cL_isBrought 214 = .ok (.iconst 1, 1) := by decide +kernel
theorem dL_isBrought_215 : decode cL_isBrought 215 = .ok (.goto 4, 3) := by decide +kernel
theorem dL_isBrought_218 : decode cL_isBrought 218 = .ok (.iconst 0, 1) := by decide +kernel
theorem dL_isBrought_219 : decode cL_isBrought 219 = .ok (.istore 8, 2) := by decide +kernel
theorem dL_isBrought_221 : decode cL_isBrought 221 = .ok (.iconst 0, 1) := by decide +kernel
theorem dL_isBrought_222 : decode cL_isBrought 222 = .ok (.istore 11, 2) := by decide +kernel
theorem dL_isBrought_224 : decode cL_isBrought 224 = .ok (.iload 11, 2) := by decide +kernel
theorem dL_isBrought_226 : decode cL_isBrought 226 = .ok (.bipush 6, 2) := by decide +kernel
theorem dL_isBrought_228 : decode cL_isBrought 228 = .ok (.if_icmp .ge 28, 3) := by decide +kernel
theorem dL_isBrought_231 : decode cL_isBrought 231 = .ok (.iload 8, 2) := by decide +kernel
theorem dL_isBrought_233 : decode cL_isBrought 233 = .ok (.ifCond .eq 23, 3) := by decide +kernel
theorem dL_isBrought_236 : decode cL_isBrought 236 = .ok (.aload_n 0, 1) := by decide +kernel
theorem dL_isBrought_237 : decode cL_isBrought 237 = .ok (.invokevirtual 101, 3) := by decide +kernel
theorem dL_isBrought_240 : decode cL_isBrought 240 = .ok (.ifCond .lt 7, 3) := by decide +kernel
theorem dL_isBrought_243 : decode cL_isBrought 243 = .ok (.iconst 1, 1) := by decide +kernel
theorem dL_isBrought_244 : decode cL_isBrought 244 = .ok (.goto 4, 3) := by decide +kernel
theorem dL_isBrought_247 : decode cL_isBrought 247 = .ok (.iconst 0, 1) := by decide +kernel
theorem dL_isBrought_248 : decode cL_isBrought 248 = .ok (.istore 8, 2) := by decide +kernel
theorem dL_isBrought_250 : decode cL_isBrought 250 = .ok (.iinc 11 1, 3) := by decide +kernel
theorem dL_isBrought_253 : decode cL_isBrought 253 = .ok (.goto (-29), 3) := by decide +kernel
theorem dL_isBrought_256 : decode cL_isBrought 256 = .ok (.iload 8, 2) := by decide +kernel
theorem dL_isBrought_258 : decode cL_isBrought 258 = .ok (.ifCond .eq 17, 3) := by decide +kernel
theorem dL_isBrought_261 : decode cL_isBrought 261 = .ok (.aload_n 0, 1) := by decide +kernel
theorem dL_isBrought_262 : decode cL_isBrought 262 = .ok (.invokevirtual 91, 3) := by decide +kernel
theorem dL_isBrought_265 : decode cL_isBrought 265 = .ok (.lload 4, 2) := by decide +kernel
theorem dL_isBrought_267 : decode cL_isBrought 267 = .ok (.lcmp, 1) := by decide +kernel
theorem dL_isBrought_268 : decode cL_isBrought 268 = .ok (.ifCond .ne 7, 3) := by decide +kernel
theorem dL_isBrought_271 : decode cL_isBrought 271 = .ok (.iconst 1, 1) := by decide +kernel
theorem dL_isBrought_272 : decode cL_isBrought 272 = .ok (.goto 4, 3) := by decide +kernel
theorem dL_isBrought_275 : decode cL_isBrought 275 = .ok (.iconst 0, 1) := by decide +kernel
theorem dL_isBrought_276 : decode cL_isBrought 276 = .ok (.ireturn, 1) := by decide +kernel
theorem dL_isCovered_0 : decode cL_isCovered 0 = .ok (.aload_n 0, 1) := by decide +kernel
theorem dL_isCovered_1 : decode cL_isCovered 1 = .ok (.iload_n 1, 1) := by decide +kernel
theorem dL_isCovered_2 : decode cL_isCovered 2 = .ok (.iload_n 2, 1) := by decide +kernel
theorem dL_isCovered_3 : decode cL_isCovered 3 = .ok (.invokevirtual 104, 3) := by decide +kernel
theorem dL_isCovered_6 : decode cL_isCovered 6 = .ok (.istore_n 3, 1) := by decide +kernel
theorem dL_isCovered_7 : decode cL_isCovered 7 = .ok (.aload_n 0, 1) := by decide +kernel
theorem dL_isCovered_8 : decode cL_isCovered 8 = .ok (.iload_n 1, 1) := by decide +kernel
theorem dL_isCovered_9 : decode cL_isCovered 9 = .ok (.iload_n 2, 1) := by decide +kernel
theorem dL_isCovered_10 : decode cL_isCovered 10 = .ok (.invokevirtual 107, 3) := by decide +kernel
theorem dL_isCovered_13 : decode cL_isCovered 13 = .ok (.istore 4, 2) := by decide +kernel
theorem dL_isCovered_15 : decode cL_isCovered 15 = .ok (.iload_n 3, 1) := by decide +kernel
theorem dL_isCovered_16 : decode cL_isCovered 16 = .ok (.ifCond .lt 48, 3) := by decide +kernel
theorem dL_isCovered_19 : decode cL_isCovered 19 = .ok (.iload_n 3, 1) := by decide +kernel
theorem dL_isCovered_20 : decode cL_isCovered 20 = .ok (.sipush 9999, 3) := by decide +kernel
theorem dL_isCovered_23 : decode cL_isCovered 23 = .ok (.if_icmp .gt 41, 3) := by decide +kernel
theorem dL_isCovered_26 : decode cL_isCovered 26 = .ok (.iload 4, 2) := by decide +kernel
theorem dL_isCovered_28 : decode cL_isCovered 28 = .ok (.ifCond .lt 36, 3) := by decide +kernel
theorem dL_isCovered_31 : decode cL_isCovered 31 = .ok (.iload 4, 2) := by decide +kernel
theorem dL_isCovered_33 : decode cL_isCovered 33 = .ok (.sipush 9999, 3) := by decide +kernel
theorem dL_isCovered_36 : decode cL_isCovered 36 = .ok (.if_icmp .gt 28, 3) := by decide +kernel
theorem dL_isCovered_39 : decode cL_isCovered 39 = .ok (.aload_n 0, 1) := by decide +kernel
theorem dL_isCovered_40 : decode cL_isCovered 40 = .ok (.iload_n 1, 1) := by decide +kernel
theorem dL_isCovered_41 : decode cL_isCovered 41 = .ok (.iload_n 3, 1) := by decide +kernel
theorem dL_isCovered_42 : decode cL_isCovered 42 = .ok (.invokevirtual 107, 3) := by decide +kernel
theorem dL_isCovered_45 : decode cL_isCovered 45 = .ok (.iload_n 2, 1) := by decide +kernel
theorem dL_isCovered_46 : decode cL_isCovered 46 = .ok (.if_icmp .ne 18, 3) := by decide +kernel
theorem dL_isCovered_49 : decode cL_isCovered 49 = .ok (.aload_n 0, 1) := by decide +kernel
theorem dL_isCovered_50 : decode cL_isCovered 50 = .ok (.iload_n 1, 1) := by decide +kernel
theorem dL_isCovered_51 : decode cL_isCovered 51 = .ok (.iload 4, 2) := by decide +kernel
theorem dL_isCovered_53 : decode cL_isCovered 53 = .ok (.invokevirtual 104, 3) := by decide +kernel
theorem dL_isCovered_56 : decode cL_isCovered 56 = .ok (.iload_n 2, 1) := by decide +kernel
theorem dL_isCovered_57 : decode cL_isCovered 57 = .ok (.if_icmp .ne 7, 3) := by decide +kernel
theorem dL_isCovered_60 : decode cL_isCovered 60 = .ok (.iconst 1, 1) := by decide +kernel
theorem dL_isCovered_61 : decode cL_isCovered 61 = .ok (.goto 4, 3) := by decide +kernel
theorem dL_isCovered_64 : decode cL_isCovered 64 = .ok (.iconst 0, 1) := by decide +kernel
theorem dL_isCovered_65 : decode cL_isCovered 65 = .ok (.ireturn, 1) := by decide +kernel
theorem dL_law_0 : decode cL_law 0 = .ok (.new 16, 3) := by decide +kernel
theorem dL_law_3 : decode cL_law 3 = .ok (.dup, 1) := by decide +kernel
theorem dL_law_4 : decode cL_law 4 = .ok (.invokespecial 110, 3) := by decide +kernel
theorem dL_law_7 : decode cL_law 7 = .ok (.astore_n 1, 1) := by decide +kernel
theorem dL_law_8 : decode cL_law 8 = .ok (.iconst 4, 1) := by decide +kernel
theorem dL_law_9 : decode cL_law 9 = .ok (.newarray .int, 2) := by decide +kernel
theorem dL_law_11 : decode cL_law 11 = .ok (.astore_n 2, 1) := by decide +kernel
theorem dL_law_12 : decode cL_law 12 = .ok (.iconst 4, 1) := by decide +kernel
theorem dL_law_13 : decode cL_law 13 = .ok (.newarray .int, 2) := by decide +kernel
theorem dL_law_15 : decode cL_law 15 = .ok (.astore_n 3, 1) := by decide +kernel
theorem dL_law_16 : decode cL_law 16 = .ok (.aload_n 1, 1) := by decide +kernel
theorem dL_law_17 : decode cL_law 17 = .ok (.invokestatic 111, 3) := by decide +kernel
theorem dL_law_20 : decode cL_law 20 = .ok (.istore 4, 2) := by decide +kernel
theorem dL_law_22 : decode cL_law 22 = .ok (.iconst 0, 1) := by decide +kernel
theorem dL_law_23 : decode cL_law 23 = .ok (.istore 5, 2) := by decide +kernel
theorem dL_law_25 : decode cL_law 25 = .ok (.iload 5, 2) := by decide +kernel
theorem dL_law_27 : decode cL_law 27 = .ok (.iconst 4, 1) := by decide +kernel
theorem dL_law_28 : decode cL_law 28 = .ok (.if_icmp .ge 14, 3) := by decide +kernel
theorem dL_law_31 : decode cL_law 31 = .ok (.aload_n 2, 1) := by decide +kernel
theorem dL_law_32 : decode cL_law 32 = .ok (.iload 5, 2) := by decide +kernel
theorem dL_law_34 : decode cL_law 34 = .ok (.iconst (-1), 1) := by decide +kernel
theorem dL_law_35 : decode cL_law 35 = .ok (.iastore, 1) := by decide +kernel
theorem dL_law_36 : decode cL_law 36 = .ok (.iinc 5 1, 3) := by decide +kernel
theorem dL_law_39 : decode cL_law 39 = .ok (.goto (-14), 3) := by decide +kernel
theorem dL_law_42 : decode cL_law 42 = .ok (.iconst 0, 1) := by decide +kernel
theorem dL_law_43 : decode cL_law 43 = .ok (.istore 5, 2) := by decide +kernel
theorem dL_law_45 : decode cL_law 45 = .ok (.iload 5, 2) := by decide +kernel
theorem dL_law_47 : decode cL_law 47 = .ok (.bipush 72, 2) := by decide +kernel
theorem dL_law_49 : decode cL_law 49 = .ok (.if_icmp .ge 319, 3) := by decide +kernel
theorem dL_law_52 : decode cL_law 52 = .ok (.iload 4, 2) := by decide +kernel
theorem dL_law_54 : decode cL_law 54 = .ok (.ifCond .eq 314, 3) := by decide +kernel
theorem dL_law_57 : decode cL_law 57 = .ok (.aload_n 0, 1) := by decide +kernel
theorem dL_law_58 : decode cL_law 58 = .ok (.iconst 2, 1) := by decide +kernel
theorem dL_law_59 : decode cL_law 59 = .ok (.iload 5, 2) := by decide +kernel
theorem dL_law_61 : decode cL_law 61 = .ok (.imul, 1) := by decide +kernel
theorem dL_law_62 : decode cL_law 62 = .ok (.invokestatic 115, 3) := by decide +kernel
theorem dL_law_65 : decode cL_law 65 = .ok (.istore 6, 2) := by decide +kernel
theorem dL_law_67 : decode cL_law 67 = .ok (.aload_n 0, 1) := by decide +kernel
theorem dL_law_68 : decode cL_law 68 = .ok (.iconst 2, 1) := by decide +kernel
theorem dL_law_69 : decode cL_law 69 = .ok (.iload 5, 2) := by decide +kernel
theorem dL_law_71 : decode cL_law 71 = .ok (.imul, 1) := by decide +kernel
theorem dL_law_72 : decode cL_law 72 = .ok (.iconst 1, 1) := by decide +kernel
theorem dL_law_73 : decode cL_law 73 = .ok (.iadd, 1) := by decide +kernel
theorem dL_law_74 : decode cL_law 74 = .ok (.invokestatic 115, 3) := by decide +kernel
theorem dL_law_77 : decode cL_law 77 = .ok (.istore 7, 2) := by decide +kernel
theorem dL_law_79 : decode cL_law 79 = .ok (.aload_n 1, 1) := by decide +kernel
theorem dL_law_80 : decode cL_law 80 = .ok (.invokevirtual 91, 3) := by decide +kernel
theorem dL_law_83 : decode cL_law 83 = .ok (.lstore 8, 2) := by decide +kernel
theorem dL_law_85 : decode cL_law 85 = .ok (.aload_n 1, 1) := by decide +kernel
theorem dL_law_86 : decode cL_law 86 = .ok (.invokevirtual 119, 3) := by decide +kernel
theorem dL_law_89 : decode cL_law 89 = .ok (.istore 10, 2) := by decide +kernel
theorem dL_law_91 : decode cL_law 91 = .ok (.iconst 0, 1) := by decide +kernel
theorem dL_law_92 : decode cL_law 92 = .ok (.istore 11, 2) := by decide +kernel
theorem dL_law_94 : decode cL_law 94 = .ok (.iload 11, 2) := by decide +kernel
theorem dL_law_96 : decode cL_law 96 = .ok (.iconst 4, 1) := by decide +kernel
theorem dL_law_97 : decode cL_law 97 = .ok (.if_icmp .ge 17, 3) := by decide +kernel
theorem dL_law_100 : decode cL_law 100 = .ok (.aload_n 3, 1) := by decide +kernel
theorem dL_law_101 : decode cL_law 101 = .ok (.iload 11, 2) := by decide +kernel
theorem dL_law_103 : decode cL_law 103 = .ok (.aload_n 2, 1) := by decide +kernel
theorem dL_law_104 : decode cL_law 104 = .ok (.iload 11, 2) := by decide +kernel
theorem dL_law_106 : decode cL_law 106 = .ok (.iaload, 1) := by decide +kernel
theorem dL_law_107 : decode cL_law 107 = .ok (.iastore, 1) := by decide +kernel
theorem dL_law_108 : decode cL_law 108 = .ok (.iinc 11 1, 3) := by decide +kernel
theorem dL_law_111 : decode cL_law 111 = .ok (.goto (-17), 3) := by decide +kernel
theorem dL_law_114 : decode cL_law 114 = .ok (.aload_n 1, 1) := by decide +kernel
theorem dL_law_115 : decode cL_law 115 = .ok (.aload_n 2, 1) := by decide +kernel
theorem dL_law_116 : decode cL_law 116 = .ok (.iload 6, 2) := by decide +kernel
theorem dL_law_118 : decode cL_law 118 = .ok (.iload 7, 2) := by decide +kernel
theorem dL_law_120 : decode cL_law 120 = .ok (.invokestatic 122, 3) := by decide +kernel
theorem dL_law_123 : decode cL_law 123 = .ok (.istore 11, 2) := by decide +kernel
theorem dL_law_125 : decode cL_law 125 = .ok (.iload 11, 2) := by decide +kernel
theorem dL_law_127 : decode cL_law 127 = .ok (.ifCond .lt 30, 3) := by decide +kernel
theorem dL_law_130 : decode cL_law 130 = .ok (.aload_n 1, 1) := by decide +kernel
theorem dL_law_131 : decode cL_law 131 = .ok (.invokevirtual 119, 3) := by decide +kernel
theorem dL_law_134 : decode cL_law 134 = .ok (.iload 10, 2) := by decide +kernel
theorem dL_law_136 : decode cL_law 136 = .ok (.bipush 6, 2) := by decide +kernel
theorem dL_law_138 : decode cL_law 138 = .ok (.if_icmp .ge 10, 3) := by decide +kernel
theorem dL_law_141 : decode cL_law 141 = .ok (.iload 10, 2) := by decide +kernel
theorem dL_law_143 : decode cL_law 143 = .ok (.iconst 1, 1) := by decide +kernel
theorem dL_law_144 : decode cL_law 144 = .ok (.iadd, 1) := by decide +kernel
theorem dL_law_145 : decode cL_law 145 = .ok (.goto 5, 3) := by decide +kernel
theorem dL_law_148 : decode cL_law 148 = .ok (.bipush 6, 2) := by decide +kernel
theorem dL_law_150 : decode cL_law 150 = .ok (.if_icmp .ne 7, 3) := by decide +kernel
theorem dL_law_153 : decode cL_law 153 = .ok (.iconst 1, 1) := by decide +kernel
theorem dL_law_154 : decode cL_law 154 = .ok (.goto 4, 3) := by decide +kernel
theorem dL_law_157 : decode cL_law 157 = .ok (.iconst 0, 1) := by decide +kernel
theorem dL_law_158 : decode cL_law 158 = .ok (.istore 4, 2) := by decide +kernel
theorem dL_law_160 : decode cL_law 160 = .ok (.iload 4, 2) := by decide +kernel
theorem dL_law_162 : decode cL_law 162 = .ok (.ifCond .eq 100, 3) := by decide +kernel
theorem dL_law_165 : decode cL_law 165 = .ok (.iload 6, 2) := by decide +kernel
theorem dL_law_167 : decode cL_law 167 = .ok (.bipush 8, 2) := by decide +kernel
theorem dL_law_169 : decode cL_law 169 = .ok (.ishr, 1) := by decide +kernel
theorem dL_law_170 : decode cL_law 170 = .ok (.iconst 3, 1) := by decide +kernel
theorem dL_law_171 : decode cL_law 171 = .ok (.iand, 1) := by decide +kernel
theorem dL_law_172 : decode cL_law 172 = .ok (.ifCond .ne 90, 3) := by decide +kernel
theorem dL_law_175 : decode cL_law 175 = .ok (.aload_n 1, 1) := by decide +kernel
theorem dL_law_176 : decode cL_law 176 = .ok (.invokevirtual 91, 3) := by decide +kernel
theorem dL_law_179 : decode cL_law 179 = .ok (.lstore 12, 2) := by decide +kernel
theorem dL_law_181 : decode cL_law 181 = .ok (.aload_n 1, 1) := by decide +kernel
theorem dL_law_182 : decode cL_law 182 = .ok (.invokevirtual 119, 3) := by decide +kernel
theorem dL_law_185 : decode cL_law 185 = .ok (.iconst 1, 1) := by decide +kernel
theorem dL_law_186 : decode cL_law 186 = .ok (.isub, 1) := by decide +kernel
theorem dL_law_187 : decode cL_law 187 = .ok (.istore 14, 2) := by decide +kernel
theorem dL_law_189 : decode cL_law 189 = .ok (.iconst 0, 1) := by decide +kernel
theorem dL_law_190 : decode cL_law 190 = .ok (.istore 15, 2) := by decide +kernel
theorem dL_law_192 : decode cL_law 192 = .ok (.iload 15, 2) := by decide +kernel
theorem dL_law_194 : decode cL_law 194 = .ok (.iconst 4, 1) := by decide +kernel
theorem dL_law_195 : decode cL_law 195 = .ok (.if_icmp .ge 17, 3) := by decide +kernel
theorem dL_law_198 : decode cL_law 198 = .ok (.aload_n 2, 1) := by decide +kernel
theorem dL_law_199 : decode cL_law 199 = .ok (.iload 15, 2) := by decide +kernel
theorem dL_law_201 : decode cL_law 201 = .ok (.aload_n 3, 1) := by decide +kernel
theorem dL_law_202 : decode cL_law 202 = .ok (.iload 15, 2) := by decide +kernel
theorem dL_law_204 : decode cL_law 204 = .ok (.iaload, 1) := by decide +kernel
theorem dL_law_205 : decode cL_law 205 = .ok (.iastore, 1) := by decide +kernel
theorem dL_law_206 : decode cL_law 206 = .ok (.iinc 15 1, 3) := by decide +kernel
theorem dL_law_209 : decode cL_law 209 = .ok (.goto (-17), 3) := by decide +kernel
theorem dL_law_212 : decode cL_law 212 = .ok (.aload_n 1, 1) := by decide +kernel
theorem dL_law_213 : decode cL_law 213 = .ok (.invokevirtual 101, 3) := by decide +kernel
theorem dL_law_216 : decode cL_law 216 = .ok (.iload 14, 2) := by decide +kernel
theorem dL_law_218 : decode cL_law 218 = .ok (.if_icmp .ne 41, 3) := by decide +kernel
theorem dL_law_221 : decode cL_law 221 = .ok (.aload_n 1, 1) := by decide +kernel
theorem dL_law_222 : decode cL_law 222 = .ok (.invokevirtual 91, 3) := by decide +kernel
theorem dL_law_225 : decode cL_law 225 = .ok (.lload 8, 2) := by decide +kernel
theorem dL_law_227 : decode cL_law 227 = .ok (.lcmp, 1) := by decide +kernel
theorem dL_law_228 : decode cL_law 228 = .ok (.ifCond .ne 31, 3) := by decide +kernel
theorem dL_law_231 : decode cL_law 231 = .ok (.aload_n 1, 1) := by decide +kernel
theorem dL_law_232 : decode cL_law 232 = .ok (.aload_n 2, 1) := by decide +kernel
theorem dL_law_233 : decode cL_law 233 = .ok (.iload 6, 2) := by decide +kernel
theorem dL_law_235 : decode cL_law 235 = .ok (.iload 7, 2) := by decide +kernel
theorem dL_law_237 : decode cL_law 237 = .ok (.invokestatic 122, 3) := by decide +kernel
theorem dL_law_240 : decode cL_law 240 = .ok (.iload 11, 2) := by decide +kernel
theorem dL_law_242 : decode cL_law 242 = .ok (.if_icmp .ne 17, 3) := by decide +kernel
theorem dL_law_245 : decode cL_law 245 = .ok (.aload_n 1, 1) := by decide +kernel
theorem dL_law_246 : decode cL_law 246 = .ok (.invokevirtual 91, 3) := by decide +kernel
theorem dL_law_249 : decode cL_law 249 = .ok (.lload 12, 2) := by decide +kernel
theorem dL_law_251 : decode cL_law 251 = .ok (.lcmp, 1) := by decide +kernel
theorem dL_law_252 : decode cL_law 252 = .ok (.ifCond .ne 7, 3) := by decide +kernel
theorem dL_law_255 : decode cL_law 255 = .ok (.iconst 1, 1) := by decide +kernel
theorem dL_law_256 : decode cL_law 256 = .ok (.goto 4, 3) := by decide +kernel
theorem dL_law_259 : decode cL_law 259 = .ok (.iconst 0, 1) := by decide +kernel
theorem dL_law_260 : decode cL_law 260 = .ok (.istore 4, 2) := by decide +kernel
theorem dL_law_262 : decode cL_law 262 = .ok (.iload 4, 2) := by decide +kernel
theorem dL_law_264 : decode cL_law 264 = .ok (.ifCond .eq 95, 3) := by decide +kernel
theorem dL_law_267 : decode cL_law 267 = .ok (.aload_n 1, 1) := by decide +kernel
theorem dL_law_268 : decode cL_law 268 = .ok (.invokestatic 111, 3) := by decide +kernel
theorem dL_law_271 : decode cL_law 271 = .ok (.ifCond .eq 88, 3) := by decide +kernel
theorem dL_law_274 : decode cL_law 274 = .ok (.aload_n 1, 1) := by decide +kernel
theorem dL_law_275 : decode cL_law 275 = .ok (.iload 6, 2) := by decide +kernel
theorem dL_law_277 : decode cL_law 277 = .ok (.iconst 5, 1) := by decide +kernel
theorem dL_law_278 : decode cL_law 278 = .ok (.ishr, 1) := by decide +kernel
theorem dL_law_279 : decode cL_law 279 = .ok (.bipush 8, 2) := by decide +kernel
theorem dL_law_281 : decode cL_law 281 = .ok (.invokestatic 9, 3) := by decide +kernel
theorem dL_law_284 : decode cL_law 284 = .ok (.iload 7, 2) := by decide +kernel
theorem dL_law_286 : decode cL_law 286 = .ok (.iconst 4, 1) := by decide +kernel
theorem dL_law_287 : decode cL_law 287 = .ok (.ishr, 1) := by decide +kernel
theorem dL_law_288 : decode cL_law 288 = .ok (.sipush 10000, 3) := by decide +kernel
theorem dL_law_291 : decode cL_law 291 = .ok (.invokestatic 9, 3) := by decide +kernel
theorem dL_law_294 : decode cL_law 294 = .ok (.invokestatic 126, 3) := by decide +kernel
theorem dL_law_297 : decode cL_law 297 = .ok (.ifCond .eq 62, 3) := by decide +kernel
theorem dL_law_300 : decode cL_law 300 = .ok (.iload 5, 2) := by decide +kernel
theorem dL_law_302 : decode cL_law 302 = .ok (.iconst 5, 1) := by decide +kernel
theorem dL_law_303 : decode cL_law 303 = .ok (.irem, 1) := by decide +kernel
theorem dL_law_304 : decode cL_law 304 = .ok (.iconst 3, 1) := by decide +kernel
theorem dL_law_305 : decode cL_law 305 = .ok (.if_icmp .ne 50, 3) := by decide +kernel
theorem dL_law_308 : decode cL_law 308 = .ok (.aload_n 1, 1) := by decide +kernel
theorem dL_law_309 : decode cL_law 309 = .ok (.invokevirtual 15, 3) := by decide +kernel
theorem dL_law_312 : decode cL_law 312 = .ok (.ifCond .eq 43, 3) := by decide +kernel
theorem dL_law_315 : decode cL_law 315 = .ok (.aload_n 1, 1) := by decide +kernel
theorem dL_law_316 : decode cL_law 316 = .ok (.iload 7, 2) := by decide +kernel
theorem dL_law_318 : decode cL_law 318 = .ok (.iconst 5, 1) := by decide +kernel
theorem dL_law_319 : decode cL_law 319 = .ok (.ishr, 1) := by decide +kernel
theorem dL_law_320 : decode cL_law 320 = .ok (.aload_n 1, 1) := by decide +kernel
theorem dL_law_321 : decode cL_law 321 = .ok (.invokevirtual 15, 3) := by decide +kernel
theorem dL_law_324 : decode cL_law 324 = .ok (.invokestatic 9, 3) := by decide +kernel
theorem dL_law_327 : decode cL_law 327 = .ok (.iload 6, 2) := by decide +kernel
theorem dL_law_329 : decode cL_law 329 = .ok (.bipush 6, 2) := by decide +kernel
theorem dL_law_331 : decode cL_law 331 = .ok (.ishr, 1) := by decide +kernel
theorem dL_law_332 : decode cL_law 332 = .ok (.sipush 10000, 3) := by decide +kernel
theorem dL_law_335 : decode cL_law 335 = .ok (.invokestatic 9, 3) := by decide +kernel
theorem dL_law_338 : decode cL_law 338 = .ok (.iload 7, 2) := by decide +kernel
theorem dL_law_340 : decode cL_law 340 = .ok (.bipush 7, 2) := by decide +kernel
theorem dL_law_342 : decode cL_law 342 = .ok (.ishr, 1) := by decide +kernel
theorem dL_law_343 : decode cL_law 343 = .ok (.sipush 10000, 3) := by decide +kernel
theorem dL_law_346 : decode cL_law 346 = .ok (.invokestatic 9, 3) := by decide +kernel
theorem dL_law_349 : decode cL_law 349 = .ok (.invokestatic 130, 3) := by decide +kernel
theorem dL_law_352 : decode cL_law 352 = .ok (.ifCond .eq 7, 3) := by decide +kernel
theorem dL_law_355 : decode cL_law 355 = .ok (.iconst 1, 1) := by decide +kernel
theorem dL_law_356 : decode cL_law 356 = .ok (.goto 4, 3) := by decide +kernel
theorem dL_law_359 : decode cL_law 359 = .ok (.iconst 0, 1) := by decide +kernel
theorem dL_law_360 : decode cL_law 360 = .ok (.istore 4, 2) := by decide +kernel
theorem dL_law_362 : decode cL_law 362 = .ok (.iinc 5 1, 3) := by decide +kernel
theorem dL_law_365 : decode cL_law 365 = .ok (.goto (-320), 3) := by decide +kernel
theorem dL_law_368 : decode cL_law 368 = .ok (.iload 4, 2) := by decide +kernel
theorem dL_law_370 : decode cL_law 370 = .ok (.ireturn, 1) := by decide +kernel
