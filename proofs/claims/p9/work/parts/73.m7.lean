abbrev MX12_oneMore : jM := (RX12, cX12_oneMore, 8, some .boolean, false)
theorem fl_X12_107 : jFL RX12 107 12 43 := ⟨_, _, _, rfl, iX12, by decide, Or.inl (jt6 117 rfl rfl)⟩
theorem fl_X12_110 : jFL RX12 110 12 44 := ⟨_, _, _, rfl, iX12, by decide, Or.inl (jt6 118 rfl rfl)⟩
theorem fl_X12_104 : jFL RX12 104 12 42 := ⟨_, _, _, rfl, iX12, by decide, Or.inl (jt6 116 rfl rfl)⟩
theorem cv_X12_340 : jCV RX12 340 12 yX12_stepBetween MX12_stepBetween 2 := ⟨_, _, rfl, (jt8 46 rfl rfl), (jt8 45 rfl rfl), (jtp (q := (⟨"BeanStreetModel", "stepBetween", "(II)I"⟩, 56)) (List.mem_of_getElem? (i := 99) rfl)), (jt1 13 rfl rfl), ⟨by decide, by decide, by decide +kernel⟩, Or.inl (jt8 43 rfl rfl)⟩
abbrev MX12_parted : jM := (RX12, cX12_parted, 4, some .int, false)
theorem cv_X12_343 : jCV RX12 343 12 yX12_oneMore MX12_oneMore 2 := ⟨_, _, rfl, (jt8 42 rfl rfl), (jt8 41 rfl rfl), (jtp (q := (⟨"BeanStreetModel", "oneMore", "(II)Z"⟩, 56)) (List.mem_of_getElem? (i := 98) rfl)), (jt1 13 rfl rfl), ⟨by decide, by decide, by decide +kernel⟩, Or.inl (jt8 39 rfl rfl)⟩
theorem dX12_oneMore_0 : decode cX12_oneMore 0 = .ok (.iconst 0, 1) := by decide +kernel
theorem dX12_oneMore_1 : decode cX12_oneMore 1 = .ok (.istore_n 3, 1) := by decide +kernel
theorem dX12_oneMore_2 : decode cX12_oneMore 2 = .ok (.iload_n 3, 1) := by decide +kernel
theorem dX12_oneMore_3 : decode cX12_oneMore 3 = .ok (.aload_n 0, 1) := by decide +kernel
theorem dX12_oneMore_4 : decode cX12_oneMore 4 = .ok (.getfield 298, 3) := by decide +kernel
theorem dX12_oneMore_7 : decode cX12_oneMore 7 = .ok (.if_icmp .ge 16, 3) := by decide +kernel
theorem dX12_oneMore_23 : decode cX12_oneMore 23 = .ok (.aload_n 0, 1) := by decide +kernel
theorem dX12_oneMore_24 : decode cX12_oneMore 24 = .ok (.getfield 107, 3) := by decide +kernel
theorem dX12_oneMore_27 : decode cX12_oneMore 27 = .ok (.iload_n 1, 1) := by decide +kernel
theorem dX12_oneMore_28 : decode cX12_oneMore 28 = .ok (.iload_n 1, 1) := by decide +kernel
theorem dX12_oneMore_29 : decode cX12_oneMore 29 = .ok (.iastore, 1) := by decide +kernel
theorem dX12_oneMore_30 : decode cX12_oneMore 30 = .ok (.aload_n 0, 1) := by decide +kernel
theorem dX12_oneMore_31 : decode cX12_oneMore 31 = .ok (.getfield 92, 3) := by decide +kernel
theorem dX12_oneMore_34 : decode cX12_oneMore 34 = .ok (.iconst 0, 1) := by decide +kernel
theorem dX12_oneMore_35 : decode cX12_oneMore 35 = .ok (.iload_n 1, 1) := by decide +kernel
theorem dX12_oneMore_36 : decode cX12_oneMore 36 = .ok (.iastore, 1) := by decide +kernel
theorem dX12_oneMore_37 : decode cX12_oneMore 37 = .ok (.iconst 1, 1) := by decide +kernel
theorem dX12_oneMore_38 : decode cX12_oneMore 38 = .ok (.istore_n 3, 1) := by decide +kernel
theorem dX12_oneMore_39 : decode cX12_oneMore 39 = .ok (.iconst 0, 1) := by decide +kernel
theorem dX12_oneMore_40 : decode cX12_oneMore 40 = .ok (.istore 4, 2) := by decide +kernel
theorem dX12_oneMore_42 : decode cX12_oneMore 42 = .ok (.iload 4, 2) := by decide +kernel
theorem dX12_oneMore_44 : decode cX12_oneMore 44 = .ok (.iload_n 3, 1) := by decide +kernel
theorem dX12_oneMore_45 : decode cX12_oneMore 45 = .ok (.if_icmp .ge 228, 3) := by decide +kernel
theorem dX12_oneMore_273 : decode cX12_oneMore 273 = .ok (.aload_n 0, 1) := by decide +kernel
theorem dX12_oneMore_274 : decode cX12_oneMore 274 = .ok (.getfield 107, 3) := by decide +kernel
theorem dX12_oneMore_277 : decode cX12_oneMore 277 = .ok (.iload_n 2, 1) := by decide +kernel
theorem dX12_oneMore_278 : decode cX12_oneMore 278 = .ok (.iaload, 1) := by decide +kernel
theorem dX12_oneMore_279 : decode cX12_oneMore 279 = .ok (.iconst (-1), 1) := by decide +kernel
theorem dX12_oneMore_280 : decode cX12_oneMore 280 = .ok (.if_icmp .ne 5, 3) := by decide +kernel
theorem dX12_oneMore_285 : decode cX12_oneMore 285 = .ok (.iload_n 2, 1) := by decide +kernel
theorem dX12_oneMore_286 : decode cX12_oneMore 286 = .ok (.istore 4, 2) := by decide +kernel
theorem dX12_oneMore_288 : decode cX12_oneMore 288 = .ok (.iload 4, 2) := by decide +kernel
theorem dX12_oneMore_290 : decode cX12_oneMore 290 = .ok (.iload_n 1, 1) := by decide +kernel
theorem dX12_oneMore_291 : decode cX12_oneMore 291 = .ok (.if_icmp .eq 84, 3) := by decide +kernel
theorem dX12_oneMore_375 : decode cX12_oneMore 375 = .ok (.iconst 1, 1) := by decide +kernel
theorem dX12_oneMore_376 : decode cX12_oneMore 376 = .ok (.ireturn, 1) := by decide +kernel
theorem dX12_oneMore_294 : decode cX12_oneMore 294 = .ok (.aload_n 0, 1) := by decide +kernel
theorem dX12_oneMore_295 : decode cX12_oneMore 295 = .ok (.getfield 110, 3) := by decide +kernel
theorem dX12_oneMore_298 : decode cX12_oneMore 298 = .ok (.iload 4, 2) := by decide +kernel
theorem dX12_oneMore_300 : decode cX12_oneMore 300 = .ok (.iaload, 1) := by decide +kernel
theorem dX12_oneMore_301 : decode cX12_oneMore 301 = .ok (.iconst 1, 1) := by decide +kernel
theorem dX12_oneMore_302 : decode cX12_oneMore 302 = .ok (.if_icmp .ne 36, 3) := by decide +kernel
theorem dX12_oneMore_338 : decode cX12_oneMore 338 = .ok (.aload_n 0, 1) := by decide +kernel
theorem dX12_oneMore_339 : decode cX12_oneMore 339 = .ok (.getfield 104, 3) := by decide +kernel
theorem dX12_oneMore_342 : decode cX12_oneMore 342 = .ok (.bipush 22, 2) := by decide +kernel
theorem dX12_oneMore_344 : decode cX12_oneMore 344 = .ok (.iload 4, 2) := by decide +kernel
theorem dX12_oneMore_346 : decode cX12_oneMore 346 = .ok (.imul, 1) := by decide +kernel
theorem dX12_oneMore_347 : decode cX12_oneMore 347 = .ok (.aload_n 0, 1) := by decide +kernel
theorem dX12_oneMore_348 : decode cX12_oneMore 348 = .ok (.iload 4, 2) := by decide +kernel
theorem dX12_oneMore_350 : decode cX12_oneMore 350 = .ok (.aload_n 0, 1) := by decide +kernel
theorem dX12_oneMore_351 : decode cX12_oneMore 351 = .ok (.getfield 107, 3) := by decide +kernel
theorem dX12_oneMore_354 : decode cX12_oneMore 354 = .ok (.iload 4, 2) := by decide +kernel
theorem dX12_oneMore_356 : decode cX12_oneMore 356 = .ok (.iaload, 1) := by decide +kernel
theorem dX12_oneMore_357 : decode cX12_oneMore 357 = .ok (.invokevirtual 340, 3) := by decide +kernel
theorem dX12_oneMore_360 : decode cX12_oneMore 360 = .ok (.iadd, 1) := by decide +kernel
theorem dX12_oneMore_361 : decode cX12_oneMore 361 = .ok (.iconst 0, 1) := by decide +kernel
theorem dX12_oneMore_362 : decode cX12_oneMore 362 = .ok (.bastore, 1) := by decide +kernel
theorem dX12_oneMore_363 : decode cX12_oneMore 363 = .ok (.aload_n 0, 1) := by decide +kernel
theorem dX12_oneMore_364 : decode cX12_oneMore 364 = .ok (.getfield 107, 3) := by decide +kernel
theorem dX12_oneMore_367 : decode cX12_oneMore 367 = .ok (.iload 4, 2) := by decide +kernel
theorem dX12_oneMore_369 : decode cX12_oneMore 369 = .ok (.iaload, 1) := by decide +kernel
theorem dX12_oneMore_370 : decode cX12_oneMore 370 = .ok (.istore 4, 2) := by decide +kernel
theorem dX12_oneMore_372 : decode cX12_oneMore 372 = .ok (.goto (-84), 3) := by decide +kernel
theorem dX12_oneMore_305 : decode cX12_oneMore 305 = .ok (.aload_n 0, 1) := by decide +kernel
theorem dX12_oneMore_306 : decode cX12_oneMore 306 = .ok (.getfield 104, 3) := by decide +kernel
theorem dX12_oneMore_309 : decode cX12_oneMore 309 = .ok (.bipush 22, 2) := by decide +kernel
theorem dX12_oneMore_311 : decode cX12_oneMore 311 = .ok (.aload_n 0, 1) := by decide +kernel
theorem dX12_oneMore_312 : decode cX12_oneMore 312 = .ok (.getfield 107, 3) := by decide +kernel
theorem dX12_oneMore_315 : decode cX12_oneMore 315 = .ok (.iload 4, 2) := by decide +kernel
theorem dX12_oneMore_317 : decode cX12_oneMore 317 = .ok (.iaload, 1) := by decide +kernel
theorem dX12_oneMore_318 : decode cX12_oneMore 318 = .ok (.imul, 1) := by decide +kernel
theorem dX12_oneMore_319 : decode cX12_oneMore 319 = .ok (.aload_n 0, 1) := by decide +kernel
theorem dX12_oneMore_320 : decode cX12_oneMore 320 = .ok (.aload_n 0, 1) := by decide +kernel
theorem dX12_oneMore_321 : decode cX12_oneMore 321 = .ok (.getfield 107, 3) := by decide +kernel
theorem dX12_oneMore_324 : decode cX12_oneMore 324 = .ok (.iload 4, 2) := by decide +kernel
theorem dX12_oneMore_326 : decode cX12_oneMore 326 = .ok (.iaload, 1) := by decide +kernel
theorem dX12_oneMore_327 : decode cX12_oneMore 327 = .ok (.iload 4, 2) := by decide +kernel
theorem dX12_oneMore_329 : decode cX12_oneMore 329 = .ok (.invokevirtual 340, 3) := by decide +kernel
theorem dX12_oneMore_332 : decode cX12_oneMore 332 = .ok (.iadd, 1) := by decide +kernel
theorem dX12_oneMore_333 : decode cX12_oneMore 333 = .ok (.iconst 1, 1) := by decide +kernel
theorem dX12_oneMore_334 : decode cX12_oneMore 334 = .ok (.bastore, 1) := by decide +kernel
theorem dX12_oneMore_335 : decode cX12_oneMore 335 = .ok (.goto 28, 3) := by decide +kernel
theorem dX12_oneMore_283 : decode cX12_oneMore 283 = .ok (.iconst 0, 1) := by decide +kernel
theorem dX12_oneMore_284 : decode cX12_oneMore 284 = .ok (.ireturn, 1) := by decide +kernel
theorem dX12_oneMore_48 : decode cX12_oneMore 48 = .ok (.aload_n 0, 1) := by decide +kernel
theorem dX12_oneMore_49 : decode cX12_oneMore 49 = .ok (.getfield 107, 3) := by decide +kernel
theorem dX12_oneMore_52 : decode cX12_oneMore 52 = .ok (.iload_n 2, 1) := by decide +kernel
theorem dX12_oneMore_53 : decode cX12_oneMore 53 = .ok (.iaload, 1) := by decide +kernel
theorem dX12_oneMore_54 : decode cX12_oneMore 54 = .ok (.iconst (-1), 1) := by decide +kernel
theorem dX12_oneMore_55 : decode cX12_oneMore 55 = .ok (.if_icmp .ne 218, 3) := by decide +kernel
theorem dX12_oneMore_58 : decode cX12_oneMore 58 = .ok (.aload_n 0, 1) := by decide +kernel
theorem dX12_oneMore_59 : decode cX12_oneMore 59 = .ok (.getfield 92, 3) := by decide +kernel
theorem dX12_oneMore_62 : decode cX12_oneMore 62 = .ok (.iload 4, 2) := by decide +kernel
theorem dX12_oneMore_64 : decode cX12_oneMore 64 = .ok (.iaload, 1) := by decide +kernel
theorem dX12_oneMore_65 : decode cX12_oneMore 65 = .ok (.istore 5, 2) := by decide +kernel
theorem dX12_oneMore_67 : decode cX12_oneMore 67 = .ok (.iconst 0, 1) := by decide +kernel
theorem dX12_oneMore_68 : decode cX12_oneMore 68 = .ok (.istore 6, 2) := by decide +kernel
theorem dX12_oneMore_70 : decode cX12_oneMore 70 = .ok (.iload 6, 2) := by decide +kernel
theorem dX12_oneMore_72 : decode cX12_oneMore 72 = .ok (.aload_n 0, 1) := by decide +kernel
theorem dX12_oneMore_73 : decode cX12_oneMore 73 = .ok (.getfield 67, 3) := by decide +kernel
theorem dX12_oneMore_76 : decode cX12_oneMore 76 = .ok (.iload 5, 2) := by decide +kernel
theorem dX12_oneMore_78 : decode cX12_oneMore 78 = .ok (.iaload, 1) := by decide +kernel
theorem dX12_oneMore_79 : decode cX12_oneMore 79 = .ok (.if_icmp .ge 88, 3) := by decide +kernel
theorem dX12_oneMore_167 : decode cX12_oneMore 167 = .ok (.iconst 0, 1) := by decide +kernel
theorem dX12_oneMore_168 : decode cX12_oneMore 168 = .ok (.istore 6, 2) := by decide +kernel
theorem dX12_oneMore_170 : decode cX12_oneMore 170 = .ok (.iload 6, 2) := by decide +kernel
theorem dX12_oneMore_172 : decode cX12_oneMore 172 = .ok (.aload_n 0, 1) := by decide +kernel
theorem dX12_oneMore_173 : decode cX12_oneMore 173 = .ok (.getfield 73, 3) := by decide +kernel
theorem dX12_oneMore_176 : decode cX12_oneMore 176 = .ok (.iload 5, 2) := by decide +kernel
theorem dX12_oneMore_178 : decode cX12_oneMore 178 = .ok (.iaload, 1) := by decide +kernel
theorem dX12_oneMore_179 : decode cX12_oneMore 179 = .ok (.if_icmp .ge 88, 3) := by decide +kernel
theorem dX12_oneMore_267 : decode cX12_oneMore 267 = .ok (.iinc 4 1, 3) := by decide +kernel
theorem dX12_oneMore_270 : decode cX12_oneMore 270 = .ok (.goto (-228), 3) := by decide +kernel
theorem dX12_oneMore_182 : decode cX12_oneMore 182 = .ok (.aload_n 0, 1) := by decide +kernel
theorem dX12_oneMore_183 : decode cX12_oneMore 183 = .ok (.getfield 70, 3) := by decide +kernel
theorem dX12_oneMore_186 : decode cX12_oneMore 186 = .ok (.bipush 22, 2) := by decide +kernel
theorem dX12_oneMore_188 : decode cX12_oneMore 188 = .ok (.iload 5, 2) := by decide +kernel
theorem dX12_oneMore_190 : decode cX12_oneMore 190 = .ok (.imul, 1) := by decide +kernel
theorem dX12_oneMore_191 : decode cX12_oneMore 191 = .ok (.iload 6, 2) := by decide +kernel
theorem dX12_oneMore_193 : decode cX12_oneMore 193 = .ok (.iadd, 1) := by decide +kernel
theorem dX12_oneMore_194 : decode cX12_oneMore 194 = .ok (.iaload, 1) := by decide +kernel
theorem dX12_oneMore_195 : decode cX12_oneMore 195 = .ok (.istore 7, 2) := by decide +kernel
theorem dX12_oneMore_197 : decode cX12_oneMore 197 = .ok (.aload_n 0, 1) := by decide +kernel
theorem dX12_oneMore_198 : decode cX12_oneMore 198 = .ok (.getfield 107, 3) := by decide +kernel
theorem dX12_oneMore_201 : decode cX12_oneMore 201 = .ok (.iload 7, 2) := by decide +kernel
theorem dX12_oneMore_203 : decode cX12_oneMore 203 = .ok (.iaload, 1) := by decide +kernel
theorem dX12_oneMore_204 : decode cX12_oneMore 204 = .ok (.iconst (-1), 1) := by decide +kernel
theorem dX12_oneMore_205 : decode cX12_oneMore 205 = .ok (.if_icmp .ne 56, 3) := by decide +kernel
theorem dX12_oneMore_261 : decode cX12_oneMore 261 = .ok (.iinc 6 1, 3) := by decide +kernel
theorem dX12_oneMore_264 : decode cX12_oneMore 264 = .ok (.goto (-94), 3) := by decide +kernel
theorem dX12_oneMore_208 : decode cX12_oneMore 208 = .ok (.aload_n 0, 1) := by decide +kernel
theorem dX12_oneMore_209 : decode cX12_oneMore 209 = .ok (.getfield 104, 3) := by decide +kernel
theorem dX12_oneMore_212 : decode cX12_oneMore 212 = .ok (.bipush 22, 2) := by decide +kernel
theorem dX12_oneMore_214 : decode cX12_oneMore 214 = .ok (.iload 7, 2) := by decide +kernel
theorem dX12_oneMore_216 : decode cX12_oneMore 216 = .ok (.imul, 1) := by decide +kernel
theorem dX12_oneMore_217 : decode cX12_oneMore 217 = .ok (.aload_n 0, 1) := by decide +kernel
theorem dX12_oneMore_218 : decode cX12_oneMore 218 = .ok (.iload 7, 2) := by decide +kernel
theorem dX12_oneMore_220 : decode cX12_oneMore 220 = .ok (.iload 5, 2) := by decide +kernel
theorem dX12_oneMore_222 : decode cX12_oneMore 222 = .ok (.invokevirtual 340, 3) := by decide +kernel
theorem dX12_oneMore_225 : decode cX12_oneMore 225 = .ok (.iadd, 1) := by decide +kernel
theorem dX12_oneMore_226 : decode cX12_oneMore 226 = .ok (.baload, 1) := by decide +kernel
theorem dX12_oneMore_227 : decode cX12_oneMore 227 = .ok (.ifCond .ne 6, 3) := by decide +kernel
theorem dX12_oneMore_233 : decode cX12_oneMore 233 = .ok (.aload_n 0, 1) := by decide +kernel
theorem dX12_oneMore_234 : decode cX12_oneMore 234 = .ok (.getfield 107, 3) := by decide +kernel
theorem dX12_oneMore_237 : decode cX12_oneMore 237 = .ok (.iload 7, 2) := by decide +kernel
theorem dX12_oneMore_239 : decode cX12_oneMore 239 = .ok (.iload 5, 2) := by decide +kernel
theorem dX12_oneMore_241 : decode cX12_oneMore 241 = .ok (.iastore, 1) := by decide +kernel
theorem dX12_oneMore_242 : decode cX12_oneMore 242 = .ok (.aload_n 0, 1) := by decide +kernel
theorem dX12_oneMore_243 : decode cX12_oneMore 243 = .ok (.getfield 110, 3) := by decide +kernel
theorem dX12_oneMore_246 : decode cX12_oneMore 246 = .ok (.iload 7, 2) := by decide +kernel
theorem dX12_oneMore_248 : decode cX12_oneMore 248 = .ok (.iconst 0, 1) := by decide +kernel
theorem dX12_oneMore_249 : decode cX12_oneMore 249 = .ok (.iastore, 1) := by decide +kernel
theorem dX12_oneMore_250 : decode cX12_oneMore 250 = .ok (.aload_n 0, 1) := by decide +kernel
theorem dX12_oneMore_251 : decode cX12_oneMore 251 = .ok (.getfield 92, 3) := by decide +kernel
theorem dX12_oneMore_254 : decode cX12_oneMore 254 = .ok (.iload_n 3, 1) := by decide +kernel
theorem dX12_oneMore_255 : decode cX12_oneMore 255 = .ok (.iload 7, 2) := by decide +kernel
theorem dX12_oneMore_257 : decode cX12_oneMore 257 = .ok (.iastore, 1) := by decide +kernel
theorem dX12_oneMore_258 : decode cX12_oneMore 258 = .ok (.iinc 3 1, 3) := by decide +kernel
theorem dX12_oneMore_230 : decode cX12_oneMore 230 = .ok (.goto 31, 3) := by decide +kernel
theorem dX12_oneMore_82 : decode cX12_oneMore 82 = .ok (.aload_n 0, 1) := by decide +kernel
theorem dX12_oneMore_83 : decode cX12_oneMore 83 = .ok (.getfield 61, 3) := by decide +kernel
theorem dX12_oneMore_86 : decode cX12_oneMore 86 = .ok (.bipush 22, 2) := by decide +kernel
theorem dX12_oneMore_88 : decode cX12_oneMore 88 = .ok (.iload 5, 2) := by decide +kernel
theorem dX12_oneMore_90 : decode cX12_oneMore 90 = .ok (.imul, 1) := by decide +kernel
theorem dX12_oneMore_91 : decode cX12_oneMore 91 = .ok (.iload 6, 2) := by decide +kernel
theorem dX12_oneMore_93 : decode cX12_oneMore 93 = .ok (.iadd, 1) := by decide +kernel
theorem dX12_oneMore_94 : decode cX12_oneMore 94 = .ok (.iaload, 1) := by decide +kernel
theorem dX12_oneMore_95 : decode cX12_oneMore 95 = .ok (.istore 7, 2) := by decide +kernel
theorem dX12_oneMore_97 : decode cX12_oneMore 97 = .ok (.aload_n 0, 1) := by decide +kernel
theorem dX12_oneMore_98 : decode cX12_oneMore 98 = .ok (.getfield 107, 3) := by decide +kernel
theorem dX12_oneMore_101 : decode cX12_oneMore 101 = .ok (.iload 7, 2) := by decide +kernel
theorem dX12_oneMore_103 : decode cX12_oneMore 103 = .ok (.iaload, 1) := by decide +kernel
theorem dX12_oneMore_104 : decode cX12_oneMore 104 = .ok (.iconst (-1), 1) := by decide +kernel
theorem dX12_oneMore_105 : decode cX12_oneMore 105 = .ok (.if_icmp .ne 56, 3) := by decide +kernel
theorem dX12_oneMore_161 : decode cX12_oneMore 161 = .ok (.iinc 6 1, 3) := by decide +kernel
theorem dX12_oneMore_164 : decode cX12_oneMore 164 = .ok (.goto (-94), 3) := by decide +kernel
theorem dX12_oneMore_108 : decode cX12_oneMore 108 = .ok (.aload_n 0, 1) := by decide +kernel
theorem dX12_oneMore_109 : decode cX12_oneMore 109 = .ok (.getfield 104, 3) := by decide +kernel
theorem dX12_oneMore_112 : decode cX12_oneMore 112 = .ok (.bipush 22, 2) := by decide +kernel
theorem dX12_oneMore_114 : decode cX12_oneMore 114 = .ok (.iload 5, 2) := by decide +kernel
theorem dX12_oneMore_116 : decode cX12_oneMore 116 = .ok (.imul, 1) := by decide +kernel
theorem dX12_oneMore_117 : decode cX12_oneMore 117 = .ok (.aload_n 0, 1) := by decide +kernel
theorem dX12_oneMore_118 : decode cX12_oneMore 118 = .ok (.iload 5, 2) := by decide +kernel
theorem dX12_oneMore_120 : decode cX12_oneMore 120 = .ok (.iload 7, 2) := by decide +kernel
theorem dX12_oneMore_122 : decode cX12_oneMore 122 = .ok (.invokevirtual 340, 3) := by decide +kernel
theorem dX12_oneMore_125 : decode cX12_oneMore 125 = .ok (.iadd, 1) := by decide +kernel
theorem dX12_oneMore_126 : decode cX12_oneMore 126 = .ok (.baload, 1) := by decide +kernel
theorem dX12_oneMore_127 : decode cX12_oneMore 127 = .ok (.ifCond .eq 6, 3) := by decide +kernel
theorem dX12_oneMore_133 : decode cX12_oneMore 133 = .ok (.aload_n 0, 1) := by decide +kernel
theorem dX12_oneMore_134 : decode cX12_oneMore 134 = .ok (.getfield 107, 3) := by decide +kernel
theorem dX12_oneMore_137 : decode cX12_oneMore 137 = .ok (.iload 7, 2) := by decide +kernel
theorem dX12_oneMore_139 : decode cX12_oneMore 139 = .ok (.iload 5, 2) := by decide +kernel
theorem dX12_oneMore_141 : decode cX12_oneMore 141 = .ok (.iastore, 1) := by decide +kernel
theorem dX12_oneMore_142 : decode cX12_oneMore 142 = .ok (.aload_n 0, 1) := by decide +kernel
theorem dX12_oneMore_143 : decode cX12_oneMore 143 = .ok (.getfield 110, 3) := by decide +kernel
theorem dX12_oneMore_146 : decode cX12_oneMore 146 = .ok (.iload 7, 2) := by decide +kernel
theorem dX12_oneMore_148 : decode cX12_oneMore 148 = .ok (.iconst 1, 1) := by decide +kernel
theorem dX12_oneMore_149 : decode cX12_oneMore 149 = .ok (.iastore, 1) := by decide +kernel
theorem dX12_oneMore_150 : decode cX12_oneMore 150 = .ok (.aload_n 0, 1) := by decide +kernel
theorem dX12_oneMore_151 : decode cX12_oneMore 151 = .ok (.getfield 92, 3) := by decide +kernel
theorem dX12_oneMore_154 : decode cX12_oneMore 154 = .ok (.iload_n 3, 1) := by decide +kernel
theorem dX12_oneMore_155 : decode cX12_oneMore 155 = .ok (.iload 7, 2) := by decide +kernel
theorem dX12_oneMore_157 : decode cX12_oneMore 157 = .ok (.iastore, 1) := by decide +kernel
theorem dX12_oneMore_158 : decode cX12_oneMore 158 = .ok (.iinc 3 1, 3) := by decide +kernel
theorem dX12_oneMore_130 : decode cX12_oneMore 130 = .ok (.goto 31, 3) := by decide +kernel
theorem dX12_oneMore_10 : decode cX12_oneMore 10 = .ok (.aload_n 0, 1) := by decide +kernel
theorem dX12_oneMore_11 : decode cX12_oneMore 11 = .ok (.getfield 107, 3) := by decide +kernel
theorem dX12_oneMore_14 : decode cX12_oneMore 14 = .ok (.iload_n 3, 1) := by decide +kernel
theorem dX12_oneMore_15 : decode cX12_oneMore 15 = .ok (.iconst (-1), 1) := by decide +kernel
theorem dX12_oneMore_16 : decode cX12_oneMore 16 = .ok (.iastore, 1) := by decide +kernel
theorem dX12_oneMore_17 : decode cX12_oneMore 17 = .ok (.iinc 3 1, 3) := by decide +kernel
theorem dX12_oneMore_20 : decode cX12_oneMore 20 = .ok (.goto (-18), 3) := by decide +kernel
theorem dX12_parted_0 : decode cX12_parted 0 = .ok (.aload_n 0, 1) := by decide +kernel
theorem dX12_parted_1 : decode cX12_parted 1 = .ok (.iload_n 1, 1) := by decide +kernel
theorem dX12_parted_2 : decode cX12_parted 2 = .ok (.invokevirtual 325, 3) := by decide +kernel
theorem dX12_parted_5 : decode cX12_parted 5 = .ok (.ifCond .eq 16, 3) := by decide +kernel
theorem dX12_parted_8 : decode cX12_parted 8 = .ok (.aload_n 0, 1) := by decide +kernel
theorem dX12_parted_9 : decode cX12_parted 9 = .ok (.iload_n 2, 1) := by decide +kernel
theorem dX12_parted_10 : decode cX12_parted 10 = .ok (.invokevirtual 325, 3) := by decide +kernel
theorem dX12_parted_13 : decode cX12_parted 13 = .ok (.ifCond .eq 8, 3) := by decide +kernel
theorem dX12_parted_16 : decode cX12_parted 16 = .ok (.iload_n 1, 1) := by decide +kernel
theorem dX12_parted_17 : decode cX12_parted 17 = .ok (.iload_n 2, 1) := by decide +kernel
theorem dX12_parted_18 : decode cX12_parted 18 = .ok (.if_icmp .ne 5, 3) := by decide +kernel
theorem dX12_parted_23 : decode cX12_parted 23 = .ok (.aload_n 0, 1) := by decide +kernel
theorem dX12_parted_24 : decode cX12_parted 24 = .ok (.invokevirtual 328, 3) := by decide +kernel
theorem dX12_parted_27 : decode cX12_parted 27 = .ok (.iconst 0, 1) := by decide +kernel
theorem dX12_parted_28 : decode cX12_parted 28 = .ok (.istore_n 3, 1) := by decide +kernel
theorem dX12_parted_29 : decode cX12_parted 29 = .ok (.iload_n 3, 1) := by decide +kernel
theorem dX12_parted_30 : decode cX12_parted 30 = .ok (.sipush 27720, 3) := by decide +kernel
theorem dX12_parted_33 : decode cX12_parted 33 = .ok (.if_icmp .ge 16, 3) := by decide +kernel
theorem dX12_parted_49 : decode cX12_parted 49 = .ok (.iconst 0, 1) := by decide +kernel
theorem dX12_parted_50 : decode cX12_parted 50 = .ok (.istore_n 3, 1) := by decide +kernel
theorem dX12_parted_51 : decode cX12_parted 51 = .ok (.aload_n 0, 1) := by decide +kernel
theorem dX12_parted_52 : decode cX12_parted 52 = .ok (.iload_n 1, 1) := by decide +kernel
theorem dX12_parted_53 : decode cX12_parted 53 = .ok (.iload_n 2, 1) := by decide +kernel
theorem dX12_parted_54 : decode cX12_parted 54 = .ok (.invokevirtual 343, 3) := by decide +kernel
theorem dX12_parted_57 : decode cX12_parted 57 = .ok (.ifCond .eq 9, 3) := by decide +kernel
theorem dX12_parted_66 : decode cX12_parted 66 = .ok (.iload_n 3, 1) := by decide +kernel
theorem dX12_parted_67 : decode cX12_parted 67 = .ok (.ireturn, 1) := by decide +kernel
theorem dX12_parted_60 : decode cX12_parted 60 = .ok (.iinc 3 1, 3) := by decide +kernel
theorem dX12_parted_63 : decode cX12_parted 63 = .ok (.goto (-12), 3) := by decide +kernel
theorem dX12_parted_36 : decode cX12_parted 36 = .ok (.aload_n 0, 1) := by decide +kernel
theorem dX12_parted_37 : decode cX12_parted 37 = .ok (.getfield 104, 3) := by decide +kernel
theorem dX12_parted_40 : decode cX12_parted 40 = .ok (.iload_n 3, 1) := by decide +kernel
theorem dX12_parted_41 : decode cX12_parted 41 = .ok (.iconst 0, 1) := by decide +kernel
theorem dX12_parted_42 : decode cX12_parted 42 = .ok (.bastore, 1) := by decide +kernel
theorem dX12_parted_43 : decode cX12_parted 43 = .ok (.iinc 3 1, 3) := by decide +kernel
theorem dX12_parted_46 : decode cX12_parted 46 = .ok (.goto (-17), 3) := by decide +kernel
theorem dX12_parted_21 : decode cX12_parted 21 = .ok (.iconst (-1), 1) := by decide +kernel
theorem dX12_parted_22 : decode cX12_parted 22 = .ok (.ireturn, 1) := by decide +kernel
theorem v_ab425551c7 {a0 : Int} (h0 : 1 ≤ a0) : -1 ≤ a0 - 1 := by omega
theorem v_bf54a5eca0 {a0 a1 : Int} (h0 : a0 ≤ 1260) (h1 : a1 ≤ a0 - 1) (h2 : 0 ≤ a1) : zr a1 := by omega
theorem v_d6a01a10ff {a0 : Int} (h0 : a0 ≤ 1) (h1 : ¬ a0 = 1) : ¬ a0 = 1 := by omega
theorem v_9bb6b7e389 {a0 a1 a2 : Int} (h0 : a0 ≤ 1260) (h1 : a1 < a0) (h2 : a2 ≤ 21) : 22 * a1 + a2 < 27720 := by omega
theorem v_6134718450 {a0 : Int} (h0 : a0 ≤ 21) : a0 ≤ 21 := by omega
theorem v_575dc791b8 {a0 a1 : Int} (h0 : a0 < a1) : a0 + 1 < (a1 + 1) := by omega
theorem v_9c83f71088 {a0 : Int} (h0 : 0 ≤ a0) : 0 < a0 + 1 := by omega
theorem v_a2994583ad {a0 : Int} (h0 : a0 ≤ 1) (h1 : a0 = 1) : a0 = 1 := by omega
theorem v_8239e0e4f4 {a0 a1 a2 : Int} (h0 : a0 ≤ 1260) (h1 : a1 ≤ a0 - 1) (h2 : a2 ≤ 21) : 22 * a1 + a2 < 27720 := by omega
theorem v_a08c72e379 {a0 a1 : Int} (h0 : a0 ≤ a1 - 1) : a0 ≤ a1 - 1 := by omega
theorem v_8e36dc06aa : (0 : Int) ≤ 27720 := by omega
theorem v_e4a44298bf {a0 : Int} (h0 : 0 ≤ a0) (h1 : a0 ≤ 27720) : zr a0 := by omega
theorem v_432aa4f56c : zr 27720 := by omega
theorem v_58e19e73e6 {a0 : Int} (h0 : a0 ≤ 27720) (h1 : 27720 ≤ a0) : a0 = 27720 := by omega
theorem v_b1fef61bc0 {a0 : Int} (h0 : a0 ≤ 22) : 0 < 23 - a0 := by omega
theorem v_4518f72071 {a0 : Int} (h0 : ¬ 27720 ≤ a0) : a0 < 27720 := by omega
theorem v_449ef0cce5 {a0 : Int} (h0 : ¬ 27720 ≤ a0) : (a0 + 1) ≤ 27720 := by omega
theorem v_4ed8acca34 {a0 : Int} : 27720 - (a0 + 1) < (27720 - a0) := by omega
theorem v_883644a2f0 {a0 : Int} (h0 : ¬ 27720 ≤ a0) : 0 < 27720 - a0 := by omega
set_option maxHeartbeats 4000000 in
set_option maxRecDepth 100000 in
theorem k_stepBetweenF {l : Launch} {G : jG} {nh : Nat} {fh : Nat → Option va_E} (x : Int) (y : Int) (st : Int → Int) (tk : Int → Int) (sm : Int → Int) (ms : Int) (mv : Int) (mt : Int) (mfa : Int) (mtn : Int) (mtk : Int) (mlv : Int) (mbd : Int) (mgo : Int) (mge : Int) (mbk : Int) (mtt : Int) (mtl : Int) (hm : Int) (pm : Int) (hb : Int) (sb : Int) (mfu : Int) (mdm : Int) (mla : Int) (q0 : 0 ≤ x) (q1 : x < hm) (q2 : zr y) (q3 : 1 ≤ hm) (q4 : hm ≤ 1260) (q5 : StM st tk sm hm) (hk98 : fh 98 = some (.inr (12, (.int (zI ms) :: .int (zI mv) :: .ref 99 :: .ref 100 :: .ref 101 :: .ref 102 :: .ref 103 :: .ref 104 :: .ref 105 :: .int (zI mt) :: .int (zI mfa) :: .ref 106 :: .ref 107 :: .ref 108 :: .int (zI mtn) :: .int (zI mtk) :: .int (zI mlv) :: .int (zI mbd) :: .int (zI mgo) :: .int (zI mge) :: .int (zI mbk) :: .ref 109 :: .int (zI mtt) :: .int (zI mtl) :: .ref 110 :: .ref 111 :: .ref 112 :: .ref 113 :: .ref 114 :: .ref 115 :: .ref 116 :: .ref 117 :: .int (zI hm) :: .int (zI pm) :: .int (zI hb) :: .int (zI sb) :: .ref 118 :: .ref 119 :: .ref 120 :: .ref 121 :: .ref 122 :: .ref 123 :: .ref 124 :: .ref 125 :: .ref 126 :: .ref 127 :: .ref 128 :: .ref 129 :: .int (zI mfu) :: .ref 130 :: .ref 131 :: .ref 132 :: .ref 133 :: .ref 134 :: .int (zI mdm) :: .int (zI mla) :: [])))) (hk112 : fh 112 = some (.inl (0, 27720, .inl (zA st)))) (hk113 : fh 113 = some (.inl (0, 27720, .inl (zA tk)))) (hk114 : fh 114 = some (.inl (0, 1260, .inl (zA sm)))) : JM l G yX12_stepBetween MX12_stepBetween { frames := 0, cells := 0, slots := 0, locals := 0 } [.ref 98, .int (zI x), .int (zI y)] (nh, fh) (fun rr h9 => ∃ r : Int, rr = some (.int (zI r)) ∧ h9 = (nh, fh) ∧ (-1 ≤ r) ∧ (r < sm x) ∧ (StB st sm x y r) ∧ (r ≤ 21) ∧ (StF st x y r)) := by
  refine JM.of (by decide) rfl (fun h => by cases h) (Nat.le_of_ble_eq_true rfl) ⟨1, rfl⟩ ?_
  refine J_hc0 (J_ls (ls2 := [some (.ref 98), some (.int (zI x)), some (.int (zI y)), none]) rfl ?_)
  refine Z_iconst (n := 0) dX12_stepBetween_0 ?_
  refine J_istore_n dX12_stepBetween_1 rfl (Nat.le_of_ble_eq_true rfl) rfl ?_
  refine J_ls (ls2 := [some (.ref 98), some (.int (zI x)), some (.int (zI y)), some (.int (zI 0))]) rfl ?_
  have lp2 : ∀ (N2 : Nat) (i_2 : Int), (0 ≤ i_2) → (i_2 ≤ 22) → (StBn st x y i_2) → (22 - i_2).toNat < N2 → J l G MX12_stepBetween { frames := 0, cells := 0, slots := 0, locals := 0 } jE (jMQ G { frames := 0, cells := 0, slots := 0, locals := 0 } (fun rr h9 => ∃ r : Int, rr = some (.int (zI r)) ∧ h9 = (nh, fh) ∧ (-1 ≤ r) ∧ (r < sm x) ∧ (StB st sm x y r) ∧ (r ≤ 21) ∧ (StF st x y r))) (nh, hc fh []) 0 0 2 [some (.ref 98), some (.int (zI x)), some (.int (zI y)), some (.int (zI i_2))] [] := by
    intro N2
    induction N2 with
    | zero => intro i_2 i2_0 i2_1 i2_2 hm; exact absurd hm (Nat.not_lt_zero _)
    | succ N2 ih2 =>
      intro i_2 i2_0 i2_1 i2_2 hm2
      refine J_iload_n dX12_stepBetween_2 rfl rfl ?_
      refine J_aload_n dX12_stepBetween_3 rfl rfl ?_
      refine J_get (v := .ref 114) dX12_stepBetween_4 fl_X12_67 hk98 rfl ?_
      refine J_iload_n dX12_stepBetween_7 rfl rfl ?_
      obtain ⟨z1, ez1⟩ : ∃ z : Int, sm x = z := ⟨_, rfl⟩
      have h2 := StM.deg q5 (v_2b02420001 q0) (v_b9aca61388 q1) ez1
      refine Y_iald (z := z1) 1260 dX12_stepBetween_8 hk114 rfl (by decide) (v_2b02420001 q0) (v_6251b724b8 q1 q4) ez1 ?_
      refine Z_icmp_ge (tgt := 35) dX12_stepBetween_9 (by decide) (v_ee6ec25f58 i2_0 i2_1) (v_ee6ec25f58 h2.1 h2.2) (fun h3 => ?_) (fun h3 => ?_)
      · refine Z_iconst (n := -1) dX12_stepBetween_35 ?_
        exact J_iret dX12_stepBetween_36 rfl rfl (Nat.le_of_ble_eq_true rfl) (Nat.le_of_ble_eq_true rfl) ⟨(-1), rfl, rfl, v_4d9e6ac08a, (by rw [ez1]; exact (v_d69446900d h2.1)), (StB.no i2_2 ez1 (v_d464d4c634 h3)), v_f87d9c79ec, (StF.no)⟩
      · refine J_aload_n dX12_stepBetween_12 rfl rfl ?_
        refine J_get (v := .ref 112) dX12_stepBetween_13 fl_X12_61 hk98 rfl ?_
        refine Z_bipush (n := 22) dX12_stepBetween_16 (by decide +kernel) ?_
        refine J_iload_n dX12_stepBetween_18 rfl rfl ?_
        refine Z_imul (c := 22 * x) dX12_stepBetween_19 rfl ?_
        refine J_iload_n dX12_stepBetween_20 rfl rfl ?_
        refine Z_iadd (c := i_2 + 22 * x) dX12_stepBetween_21 v_ad6305c414 ?_
        obtain ⟨z4, ez4⟩ : ∃ z : Int, st (i_2 + 22 * x) = z := ⟨_, rfl⟩
        have h5 := StM.to q5 (v_2b02420001 q0) (v_b9aca61388 q1) ez1 (v_2b02420001 i2_0) (v_fe9ea41faa h3) v_67a3777f39 ez4
        refine Y_iald (z := z4) 27720 dX12_stepBetween_22 hk112 rfl (by decide) (v_20ea8ee269 q0 i2_0) (v_356853efec q1 q4 h2.2 h3) ez4 ?_
        refine J_iload_n dX12_stepBetween_23 rfl rfl ?_
        refine Z_icmp_ne (tgt := 29) dX12_stepBetween_24 (by decide) (v_24739b0ba2 q4 h5.1 h5.2) (v_b25fa51a85 q2) (fun h6 => ?_) (fun h6 => ?_)
        · refine Z_iinc (c := i_2 + 1) (ls2 := [some (.ref 98), some (.int (zI x)), some (.int (zI y)), some (.int (zI (i_2 + 1)))]) dX12_stepBetween_29 rfl (Nat.le_of_ble_eq_true rfl) rfl rfl rfl ?_
          refine J_goto (tgt := 2) dX12_stepBetween_32 (by decide) ?_
          exact ih2 (i_2 + 1) (v_da458fa48a i2_0) (v_47a3e0fadb h2.2 h3) (StBn.step i2_2 v_67a3777f39 ez4 (v_da5cc3277e h6)) (meas_lt v_7998cc58ac (v_e4105e2830 h2.2 h3) hm2)
        · refine J_iload_n dX12_stepBetween_27 rfl rfl ?_
          exact J_iret dX12_stepBetween_28 rfl rfl (Nat.le_of_ble_eq_true rfl) (Nat.le_of_ble_eq_true rfl) ⟨i_2, rfl, rfl, (v_576129c2e8 i2_0), (by rw [ez1]; exact (v_fe9ea41faa h3)), (StB.yes i2_0 v_67a3777f39 ez4 (v_cd91a95e4e h6)), (v_97e8236a73 h2.2 h3), (StF.yes i2_2 v_67a3777f39 ez4 (v_cd91a95e4e h6))⟩
  exact lp2 _ 0 v_939070ca3f v_88d800e4db (StBn_0) (Nat.lt_succ_self _)
set_option maxHeartbeats 4000000 in
set_option maxRecDepth 100000 in
theorem k_oneMore {l : Launch} {G : jG} {nh : Nat} {fh : Nat → Option va_E} (x : Int) (y : Int) (st : Int → Int) (tk : Int → Int) (sm : Int → Int) (cf : Int → Int) (cm : Int → Int) (li : Int → Int) (us : Int → Int) (wf : Int → Int) (wb : Int → Int) (ms : Int) (mv : Int) (mt : Int) (mfa : Int) (mtn : Int) (mtk : Int) (mlv : Int) (mbd : Int) (mgo : Int) (mge : Int) (mbk : Int) (mtt : Int) (mtl : Int) (hm : Int) (pm : Int) (hb : Int) (sb : Int) (mfu : Int) (mdm : Int) (mla : Int) (q0 : 0 ≤ x) (q1 : x < hm) (q2 : 0 ≤ y) (q3 : y < hm) (q4 : ¬ x = y) (q5 : 1 ≤ hm) (q6 : hm ≤ 1260) (q7 : StM st tk sm hm) (q8 : CoM cf cm st sm hm) (q9 : Rg us 27720 0 1) (q10 : Nin st sm us x hm) (q11 : Rg wb 1260 0 1) (hk98 : fh 98 = some (.inr (12, (.int (zI ms) :: .int (zI mv) :: .ref 99 :: .ref 100 :: .ref 101 :: .ref 102 :: .ref 103 :: .ref 104 :: .ref 105 :: .int (zI mt) :: .int (zI mfa) :: .ref 106 :: .ref 107 :: .ref 108 :: .int (zI mtn) :: .int (zI mtk) :: .int (zI mlv) :: .int (zI mbd) :: .int (zI mgo) :: .int (zI mge) :: .int (zI mbk) :: .ref 109 :: .int (zI mtt) :: .int (zI mtl) :: .ref 110 :: .ref 111 :: .ref 112 :: .ref 113 :: .ref 114 :: .ref 115 :: .ref 116 :: .ref 117 :: .int (zI hm) :: .int (zI pm) :: .int (zI hb) :: .int (zI sb) :: .ref 118 :: .ref 119 :: .ref 120 :: .ref 121 :: .ref 122 :: .ref 123 :: .ref 124 :: .ref 125 :: .ref 126 :: .ref 127 :: .ref 128 :: .ref 129 :: .int (zI mfu) :: .ref 130 :: .ref 131 :: .ref 132 :: .ref 133 :: .ref 134 :: .int (zI mdm) :: .int (zI mla) :: [])))) (hk112 : fh 112 = some (.inl (0, 27720, .inl (zA st)))) (hk113 : fh 113 = some (.inl (0, 27720, .inl (zA tk)))) (hk114 : fh 114 = some (.inl (0, 1260, .inl (zA sm)))) (hk115 : fh 115 = some (.inl (0, 27720, .inl (zA cf)))) (hk116 : fh 116 = some (.inl (0, 1260, .inl (zA cm)))) (hk120 : fh 120 = some (.inl (0, 1260, .inl (zA li)))) (hk124 : fh 124 = some (.inl (2, 27720, .inl (zA us)))) (hk125 : fh 125 = some (.inl (0, 1260, .inl (zA wf)))) (hk126 : fh 126 = some (.inl (0, 1260, .inl (zA wb)))) : JM l G yX12_oneMore MX12_oneMore { frames := 1, cells := 0, slots := 0, locals := 23 } [.ref 98, .int (zI x), .int (zI y)] (nh, fh) (fun rr h9 => (∃ li2 : Int → Int, ∃ us2 : Int → Int, ∃ wf2 : Int → Int, ∃ wb2 : Int → Int, rr = some (.int (zI 0)) ∧ h9 = (nh, hc fh [(120, .inl (0, 1260, .inl (zA li2))), (124, .inl (2, 27720, .inl (zA us2))), (125, .inl (0, 1260, .inl (zA wf2))), (126, .inl (0, 1260, .inl (zA wb2)))]) ∧ (Rg us2 27720 0 1) ∧ (Rg wb2 1260 0 1)) ∨ (∃ li2 : Int → Int, ∃ us2 : Int → Int, ∃ wf2 : Int → Int, ∃ wb2 : Int → Int, rr = some (.int (zI 1)) ∧ h9 = (nh, hc fh [(120, .inl (0, 1260, .inl (zA li2))), (124, .inl (2, 27720, .inl (zA us2))), (125, .inl (0, 1260, .inl (zA wf2))), (126, .inl (0, 1260, .inl (zA wb2)))]) ∧ (Rg us2 27720 0 1) ∧ (Nin st sm us2 x hm) ∧ (cU us2 x = cU us x + 1) ∧ (Rg wb2 1260 0 1))) := by
  refine JM.of (by decide) rfl (fun h => by cases h) (Nat.le_of_ble_eq_true rfl) ⟨5, rfl⟩ ?_
  refine J_hc0 (J_ls (ls2 := [some (.ref 98), some (.int (zI x)), some (.int (zI y)), none, none, none, none, none]) rfl ?_)
  refine Z_iconst (n := 0) dX12_oneMore_0 ?_
  refine J_istore_n dX12_oneMore_1 rfl (Nat.le_of_ble_eq_true rfl) rfl ?_
  refine J_ls (ls2 := [some (.ref 98), some (.int (zI x)), some (.int (zI y)), some (.int (zI 0)), none, none, none, none]) rfl ?_
  refine J_touch (k := 125) (e := .inl (0, 1260, .inl (zA wf))) hk125 ?_
  have lp2 : ∀ (N2 : Nat) (h_2 : Int) (fx_2 : Int → Int), (0 ≤ h_2) → (h_2 ≤ hm) → (fx_2 = fillf wf 0 h_2 (-1)) → (hm - h_2).toNat < N2 → J l G MX12_oneMore { frames := 1, cells := 0, slots := 0, locals := 23 } jE (jMQ G { frames := 1, cells := 0, slots := 0, locals := 23 } (fun rr h9 => (∃ li2 : Int → Int, ∃ us2 : Int → Int, ∃ wf2 : Int → Int, ∃ wb2 : Int → Int, rr = some (.int (zI 0)) ∧ h9 = (nh, hc fh [(120, .inl (0, 1260, .inl (zA li2))), (124, .inl (2, 27720, .inl (zA us2))), (125, .inl (0, 1260, .inl (zA wf2))), (126, .inl (0, 1260, .inl (zA wb2)))]) ∧ (Rg us2 27720 0 1) ∧ (Rg wb2 1260 0 1)) ∨ (∃ li2 : Int → Int, ∃ us2 : Int → Int, ∃ wf2 : Int → Int, ∃ wb2 : Int → Int, rr = some (.int (zI 1)) ∧ h9 = (nh, hc fh [(120, .inl (0, 1260, .inl (zA li2))), (124, .inl (2, 27720, .inl (zA us2))), (125, .inl (0, 1260, .inl (zA wf2))), (126, .inl (0, 1260, .inl (zA wb2)))]) ∧ (Rg us2 27720 0 1) ∧ (Nin st sm us2 x hm) ∧ (cU us2 x = cU us x + 1) ∧ (Rg wb2 1260 0 1)))) (nh, hc fh [(125, .inl (0, 1260, .inl (zA fx_2)))]) 0 0 2 [some (.ref 98), some (.int (zI x)), some (.int (zI y)), some (.int (zI h_2)), none, none, none, none] [] := by
    intro N2
    induction N2 with
    | zero => intro h_2 fx_2 i2_0 i2_1 i2_2 hm; exact absurd hm (Nat.not_lt_zero _)
    | succ N2 ih2 =>
      intro h_2 fx_2 i2_0 i2_1 i2_2 hm2
      refine J_iload_n dX12_oneMore_2 rfl rfl ?_
      refine J_aload_n dX12_oneMore_3 rfl rfl ?_
      refine J_get (v := .int (zI hm)) dX12_oneMore_4 fl_X12_298 hk98 rfl ?_
      refine Z_icmp_ge (tgt := 23) dX12_oneMore_7 (by decide) (v_c9ca704c4d q6 i2_0 i2_1) (v_81c6732ede q5 q6) (fun h1 => ?_) (fun h1 => ?_)
      · have g2 : fx_2 = fillf wf 0 hm (-1) := by have e : h_2 = hm := (v_9b8f42b01e i2_1 h1); rw [← e]; exact i2_2
        refine J_aload_n dX12_oneMore_23 rfl rfl ?_
        refine J_get (v := .ref 125) dX12_oneMore_24 fl_X12_107 hk98 rfl ?_
        refine J_iload_n dX12_oneMore_27 rfl rfl ?_
        refine J_iload_n dX12_oneMore_28 rfl rfl ?_
        refine Y_iast (v := x) 1260 dX12_oneMore_29 rfl rfl (by decide) (v_2b02420001 q0) (v_6251b724b8 q1 q6) (fun f3 ef3 => ?_)
        refine J_aload_n dX12_oneMore_30 rfl rfl ?_
        refine J_get (v := .ref 120) dX12_oneMore_31 fl_X12_92 hk98 rfl ?_
        refine Z_iconst (n := 0) dX12_oneMore_34 ?_
        refine J_iload_n dX12_oneMore_35 rfl rfl ?_
        refine Y_iast (v := x) 1260 dX12_oneMore_36 hk120 rfl (by decide) v_939070ca3f v_c5edf0a345 (fun f4 ef4 => ?_)
        refine Z_iconst (n := 1) dX12_oneMore_37 ?_
        refine J_istore_n dX12_oneMore_38 rfl (Nat.le_of_ble_eq_true rfl) rfl ?_
        refine J_ls (ls2 := [some (.ref 98), some (.int (zI x)), some (.int (zI y)), some (.int (zI 1)), none, none, none, none]) rfl ?_
        refine Z_iconst (n := 0) dX12_oneMore_39 ?_
        refine J_istore dX12_oneMore_40 (Nat.le_of_ble_eq_true rfl) rfl ?_
        refine J_ls (ls2 := [some (.ref 98), some (.int (zI x)), some (.int (zI y)), some (.int (zI 1)), some (.int (zI 0)), none, none, none]) rfl ?_
        refine J_touch (k := 126) (e := .inl (0, 1260, .inl (zA wb))) hk126 ?_
        refine J_mask (L2 := [(126, .inl (0, 1260, .inl (zA wb))), (120, .inl (0, 1260, .inl (zA f4))), (125, .inl (0, 1260, .inl (zA f3)))]) (ks := [126, 120, 125, 125]) [true, true, true, false] rfl (by decide +kernel) rfl ?_
        have lp42 : ∀ (N42 : Nat) (n_42 : Int) (k_42 : Int) (lx_42 : Int → Int) (fx_42 : Int → Int) (bx_42 : Int → Int), (0 ≤ k_42) → (k_42 ≤ n_42) → (1 ≤ n_42) → (n_42 ≤ hm) → (cNe fx_42 (-1) hm = n_42) → (Rg lx_42 n_42 0 (hm - 1)) → (Rg fx_42 hm (-1) (hm - 1)) → (Tr st sm us fx_42 bx_42 lx_42 x hm n_42) → (Rg bx_42 1260 0 1) → (1260 - k_42).toNat < N42 → J l G MX12_oneMore { frames := 1, cells := 0, slots := 0, locals := 23 } jE (jMQ G { frames := 1, cells := 0, slots := 0, locals := 23 } (fun rr h9 => (∃ li2 : Int → Int, ∃ us2 : Int → Int, ∃ wf2 : Int → Int, ∃ wb2 : Int → Int, rr = some (.int (zI 0)) ∧ h9 = (nh, hc fh [(120, .inl (0, 1260, .inl (zA li2))), (124, .inl (2, 27720, .inl (zA us2))), (125, .inl (0, 1260, .inl (zA wf2))), (126, .inl (0, 1260, .inl (zA wb2)))]) ∧ (Rg us2 27720 0 1) ∧ (Rg wb2 1260 0 1)) ∨ (∃ li2 : Int → Int, ∃ us2 : Int → Int, ∃ wf2 : Int → Int, ∃ wb2 : Int → Int, rr = some (.int (zI 1)) ∧ h9 = (nh, hc fh [(120, .inl (0, 1260, .inl (zA li2))), (124, .inl (2, 27720, .inl (zA us2))), (125, .inl (0, 1260, .inl (zA wf2))), (126, .inl (0, 1260, .inl (zA wb2)))]) ∧ (Rg us2 27720 0 1) ∧ (Nin st sm us2 x hm) ∧ (cU us2 x = cU us x + 1) ∧ (Rg wb2 1260 0 1)))) (nh, hc fh [(126, .inl (0, 1260, .inl (zA bx_42))), (120, .inl (0, 1260, .inl (zA lx_42))), (125, .inl (0, 1260, .inl (zA fx_42)))]) 0 0 42 [some (.ref 98), some (.int (zI x)), some (.int (zI y)), some (.int (zI n_42)), some (.int (zI k_42)), none, none, none] [] := by
          intro N42
          induction N42 with
          | zero => intro n_42 k_42 lx_42 fx_42 bx_42 i42_0 i42_1 i42_2 i42_3 i42_4 i42_5 i42_6 i42_7 i42_8 hm; exact absurd hm (Nat.not_lt_zero _)
          | succ N42 ih42 =>
            intro n_42 k_42 lx_42 fx_42 bx_42 i42_0 i42_1 i42_2 i42_3 i42_4 i42_5 i42_6 i42_7 i42_8 hm42
            refine J_iload dX12_oneMore_42 rfl ?_
            refine J_iload_n dX12_oneMore_44 rfl rfl ?_
            refine Z_icmp_ge (tgt := 273) dX12_oneMore_45 (by decide) (v_57ed32f088 q6 i42_0 i42_1 i42_3) (v_5f4fb15983 q6 i42_2 i42_3) (fun h5 => ?_) (fun h5 => ?_)
            · refine J_aload_n dX12_oneMore_273 rfl rfl ?_
              refine J_get (v := .ref 125) dX12_oneMore_274 fl_X12_107 hk98 rfl ?_
              refine J_iload_n dX12_oneMore_277 rfl rfl ?_
              obtain ⟨z6, ez6⟩ : ∃ z : Int, fx_42 y = z := ⟨_, rfl⟩
              have h7 := Rg.at i42_6 (v_2b02420001 q2) (v_b9aca61388 q3) ez6
              refine Y_iald (z := z6) 1260 dX12_oneMore_278 rfl rfl (by decide) (v_2b02420001 q2) (v_6251b724b8 q3 q6) ez6 ?_
              refine Z_iconst (n := -1) dX12_oneMore_279 ?_
              refine Z_icmp_ne (tgt := 285) dX12_oneMore_280 (by decide) (v_1331e3f574 q6 h7.1 h7.2) v_d64efa60f9 (fun h8 => ?_) (fun h8 => ?_)
              · refine J_iload_n dX12_oneMore_285 rfl rfl ?_
                refine J_istore dX12_oneMore_286 (Nat.le_of_ble_eq_true rfl) rfl ?_
                refine J_ls (ls2 := [some (.ref 98), some (.int (zI x)), some (.int (zI y)), some (.int (zI n_42)), some (.int (zI y)), none, none, none]) rfl ?_
                refine J_touch (k := 124) (e := .inl (2, 27720, .inl (zA us))) hk124 ?_
                have lp288 : ∀ (N288 : Nat) (a_288 : Int) (u_288 : Int → Int), (0 ≤ a_288) → (a_288 < hm) → (0 ≤ posL lx_42 n_42 a_288) → (posL lx_42 n_42 a_288 < n_42) → (Rg u_288 27720 0 1) → (Nin st sm u_288 x hm) → (WB u_288 us x a_288) → (posL lx_42 n_42 a_288 + 1).toNat < N288 → J l G MX12_oneMore { frames := 1, cells := 0, slots := 0, locals := 23 } jE (jMQ G { frames := 1, cells := 0, slots := 0, locals := 23 } (fun rr h9 => (∃ li2 : Int → Int, ∃ us2 : Int → Int, ∃ wf2 : Int → Int, ∃ wb2 : Int → Int, rr = some (.int (zI 0)) ∧ h9 = (nh, hc fh [(120, .inl (0, 1260, .inl (zA li2))), (124, .inl (2, 27720, .inl (zA us2))), (125, .inl (0, 1260, .inl (zA wf2))), (126, .inl (0, 1260, .inl (zA wb2)))]) ∧ (Rg us2 27720 0 1) ∧ (Rg wb2 1260 0 1)) ∨ (∃ li2 : Int → Int, ∃ us2 : Int → Int, ∃ wf2 : Int → Int, ∃ wb2 : Int → Int, rr = some (.int (zI 1)) ∧ h9 = (nh, hc fh [(120, .inl (0, 1260, .inl (zA li2))), (124, .inl (2, 27720, .inl (zA us2))), (125, .inl (0, 1260, .inl (zA wf2))), (126, .inl (0, 1260, .inl (zA wb2)))]) ∧ (Rg us2 27720 0 1) ∧ (Nin st sm us2 x hm) ∧ (cU us2 x = cU us x + 1) ∧ (Rg wb2 1260 0 1)))) (nh, hc fh [(124, .inl (2, 27720, .inl (zA u_288))), (126, .inl (0, 1260, .inl (zA bx_42))), (120, .inl (0, 1260, .inl (zA lx_42))), (125, .inl (0, 1260, .inl (zA fx_42)))]) 0 0 288 [some (.ref 98), some (.int (zI x)), some (.int (zI y)), some (.int (zI n_42)), some (.int (zI a_288)), none, none, none] [] := by
                  intro N288
                  induction N288 with
                  | zero => intro a_288 u_288 i288_0 i288_1 i288_2 i288_3 i288_4 i288_5 i288_6 hm; exact absurd hm (Nat.not_lt_zero _)
                  | succ N288 ih288 =>
                    intro a_288 u_288 i288_0 i288_1 i288_2 i288_3 i288_4 i288_5 i288_6 hm288
                    refine J_iload dX12_oneMore_288 rfl ?_
                    refine J_iload_n dX12_oneMore_290 rfl rfl ?_
                    refine Z_icmp_eq (tgt := 375) dX12_oneMore_291 (by decide) (v_24739b0ba2 q6 i288_0 i288_1) (v_23d004c61f q0 q1 q6) (fun h9 => ?_) (fun h9 => ?_)
                    · refine Z_iconst (n := 1) dX12_oneMore_375 ?_
                      refine J_touch (k := 126) (e := .inl (0, 1260, .inl (zA bx_42))) rfl ?_
                      refine J_touch (k := 125) (e := .inl (0, 1260, .inl (zA fx_42))) rfl ?_
                      refine J_touch (k := 124) (e := .inl (2, 27720, .inl (zA u_288))) rfl ?_
                      refine J_touch (k := 120) (e := .inl (0, 1260, .inl (zA lx_42))) rfl ?_
                      refine J_mask (L2 := [(120, .inl (0, 1260, .inl (zA lx_42))), (124, .inl (2, 27720, .inl (zA u_288))), (125, .inl (0, 1260, .inl (zA fx_42))), (126, .inl (0, 1260, .inl (zA bx_42)))]) (ks := [120, 124, 125, 126, 124, 126, 120, 125]) [true, true, true, true, false, false, false, false] rfl (by decide +kernel) rfl ?_
                      exact J_iret dX12_oneMore_376 rfl (jbn v_316afd7d0b v_bbcfac9b7d) (Nat.le_of_ble_eq_true rfl) (Nat.le_of_ble_eq_true rfl) (Or.inr ⟨lx_42, u_288, fx_42, bx_42, rfl, rfl, i288_4, i288_5, (WB.end i288_6 (v_cd91a95e4e h9)), i42_8⟩)
                    · obtain ⟨z10, ez10⟩ : ∃ z : Int, fx_42 a_288 = z := ⟨_, rfl⟩
                      have h11 := Rg.at i42_6 (v_2b02420001 i288_0) (v_b9aca61388 i288_1) ez10
                      have gwk := Tr.walk i42_7 i42_5 i288_3 (v_da5cc3277e h9) ez10
                      refine J_aload_n dX12_oneMore_294 rfl rfl ?_
                      refine J_get (v := .ref 126) dX12_oneMore_295 fl_X12_110 hk98 rfl ?_
                      refine J_iload dX12_oneMore_298 rfl ?_
                      obtain ⟨z12, ez12⟩ : ∃ z : Int, bx_42 a_288 = z := ⟨_, rfl⟩
                      have h13 := Rg.at i42_8 (v_2b02420001 i288_0) (v_1c8b2a3f47 q6 i288_1) ez12
                      refine Y_iald (z := z12) 1260 dX12_oneMore_300 rfl rfl (by decide) (v_2b02420001 i288_0) (v_1c8b2a3f47 q6 i288_1) ez12 ?_
                      refine Z_iconst (n := 1) dX12_oneMore_301 ?_
                      refine Z_icmp_ne (tgt := 338) dX12_oneMore_302 (by decide) (v_5f10a759cd h13.1 h13.2) v_4dcc24baa7 (fun h14 => ?_) (fun h14 => ?_)
                      · refine J_aload_n dX12_oneMore_338 rfl rfl ?_
                        refine J_get (v := .ref 124) dX12_oneMore_339 fl_X12_104 hk98 rfl ?_
                        refine Z_bipush (n := 22) dX12_oneMore_342 (by decide +kernel) ?_
                        refine J_iload dX12_oneMore_344 rfl ?_
                        refine Z_imul (c := 22 * a_288) dX12_oneMore_346 rfl ?_
                        refine J_aload_n dX12_oneMore_347 rfl rfl ?_
                        refine J_iload dX12_oneMore_348 rfl ?_
                        refine J_aload_n dX12_oneMore_350 rfl rfl ?_
                        refine J_get (v := .ref 125) dX12_oneMore_351 fl_X12_107 hk98 rfl ?_
                        refine J_iload dX12_oneMore_354 rfl ?_
                        refine Y_iald (z := z10) 1260 dX12_oneMore_356 rfl rfl (by decide) (v_2b02420001 i288_0) (v_1c8b2a3f47 q6 i288_1) ez10 ?_
                        refine J_callV (st := [.int (zI (22 * a_288)), .ref 124]) dX12_oneMore_357 cv_X12_340 (k_stepBetweenF a_288 z10 st tk sm ms mv mt mfa mtn mtk mlv mbd mgo mge mbk mtt mtl hm pm hb sb mfu mdm mla i288_0 i288_1 (v_bf54a5eca0 q6 h11.2 gwk.1) q5 q6 q7 hk98 hk112 hk113 hk114) hk98 rfl rfl (Nat.le_of_ble_eq_true rfl) ⟨(Nat.le_of_ble_eq_true rfl), (Nat.le_of_ble_eq_true rfl)⟩ ⟨(Nat.le_of_ble_eq_true rfl), (Nat.le_of_ble_eq_true rfl)⟩ (fun r h9 hp => ?_)
                        obtain ⟨z15, rfl, rfl, h16, h17, h18, h19, h20⟩ := hp
                        refine J_nf (nh2 := nh) (ck2 := 0) (sk2 := 0) (st2 := [.int (zI z15), .int (zI (22 * a_288)), .ref 124]) rfl rfl rfl rfl ?_
                        have g21 := Edg.pos2 gwk.2.2.2 ez12 (v_d6a01a10ff h13.2 h14) h18 (v_4f729da59d h16)
                        refine Z_iadd (c := 22 * a_288 + z15) dX12_oneMore_360 rfl ?_
                        refine Z_iconst (n := 0) dX12_oneMore_361 ?_
                        refine Y_zast (v := 0) 27720 dX12_oneMore_362 rfl rfl (by decide) (v_c3b7d2d1ca i288_0 g21.1) (v_9bb6b7e389 q6 i288_1 h19) v_939070ca3f v_316afd7d0b (fun f22 ef22 => ?_)
                        have h23 : Rg f22 27720 0 1 := Rg.ups i288_4 ef22 v_939070ca3f v_316afd7d0b
                        refine J_aload_n dX12_oneMore_363 rfl rfl ?_
                        refine J_get (v := .ref 125) dX12_oneMore_364 fl_X12_107 hk98 rfl ?_
                        refine J_iload dX12_oneMore_367 rfl ?_
                        refine Y_iald (z := z10) 1260 dX12_oneMore_369 rfl rfl (by decide) (v_2b02420001 i288_0) (v_1c8b2a3f47 q6 i288_1) ez10 ?_
                        refine J_istore dX12_oneMore_370 (Nat.le_of_ble_eq_true rfl) rfl ?_
                        refine J_ls (ls2 := [some (.ref 98), some (.int (zI x)), some (.int (zI y)), some (.int (zI n_42)), some (.int (zI z10)), none, none, none]) rfl ?_
                        refine J_goto (tgt := 288) dX12_oneMore_372 (by decide) ?_
                        refine J_mask (L2 := [(124, .inl (2, 27720, .inl (zA f22))), (126, .inl (0, 1260, .inl (zA bx_42))), (120, .inl (0, 1260, .inl (zA lx_42))), (125, .inl (0, 1260, .inl (zA fx_42)))]) (ks := [124, 124, 126, 120, 125]) [true, false, true, true, true] rfl (by decide +kernel) rfl ?_
                        exact ih288 z10 f22 gwk.1 gwk.2.1 (posL_0) (by have u := gwk.2.2.1; have w := i288_3; omega) h23 (Nin.clear i288_5 ef22 rfl) (WB.bwd i288_6 (v_da5cc3277e h9) (v_da5cc3277e g21.2) (v_2b02420001 g21.1) (v_6134718450 h19) v_bbccdd60f5 ef22) (meas_lt (v_575dc791b8 gwk.2.2.1) (v_9c83f71088 i288_2) hm288)
                      · refine J_aload_n dX12_oneMore_305 rfl rfl ?_
                        refine J_get (v := .ref 124) dX12_oneMore_306 fl_X12_104 hk98 rfl ?_
                        refine Z_bipush (n := 22) dX12_oneMore_309 (by decide +kernel) ?_
                        refine J_aload_n dX12_oneMore_311 rfl rfl ?_
                        refine J_get (v := .ref 125) dX12_oneMore_312 fl_X12_107 hk98 rfl ?_
                        refine J_iload dX12_oneMore_315 rfl ?_
                        refine Y_iald (z := z10) 1260 dX12_oneMore_317 rfl rfl (by decide) (v_2b02420001 i288_0) (v_1c8b2a3f47 q6 i288_1) ez10 ?_
                        refine Z_imul (c := 22 * z10) dX12_oneMore_318 rfl ?_
                        refine J_aload_n dX12_oneMore_319 rfl rfl ?_
                        refine J_aload_n dX12_oneMore_320 rfl rfl ?_
                        refine J_get (v := .ref 125) dX12_oneMore_321 fl_X12_107 hk98 rfl ?_
                        refine J_iload dX12_oneMore_324 rfl ?_
                        refine Y_iald (z := z10) 1260 dX12_oneMore_326 rfl rfl (by decide) (v_2b02420001 i288_0) (v_1c8b2a3f47 q6 i288_1) ez10 ?_
                        refine J_iload dX12_oneMore_327 rfl ?_
                        refine J_callV (st := [.int (zI (22 * z10)), .ref 124]) dX12_oneMore_329 cv_X12_340 (k_stepBetweenF z10 a_288 st tk sm ms mv mt mfa mtn mtk mlv mbd mgo mge mbk mtt mtl hm pm hb sb mfu mdm mla gwk.1 gwk.2.1 (v_24739b0ba2 q6 i288_0 i288_1) q5 q6 q7 hk98 hk112 hk113 hk114) hk98 rfl rfl (Nat.le_of_ble_eq_true rfl) ⟨(Nat.le_of_ble_eq_true rfl), (Nat.le_of_ble_eq_true rfl)⟩ ⟨(Nat.le_of_ble_eq_true rfl), (Nat.le_of_ble_eq_true rfl)⟩ (fun r h9 hp => ?_)
                        obtain ⟨z24, rfl, rfl, h25, h26, h27, h28, h29⟩ := hp
                        refine J_nf (nh2 := nh) (ck2 := 0) (sk2 := 0) (st2 := [.int (zI z24), .int (zI (22 * z10)), .ref 124]) rfl rfl rfl rfl ?_
                        have g30 : 0 ≤ z24 := Edg.pos1 gwk.2.2.2 ez12 (v_a2994583ad h13.2 h14) h27 (v_4f729da59d h25)
                        refine Z_iadd (c := 22 * z10 + z24) dX12_oneMore_332 rfl ?_
                        refine Z_iconst (n := 1) dX12_oneMore_333 ?_
                        refine Y_zast (v := 1) 27720 dX12_oneMore_334 rfl rfl (by decide) (v_c3b7d2d1ca gwk.1 g30) (v_8239e0e4f4 q6 h11.2 h28) v_316afd7d0b v_bbcfac9b7d (fun f31 ef31 => ?_)
                        have h32 : Rg f31 27720 0 1 := Rg.ups i288_4 ef31 v_316afd7d0b v_bbcfac9b7d
                        refine J_goto (tgt := 363) dX12_oneMore_335 (by decide) ?_
                        refine J_aload_n dX12_oneMore_363 rfl rfl ?_
                        refine J_get (v := .ref 125) dX12_oneMore_364 fl_X12_107 hk98 rfl ?_
                        refine J_iload dX12_oneMore_367 rfl ?_
                        refine Y_iald (z := z10) 1260 dX12_oneMore_369 rfl rfl (by decide) (v_2b02420001 i288_0) (v_1c8b2a3f47 q6 i288_1) ez10 ?_
                        refine J_istore dX12_oneMore_370 (Nat.le_of_ble_eq_true rfl) rfl ?_
                        refine J_ls (ls2 := [some (.ref 98), some (.int (zI x)), some (.int (zI y)), some (.int (zI n_42)), some (.int (zI z10)), none, none, none]) rfl ?_
                        refine J_goto (tgt := 288) dX12_oneMore_372 (by decide) ?_
                        refine J_mask (L2 := [(124, .inl (2, 27720, .inl (zA f31))), (126, .inl (0, 1260, .inl (zA bx_42))), (120, .inl (0, 1260, .inl (zA lx_42))), (125, .inl (0, 1260, .inl (zA fx_42)))]) (ks := [124, 124, 126, 120, 125]) [true, false, true, true, true] rfl (by decide +kernel) rfl ?_
                        exact ih288 z10 f31 gwk.1 gwk.2.1 (posL_0) (by have u := gwk.2.2.1; have w := i288_3; omega) h32 (Nin.set i288_5 (v_da5cc3277e h9) h29 (v_2b02420001 g30) v_bbccdd60f5 ef31) (WB.fwd i288_6 (v_da5cc3277e h9) gwk.2.2.2 ez12 (v_a2994583ad h13.2 h14) h29 (v_2b02420001 g30) (v_6134718450 h28) v_bbccdd60f5 ef31 rfl) (meas_lt (v_575dc791b8 gwk.2.2.1) (v_9c83f71088 i288_2) hm288)
                exact lp288 _ y us q2 q3 (posL_0) (Tr.first i42_7 q2 q3 ez6 (v_5ff7dbea65 h7.1 h8)) q9 q10 (WB_0 q4) (Nat.lt_succ_self _)
              · refine Z_iconst (n := 0) dX12_oneMore_283 ?_
                refine J_touch (k := 126) (e := .inl (0, 1260, .inl (zA bx_42))) rfl ?_
                refine J_touch (k := 125) (e := .inl (0, 1260, .inl (zA fx_42))) rfl ?_
                refine J_touch (k := 124) (e := .inl (2, 27720, .inl (zA us))) hk124 ?_
                refine J_touch (k := 120) (e := .inl (0, 1260, .inl (zA lx_42))) rfl ?_
                refine J_mask (L2 := [(120, .inl (0, 1260, .inl (zA lx_42))), (124, .inl (2, 27720, .inl (zA us))), (125, .inl (0, 1260, .inl (zA fx_42))), (126, .inl (0, 1260, .inl (zA bx_42)))]) (ks := [120, 124, 125, 126, 126, 120, 125]) [true, true, true, true, false, false, false] rfl (by decide +kernel) rfl ?_
                exact J_iret dX12_oneMore_284 rfl (jbn v_939070ca3f v_316afd7d0b) (Nat.le_of_ble_eq_true rfl) (Nat.le_of_ble_eq_true rfl) (Or.inl ⟨lx_42, us, fx_42, bx_42, rfl, rfl, q9, i42_8⟩)
            · refine J_aload_n dX12_oneMore_48 rfl rfl ?_
              refine J_get (v := .ref 125) dX12_oneMore_49 fl_X12_107 hk98 rfl ?_
              refine J_iload_n dX12_oneMore_52 rfl rfl ?_
              obtain ⟨z33, ez33⟩ : ∃ z : Int, fx_42 y = z := ⟨_, rfl⟩
              have h34 := Rg.at i42_6 (v_2b02420001 q2) (v_b9aca61388 q3) ez33
              refine Y_iald (z := z33) 1260 dX12_oneMore_53 rfl rfl (by decide) (v_2b02420001 q2) (v_6251b724b8 q3 q6) ez33 ?_
              refine Z_iconst (n := -1) dX12_oneMore_54 ?_
              refine Z_icmp_ne (tgt := 273) dX12_oneMore_55 (by decide) (v_1331e3f574 q6 h34.1 h34.2) v_d64efa60f9 (fun h35 => ?_) (fun h35 => ?_)
              · refine J_aload_n dX12_oneMore_273 rfl rfl ?_
                refine J_get (v := .ref 125) dX12_oneMore_274 fl_X12_107 hk98 rfl ?_
                refine J_iload_n dX12_oneMore_277 rfl rfl ?_
                refine Y_iald (z := z33) 1260 dX12_oneMore_278 rfl rfl (by decide) (v_2b02420001 q2) (v_6251b724b8 q3 q6) ez33 ?_
                refine Z_iconst (n := -1) dX12_oneMore_279 ?_
                refine Z_icmp_ne (tgt := 285) dX12_oneMore_280 (by decide) (v_1331e3f574 q6 h34.1 h34.2) v_d64efa60f9 (fun h36 => ?_) (fun h36 => absurd h36 (v_5ff7dbea65 h34.1 h35))
                refine J_iload_n dX12_oneMore_285 rfl rfl ?_
                refine J_istore dX12_oneMore_286 (Nat.le_of_ble_eq_true rfl) rfl ?_
                refine J_ls (ls2 := [some (.ref 98), some (.int (zI x)), some (.int (zI y)), some (.int (zI n_42)), some (.int (zI y)), none, none, none]) rfl ?_
                refine J_touch (k := 124) (e := .inl (2, 27720, .inl (zA us))) hk124 ?_
                have lp288 : ∀ (N288 : Nat) (a_288 : Int) (u_288 : Int → Int), (0 ≤ a_288) → (a_288 < hm) → (0 ≤ posL lx_42 n_42 a_288) → (posL lx_42 n_42 a_288 < n_42) → (Rg u_288 27720 0 1) → (Nin st sm u_288 x hm) → (WB u_288 us x a_288) → (posL lx_42 n_42 a_288 + 1).toNat < N288 → J l G MX12_oneMore { frames := 1, cells := 0, slots := 0, locals := 23 } jE (jMQ G { frames := 1, cells := 0, slots := 0, locals := 23 } (fun rr h9 => (∃ li2 : Int → Int, ∃ us2 : Int → Int, ∃ wf2 : Int → Int, ∃ wb2 : Int → Int, rr = some (.int (zI 0)) ∧ h9 = (nh, hc fh [(120, .inl (0, 1260, .inl (zA li2))), (124, .inl (2, 27720, .inl (zA us2))), (125, .inl (0, 1260, .inl (zA wf2))), (126, .inl (0, 1260, .inl (zA wb2)))]) ∧ (Rg us2 27720 0 1) ∧ (Rg wb2 1260 0 1)) ∨ (∃ li2 : Int → Int, ∃ us2 : Int → Int, ∃ wf2 : Int → Int, ∃ wb2 : Int → Int, rr = some (.int (zI 1)) ∧ h9 = (nh, hc fh [(120, .inl (0, 1260, .inl (zA li2))), (124, .inl (2, 27720, .inl (zA us2))), (125, .inl (0, 1260, .inl (zA wf2))), (126, .inl (0, 1260, .inl (zA wb2)))]) ∧ (Rg us2 27720 0 1) ∧ (Nin st sm us2 x hm) ∧ (cU us2 x = cU us x + 1) ∧ (Rg wb2 1260 0 1)))) (nh, hc fh [(124, .inl (2, 27720, .inl (zA u_288))), (126, .inl (0, 1260, .inl (zA bx_42))), (120, .inl (0, 1260, .inl (zA lx_42))), (125, .inl (0, 1260, .inl (zA fx_42)))]) 0 0 288 [some (.ref 98), some (.int (zI x)), some (.int (zI y)), some (.int (zI n_42)), some (.int (zI a_288)), none, none, none] [] := by
                  intro N288
                  induction N288 with
                  | zero => intro a_288 u_288 i288_0 i288_1 i288_2 i288_3 i288_4 i288_5 i288_6 hm; exact absurd hm (Nat.not_lt_zero _)
                  | succ N288 ih288 =>
                    intro a_288 u_288 i288_0 i288_1 i288_2 i288_3 i288_4 i288_5 i288_6 hm288
                    refine J_iload dX12_oneMore_288 rfl ?_
                    refine J_iload_n dX12_oneMore_290 rfl rfl ?_
                    refine Z_icmp_eq (tgt := 375) dX12_oneMore_291 (by decide) (v_24739b0ba2 q6 i288_0 i288_1) (v_23d004c61f q0 q1 q6) (fun h37 => ?_) (fun h37 => ?_)
                    · refine Z_iconst (n := 1) dX12_oneMore_375 ?_
                      refine J_touch (k := 126) (e := .inl (0, 1260, .inl (zA bx_42))) rfl ?_
                      refine J_touch (k := 125) (e := .inl (0, 1260, .inl (zA fx_42))) rfl ?_
                      refine J_touch (k := 124) (e := .inl (2, 27720, .inl (zA u_288))) rfl ?_
                      refine J_touch (k := 120) (e := .inl (0, 1260, .inl (zA lx_42))) rfl ?_
                      refine J_mask (L2 := [(120, .inl (0, 1260, .inl (zA lx_42))), (124, .inl (2, 27720, .inl (zA u_288))), (125, .inl (0, 1260, .inl (zA fx_42))), (126, .inl (0, 1260, .inl (zA bx_42)))]) (ks := [120, 124, 125, 126, 124, 126, 120, 125]) [true, true, true, true, false, false, false, false] rfl (by decide +kernel) rfl ?_
                      exact J_iret dX12_oneMore_376 rfl (jbn v_316afd7d0b v_bbcfac9b7d) (Nat.le_of_ble_eq_true rfl) (Nat.le_of_ble_eq_true rfl) (Or.inr ⟨lx_42, u_288, fx_42, bx_42, rfl, rfl, i288_4, i288_5, (WB.end i288_6 (v_cd91a95e4e h37)), i42_8⟩)
                    · obtain ⟨z38, ez38⟩ : ∃ z : Int, fx_42 a_288 = z := ⟨_, rfl⟩
                      have h39 := Rg.at i42_6 (v_2b02420001 i288_0) (v_b9aca61388 i288_1) ez38
                      have gwk := Tr.walk i42_7 i42_5 i288_3 (v_da5cc3277e h37) ez38
                      refine J_aload_n dX12_oneMore_294 rfl rfl ?_
                      refine J_get (v := .ref 126) dX12_oneMore_295 fl_X12_110 hk98 rfl ?_
                      refine J_iload dX12_oneMore_298 rfl ?_
                      obtain ⟨z40, ez40⟩ : ∃ z : Int, bx_42 a_288 = z := ⟨_, rfl⟩
                      have h41 := Rg.at i42_8 (v_2b02420001 i288_0) (v_1c8b2a3f47 q6 i288_1) ez40
                      refine Y_iald (z := z40) 1260 dX12_oneMore_300 rfl rfl (by decide) (v_2b02420001 i288_0) (v_1c8b2a3f47 q6 i288_1) ez40 ?_
                      refine Z_iconst (n := 1) dX12_oneMore_301 ?_
                      refine Z_icmp_ne (tgt := 338) dX12_oneMore_302 (by decide) (v_5f10a759cd h41.1 h41.2) v_4dcc24baa7 (fun h42 => ?_) (fun h42 => ?_)
                      · refine J_aload_n dX12_oneMore_338 rfl rfl ?_
                        refine J_get (v := .ref 124) dX12_oneMore_339 fl_X12_104 hk98 rfl ?_
                        refine Z_bipush (n := 22) dX12_oneMore_342 (by decide +kernel) ?_
                        refine J_iload dX12_oneMore_344 rfl ?_
                        refine Z_imul (c := 22 * a_288) dX12_oneMore_346 rfl ?_
                        refine J_aload_n dX12_oneMore_347 rfl rfl ?_
                        refine J_iload dX12_oneMore_348 rfl ?_
                        refine J_aload_n dX12_oneMore_350 rfl rfl ?_
                        refine J_get (v := .ref 125) dX12_oneMore_351 fl_X12_107 hk98 rfl ?_
                        refine J_iload dX12_oneMore_354 rfl ?_
                        refine Y_iald (z := z38) 1260 dX12_oneMore_356 rfl rfl (by decide) (v_2b02420001 i288_0) (v_1c8b2a3f47 q6 i288_1) ez38 ?_
                        refine J_callV (st := [.int (zI (22 * a_288)), .ref 124]) dX12_oneMore_357 cv_X12_340 (k_stepBetweenF a_288 z38 st tk sm ms mv mt mfa mtn mtk mlv mbd mgo mge mbk mtt mtl hm pm hb sb mfu mdm mla i288_0 i288_1 (v_bf54a5eca0 q6 h39.2 gwk.1) q5 q6 q7 hk98 hk112 hk113 hk114) hk98 rfl rfl (Nat.le_of_ble_eq_true rfl) ⟨(Nat.le_of_ble_eq_true rfl), (Nat.le_of_ble_eq_true rfl)⟩ ⟨(Nat.le_of_ble_eq_true rfl), (Nat.le_of_ble_eq_true rfl)⟩ (fun r h9 hp => ?_)
                        obtain ⟨z43, rfl, rfl, h44, h45, h46, h47, h48⟩ := hp
                        refine J_nf (nh2 := nh) (ck2 := 0) (sk2 := 0) (st2 := [.int (zI z43), .int (zI (22 * a_288)), .ref 124]) rfl rfl rfl rfl ?_
                        have g49 := Edg.pos2 gwk.2.2.2 ez40 (v_d6a01a10ff h41.2 h42) h46 (v_4f729da59d h44)
                        refine Z_iadd (c := 22 * a_288 + z43) dX12_oneMore_360 rfl ?_
                        refine Z_iconst (n := 0) dX12_oneMore_361 ?_
                        refine Y_zast (v := 0) 27720 dX12_oneMore_362 rfl rfl (by decide) (v_c3b7d2d1ca i288_0 g49.1) (v_9bb6b7e389 q6 i288_1 h47) v_939070ca3f v_316afd7d0b (fun f50 ef50 => ?_)
                        have h51 : Rg f50 27720 0 1 := Rg.ups i288_4 ef50 v_939070ca3f v_316afd7d0b
                        refine J_aload_n dX12_oneMore_363 rfl rfl ?_
                        refine J_get (v := .ref 125) dX12_oneMore_364 fl_X12_107 hk98 rfl ?_
                        refine J_iload dX12_oneMore_367 rfl ?_
                        refine Y_iald (z := z38) 1260 dX12_oneMore_369 rfl rfl (by decide) (v_2b02420001 i288_0) (v_1c8b2a3f47 q6 i288_1) ez38 ?_
                        refine J_istore dX12_oneMore_370 (Nat.le_of_ble_eq_true rfl) rfl ?_
                        refine J_ls (ls2 := [some (.ref 98), some (.int (zI x)), some (.int (zI y)), some (.int (zI n_42)), some (.int (zI z38)), none, none, none]) rfl ?_
                        refine J_goto (tgt := 288) dX12_oneMore_372 (by decide) ?_
                        refine J_mask (L2 := [(124, .inl (2, 27720, .inl (zA f50))), (126, .inl (0, 1260, .inl (zA bx_42))), (120, .inl (0, 1260, .inl (zA lx_42))), (125, .inl (0, 1260, .inl (zA fx_42)))]) (ks := [124, 124, 126, 120, 125]) [true, false, true, true, true] rfl (by decide +kernel) rfl ?_
                        exact ih288 z38 f50 gwk.1 gwk.2.1 (posL_0) (by have u := gwk.2.2.1; have w := i288_3; omega) h51 (Nin.clear i288_5 ef50 rfl) (WB.bwd i288_6 (v_da5cc3277e h37) (v_da5cc3277e g49.2) (v_2b02420001 g49.1) (v_6134718450 h47) v_bbccdd60f5 ef50) (meas_lt (v_575dc791b8 gwk.2.2.1) (v_9c83f71088 i288_2) hm288)
                      · refine J_aload_n dX12_oneMore_305 rfl rfl ?_
                        refine J_get (v := .ref 124) dX12_oneMore_306 fl_X12_104 hk98 rfl ?_
                        refine Z_bipush (n := 22) dX12_oneMore_309 (by decide +kernel) ?_
                        refine J_aload_n dX12_oneMore_311 rfl rfl ?_
                        refine J_get (v := .ref 125) dX12_oneMore_312 fl_X12_107 hk98 rfl ?_
                        refine J_iload dX12_oneMore_315 rfl ?_
                        refine Y_iald (z := z38) 1260 dX12_oneMore_317 rfl rfl (by decide) (v_2b02420001 i288_0) (v_1c8b2a3f47 q6 i288_1) ez38 ?_
                        refine Z_imul (c := 22 * z38) dX12_oneMore_318 rfl ?_
                        refine J_aload_n dX12_oneMore_319 rfl rfl ?_
                        refine J_aload_n dX12_oneMore_320 rfl rfl ?_
                        refine J_get (v := .ref 125) dX12_oneMore_321 fl_X12_107 hk98 rfl ?_
                        refine J_iload dX12_oneMore_324 rfl ?_
                        refine Y_iald (z := z38) 1260 dX12_oneMore_326 rfl rfl (by decide) (v_2b02420001 i288_0) (v_1c8b2a3f47 q6 i288_1) ez38 ?_
                        refine J_iload dX12_oneMore_327 rfl ?_
                        refine J_callV (st := [.int (zI (22 * z38)), .ref 124]) dX12_oneMore_329 cv_X12_340 (k_stepBetweenF z38 a_288 st tk sm ms mv mt mfa mtn mtk mlv mbd mgo mge mbk mtt mtl hm pm hb sb mfu mdm mla gwk.1 gwk.2.1 (v_24739b0ba2 q6 i288_0 i288_1) q5 q6 q7 hk98 hk112 hk113 hk114) hk98 rfl rfl (Nat.le_of_ble_eq_true rfl) ⟨(Nat.le_of_ble_eq_true rfl), (Nat.le_of_ble_eq_true rfl)⟩ ⟨(Nat.le_of_ble_eq_true rfl), (Nat.le_of_ble_eq_true rfl)⟩ (fun r h9 hp => ?_)
                        obtain ⟨z52, rfl, rfl, h53, h54, h55, h56, h57⟩ := hp
                        refine J_nf (nh2 := nh) (ck2 := 0) (sk2 := 0) (st2 := [.int (zI z52), .int (zI (22 * z38)), .ref 124]) rfl rfl rfl rfl ?_
                        have g58 : 0 ≤ z52 := Edg.pos1 gwk.2.2.2 ez40 (v_a2994583ad h41.2 h42) h55 (v_4f729da59d h53)
                        refine Z_iadd (c := 22 * z38 + z52) dX12_oneMore_332 rfl ?_
                        refine Z_iconst (n := 1) dX12_oneMore_333 ?_
                        refine Y_zast (v := 1) 27720 dX12_oneMore_334 rfl rfl (by decide) (v_c3b7d2d1ca gwk.1 g58) (v_8239e0e4f4 q6 h39.2 h56) v_316afd7d0b v_bbcfac9b7d (fun f59 ef59 => ?_)
                        have h60 : Rg f59 27720 0 1 := Rg.ups i288_4 ef59 v_316afd7d0b v_bbcfac9b7d
                        refine J_goto (tgt := 363) dX12_oneMore_335 (by decide) ?_
                        refine J_aload_n dX12_oneMore_363 rfl rfl ?_
                        refine J_get (v := .ref 125) dX12_oneMore_364 fl_X12_107 hk98 rfl ?_
                        refine J_iload dX12_oneMore_367 rfl ?_
                        refine Y_iald (z := z38) 1260 dX12_oneMore_369 rfl rfl (by decide) (v_2b02420001 i288_0) (v_1c8b2a3f47 q6 i288_1) ez38 ?_
                        refine J_istore dX12_oneMore_370 (Nat.le_of_ble_eq_true rfl) rfl ?_
                        refine J_ls (ls2 := [some (.ref 98), some (.int (zI x)), some (.int (zI y)), some (.int (zI n_42)), some (.int (zI z38)), none, none, none]) rfl ?_
                        refine J_goto (tgt := 288) dX12_oneMore_372 (by decide) ?_
                        refine J_mask (L2 := [(124, .inl (2, 27720, .inl (zA f59))), (126, .inl (0, 1260, .inl (zA bx_42))), (120, .inl (0, 1260, .inl (zA lx_42))), (125, .inl (0, 1260, .inl (zA fx_42)))]) (ks := [124, 124, 126, 120, 125]) [true, false, true, true, true] rfl (by decide +kernel) rfl ?_
                        exact ih288 z38 f59 gwk.1 gwk.2.1 (posL_0) (by have u := gwk.2.2.1; have w := i288_3; omega) h60 (Nin.set i288_5 (v_da5cc3277e h37) h57 (v_2b02420001 g58) v_bbccdd60f5 ef59) (WB.fwd i288_6 (v_da5cc3277e h37) gwk.2.2.2 ez40 (v_a2994583ad h41.2 h42) h57 (v_2b02420001 g58) (v_6134718450 h56) v_bbccdd60f5 ef59 rfl) (meas_lt (v_575dc791b8 gwk.2.2.1) (v_9c83f71088 i288_2) hm288)
                exact lp288 _ y us q2 q3 (posL_0) (Tr.first i42_7 q2 q3 ez33 (v_5ff7dbea65 h34.1 h35)) q9 q10 (WB_0 q4) (Nat.lt_succ_self _)
              · refine J_aload_n dX12_oneMore_58 rfl rfl ?_
                refine J_get (v := .ref 120) dX12_oneMore_59 fl_X12_92 hk98 rfl ?_
                refine J_iload dX12_oneMore_62 rfl ?_
                obtain ⟨z61, ez61⟩ : ∃ z : Int, lx_42 k_42 = z := ⟨_, rfl⟩
                have h62 := Rg.at i42_5 (v_2b02420001 i42_0) (v_fe9ea41faa h5) ez61
                refine Y_iald (z := z61) 1260 dX12_oneMore_64 rfl rfl (by decide) (v_2b02420001 i42_0) (v_d386818eef q6 i42_3 h5) ez61 ?_
                refine J_istore dX12_oneMore_65 (Nat.le_of_ble_eq_true rfl) rfl ?_
                refine J_ls (ls2 := [some (.ref 98), some (.int (zI x)), some (.int (zI y)), some (.int (zI n_42)), some (.int (zI k_42)), some (.int (zI z61)), none, none]) rfl ?_
                refine Z_iconst (n := 0) dX12_oneMore_67 ?_
                refine J_istore dX12_oneMore_68 (Nat.le_of_ble_eq_true rfl) rfl ?_
                refine J_ls (ls2 := [some (.ref 98), some (.int (zI x)), some (.int (zI y)), some (.int (zI n_42)), some (.int (zI k_42)), some (.int (zI z61)), some (.int (zI 0)), none]) rfl ?_
                have lp70 : ∀ (N70 : Nat) (n_70 : Int) (s_70 : Int) (lx_70 : Int → Int) (fx_70 : Int → Int) (bx_70 : Int → Int), (0 ≤ s_70) → (s_70 ≤ 22) → (k_42 < n_70) → (1 ≤ n_70) → (n_70 ≤ hm) → (cNe fx_70 (-1) hm = n_70) → (Rg lx_70 n_70 0 (hm - 1)) → (Rg fx_70 hm (-1) (hm - 1)) → (Tr st sm us fx_70 bx_70 lx_70 x hm n_70) → (lx_70 k_42 = z61) → (Rg bx_70 1260 0 1) → (22 - s_70).toNat < N70 → J l G MX12_oneMore { frames := 1, cells := 0, slots := 0, locals := 23 } jE (jMQ G { frames := 1, cells := 0, slots := 0, locals := 23 } (fun rr h9 => (∃ li2 : Int → Int, ∃ us2 : Int → Int, ∃ wf2 : Int → Int, ∃ wb2 : Int → Int, rr = some (.int (zI 0)) ∧ h9 = (nh, hc fh [(120, .inl (0, 1260, .inl (zA li2))), (124, .inl (2, 27720, .inl (zA us2))), (125, .inl (0, 1260, .inl (zA wf2))), (126, .inl (0, 1260, .inl (zA wb2)))]) ∧ (Rg us2 27720 0 1) ∧ (Rg wb2 1260 0 1)) ∨ (∃ li2 : Int → Int, ∃ us2 : Int → Int, ∃ wf2 : Int → Int, ∃ wb2 : Int → Int, rr = some (.int (zI 1)) ∧ h9 = (nh, hc fh [(120, .inl (0, 1260, .inl (zA li2))), (124, .inl (2, 27720, .inl (zA us2))), (125, .inl (0, 1260, .inl (zA wf2))), (126, .inl (0, 1260, .inl (zA wb2)))]) ∧ (Rg us2 27720 0 1) ∧ (Nin st sm us2 x hm) ∧ (cU us2 x = cU us x + 1) ∧ (Rg wb2 1260 0 1)))) (nh, hc fh [(126, .inl (0, 1260, .inl (zA bx_70))), (120, .inl (0, 1260, .inl (zA lx_70))), (125, .inl (0, 1260, .inl (zA fx_70)))]) 0 0 70 [some (.ref 98), some (.int (zI x)), some (.int (zI y)), some (.int (zI n_70)), some (.int (zI k_42)), some (.int (zI z61)), some (.int (zI s_70)), none] [] := by
                  intro N70
                  induction N70 with
                  | zero => intro n_70 s_70 lx_70 fx_70 bx_70 i70_0 i70_1 i70_2 i70_3 i70_4 i70_5 i70_6 i70_7 i70_8 i70_9 i70_10 hm; exact absurd hm (Nat.not_lt_zero _)
                  | succ N70 ih70 =>
                    intro n_70 s_70 lx_70 fx_70 bx_70 i70_0 i70_1 i70_2 i70_3 i70_4 i70_5 i70_6 i70_7 i70_8 i70_9 i70_10 hm70
                    refine J_iload dX12_oneMore_70 rfl ?_
                    refine J_aload_n dX12_oneMore_72 rfl rfl ?_
                    refine J_get (v := .ref 114) dX12_oneMore_73 fl_X12_67 hk98 rfl ?_
                    refine J_iload dX12_oneMore_76 rfl ?_
                    obtain ⟨z63, ez63⟩ : ∃ z : Int, sm z61 = z := ⟨_, rfl⟩
                    have h64 := StM.deg q7 (v_2b02420001 h62.1) (v_c036b47710 h62.2) ez63
                    refine Y_iald (z := z63) 1260 dX12_oneMore_78 hk114 rfl (by decide) (v_2b02420001 h62.1) (v_e2c4b61ba5 q6 h62.2) ez63 ?_
                    refine Z_icmp_ge (tgt := 167) dX12_oneMore_79 (by decide) (v_ee6ec25f58 i70_0 i70_1) (v_ee6ec25f58 h64.1 h64.2) (fun h65 => ?_) (fun h65 => ?_)
                    · refine Z_iconst (n := 0) dX12_oneMore_167 ?_
                      refine J_istore dX12_oneMore_168 (Nat.le_of_ble_eq_true rfl) rfl ?_
                      refine J_ls (ls2 := [some (.ref 98), some (.int (zI x)), some (.int (zI y)), some (.int (zI n_70)), some (.int (zI k_42)), some (.int (zI z61)), some (.int (zI 0)), none]) rfl ?_
                      have lp170 : ∀ (N170 : Nat) (n_170 : Int) (s_170 : Int) (lx_170 : Int → Int) (fx_170 : Int → Int) (bx_170 : Int → Int), (0 ≤ s_170) → (s_170 ≤ 22) → (k_42 < n_170) → (1 ≤ n_170) → (n_170 ≤ hm) → (cNe fx_170 (-1) hm = n_170) → (Rg lx_170 n_170 0 (hm - 1)) → (Rg fx_170 hm (-1) (hm - 1)) → (Tr st sm us fx_170 bx_170 lx_170 x hm n_170) → (lx_170 k_42 = z61) → (Rg bx_170 1260 0 1) → (22 - s_170).toNat < N170 → J l G MX12_oneMore { frames := 1, cells := 0, slots := 0, locals := 23 } jE (jMQ G { frames := 1, cells := 0, slots := 0, locals := 23 } (fun rr h9 => (∃ li2 : Int → Int, ∃ us2 : Int → Int, ∃ wf2 : Int → Int, ∃ wb2 : Int → Int, rr = some (.int (zI 0)) ∧ h9 = (nh, hc fh [(120, .inl (0, 1260, .inl (zA li2))), (124, .inl (2, 27720, .inl (zA us2))), (125, .inl (0, 1260, .inl (zA wf2))), (126, .inl (0, 1260, .inl (zA wb2)))]) ∧ (Rg us2 27720 0 1) ∧ (Rg wb2 1260 0 1)) ∨ (∃ li2 : Int → Int, ∃ us2 : Int → Int, ∃ wf2 : Int → Int, ∃ wb2 : Int → Int, rr = some (.int (zI 1)) ∧ h9 = (nh, hc fh [(120, .inl (0, 1260, .inl (zA li2))), (124, .inl (2, 27720, .inl (zA us2))), (125, .inl (0, 1260, .inl (zA wf2))), (126, .inl (0, 1260, .inl (zA wb2)))]) ∧ (Rg us2 27720 0 1) ∧ (Nin st sm us2 x hm) ∧ (cU us2 x = cU us x + 1) ∧ (Rg wb2 1260 0 1)))) (nh, hc fh [(126, .inl (0, 1260, .inl (zA bx_170))), (120, .inl (0, 1260, .inl (zA lx_170))), (125, .inl (0, 1260, .inl (zA fx_170)))]) 0 0 170 [some (.ref 98), some (.int (zI x)), some (.int (zI y)), some (.int (zI n_170)), some (.int (zI k_42)), some (.int (zI z61)), some (.int (zI s_170)), none] [] := by
                        intro N170
                        induction N170 with
                        | zero => intro n_170 s_170 lx_170 fx_170 bx_170 i170_0 i170_1 i170_2 i170_3 i170_4 i170_5 i170_6 i170_7 i170_8 i170_9 i170_10 hm; exact absurd hm (Nat.not_lt_zero _)
                        | succ N170 ih170 =>
                          intro n_170 s_170 lx_170 fx_170 bx_170 i170_0 i170_1 i170_2 i170_3 i170_4 i170_5 i170_6 i170_7 i170_8 i170_9 i170_10 hm170
                          refine J_iload dX12_oneMore_170 rfl ?_
                          refine J_aload_n dX12_oneMore_172 rfl rfl ?_
                          refine J_get (v := .ref 116) dX12_oneMore_173 fl_X12_73 hk98 rfl ?_
                          refine J_iload dX12_oneMore_176 rfl ?_
                          obtain ⟨z66, ez66⟩ : ∃ z : Int, cm z61 = z := ⟨_, rfl⟩
                          have h67 : 0 ≤ z66 ∧ z66 ≤ 22 := by rw [← ez66]; exact ⟨(q8 _ (v_2b02420001 h62.1) (v_c036b47710 h62.2)).1, (q8 _ (v_2b02420001 h62.1) (v_c036b47710 h62.2)).2.1⟩
                          refine Y_iald (z := z66) 1260 dX12_oneMore_178 hk116 rfl (by decide) (v_2b02420001 h62.1) (v_e2c4b61ba5 q6 h62.2) ez66 ?_
                          refine Z_icmp_ge (tgt := 267) dX12_oneMore_179 (by decide) (v_ee6ec25f58 i170_0 i170_1) (v_ee6ec25f58 h67.1 h67.2) (fun h68 => ?_) (fun h68 => ?_)
                          · refine Z_iinc (c := k_42 + 1) (ls2 := [some (.ref 98), some (.int (zI x)), some (.int (zI y)), some (.int (zI n_170)), some (.int (zI (k_42 + 1))), some (.int (zI z61)), some (.int (zI s_170)), none]) dX12_oneMore_267 rfl (Nat.le_of_ble_eq_true rfl) rfl rfl rfl ?_
                            refine J_goto (tgt := 42) dX12_oneMore_270 (by decide) ?_
                            refine J_drop (ls2 := [some (.ref 98), some (.int (zI x)), some (.int (zI y)), some (.int (zI n_170)), some (.int (zI (k_42 + 1))), none, none, none]) [true, true, true, true, true, false, false, false] rfl ?_
                            exact ih42 n_170 (k_42 + 1) lx_170 fx_170 bx_170 (v_da458fa48a i42_0) (v_04fff13461 i170_2) i170_3 i170_4 i170_5 i170_6 i170_7 i170_8 i170_10 (meas_lt v_c44c1d6d32 (v_7a9b6e7082 q6 i42_3 h5) hm42)
                          · refine J_aload_n dX12_oneMore_182 rfl rfl ?_
                            refine J_get (v := .ref 115) dX12_oneMore_183 fl_X12_70 hk98 rfl ?_
                            refine Z_bipush (n := 22) dX12_oneMore_186 (by decide +kernel) ?_
                            refine J_iload dX12_oneMore_188 rfl ?_
                            refine Z_imul (c := 22 * z61) dX12_oneMore_190 rfl ?_
                            refine J_iload dX12_oneMore_191 rfl ?_
                            refine Z_iadd (c := s_170 + 22 * z61) dX12_oneMore_193 v_ad6305c414 ?_
                            obtain ⟨z69, ez69⟩ : ∃ z : Int, cf (s_170 + 22 * z61) = z := ⟨_, rfl⟩
                            refine Y_iald (z := z69) 27720 dX12_oneMore_194 hk115 rfl (by decide) (v_20ea8ee269 h62.1 i170_0) (v_ce3ee115e5 q6 h62.2 h67.2 h68) ez69 ?_
                            have gco : (0 ≤ z69 ∧ z69 < hm) ∧ ∃ i, 0 ≤ i ∧ i < sm z69 ∧ st (22 * z69 + i) = z61 := by have u := (q8 z61 (v_2b02420001 h62.1) (v_c036b47710 h62.2)).2.2 s_170 i170_0 (by rw [ez66]; exact (v_fe9ea41faa h68)); rw [show (22 * z61 + s_170 : Int) = s_170 + 22 * z61 by omega, ez69] at u; exact u
                            refine J_istore dX12_oneMore_195 (Nat.le_of_ble_eq_true rfl) rfl ?_
                            refine J_ls (ls2 := [some (.ref 98), some (.int (zI x)), some (.int (zI y)), some (.int (zI n_170)), some (.int (zI k_42)), some (.int (zI z61)), some (.int (zI s_170)), some (.int (zI z69))]) rfl ?_
                            refine J_aload_n dX12_oneMore_197 rfl rfl ?_
                            refine J_get (v := .ref 125) dX12_oneMore_198 fl_X12_107 hk98 rfl ?_
                            refine J_iload dX12_oneMore_201 rfl ?_
                            obtain ⟨z70, ez70⟩ : ∃ z : Int, fx_170 z69 = z := ⟨_, rfl⟩
                            have h71 := Rg.at i170_7 (v_2b02420001 gco.1.1) (v_b9aca61388 gco.1.2) ez70
                            refine Y_iald (z := z70) 1260 dX12_oneMore_203 rfl rfl (by decide) (v_2b02420001 gco.1.1) (v_1c8b2a3f47 q6 gco.1.2) ez70 ?_
                            refine Z_iconst (n := -1) dX12_oneMore_204 ?_
                            refine Z_icmp_ne (tgt := 261) dX12_oneMore_205 (by decide) (v_1331e3f574 q6 h71.1 h71.2) v_d64efa60f9 (fun h72 => ?_) (fun h72 => ?_)
                            · refine Z_iinc (c := s_170 + 1) (ls2 := [some (.ref 98), some (.int (zI x)), some (.int (zI y)), some (.int (zI n_170)), some (.int (zI k_42)), some (.int (zI z61)), some (.int (zI (s_170 + 1))), some (.int (zI z69))]) dX12_oneMore_261 rfl (Nat.le_of_ble_eq_true rfl) rfl rfl rfl ?_
                              refine J_goto (tgt := 170) dX12_oneMore_264 (by decide) ?_
                              refine J_drop (ls2 := [some (.ref 98), some (.int (zI x)), some (.int (zI y)), some (.int (zI n_170)), some (.int (zI k_42)), some (.int (zI z61)), some (.int (zI (s_170 + 1))), none]) [true, true, true, true, true, true, true, false] rfl ?_
                              exact ih170 n_170 (s_170 + 1) lx_170 fx_170 bx_170 (v_da458fa48a i170_0) (v_47a3e0fadb h67.2 h68) i170_2 i170_3 i170_4 i170_5 i170_6 i170_7 (i170_8) (i170_9) i170_10 (meas_lt v_7998cc58ac (v_e4105e2830 h67.2 h68) hm170)
                            · refine J_aload_n dX12_oneMore_208 rfl rfl ?_
                              refine J_get (v := .ref 124) dX12_oneMore_209 fl_X12_104 hk98 rfl ?_
                              refine Z_bipush (n := 22) dX12_oneMore_212 (by decide +kernel) ?_
                              refine J_iload dX12_oneMore_214 rfl ?_
                              refine Z_imul (c := 22 * z69) dX12_oneMore_216 rfl ?_
                              refine J_aload_n dX12_oneMore_217 rfl rfl ?_
                              refine J_iload dX12_oneMore_218 rfl ?_
                              refine J_iload dX12_oneMore_220 rfl ?_
                              refine J_callV (st := [.int (zI (22 * z69)), .ref 124]) dX12_oneMore_222 cv_X12_340 (k_stepBetweenF z69 z61 st tk sm ms mv mt mfa mtn mtk mlv mbd mgo mge mbk mtt mtl hm pm hb sb mfu mdm mla gco.1.1 gco.1.2 (v_8f84c09b4d q6 h62.1 h62.2) q5 q6 q7 hk98 hk112 hk113 hk114) hk98 rfl rfl (Nat.le_of_ble_eq_true rfl) ⟨(Nat.le_of_ble_eq_true rfl), (Nat.le_of_ble_eq_true rfl)⟩ ⟨(Nat.le_of_ble_eq_true rfl), (Nat.le_of_ble_eq_true rfl)⟩ (fun r h9 hp => ?_)
                              obtain ⟨z73, rfl, rfl, h74, h75, h76, h77, h78⟩ := hp
                              refine J_nf (nh2 := nh) (ck2 := 0) (sk2 := 0) (st2 := [.int (zI z73), .int (zI (22 * z69)), .ref 124]) rfl rfl rfl rfl ?_
                              have g79 : 0 ≤ z73 := gco.2.elim (fun i w => StB.pos h76 (v_4f729da59d h74) w.1 rfl w.2.1 rfl w.2.2)
                              refine Z_iadd (c := 22 * z69 + z73) dX12_oneMore_225 rfl ?_
                              obtain ⟨z80, ez80⟩ : ∃ z : Int, us (22 * z69 + z73) = z := ⟨_, rfl⟩
                              have h81 := Rg.at q9 (v_c3b7d2d1ca gco.1.1 g79) (v_9bb6b7e389 q6 gco.1.2 h77) ez80
                              refine Y_zald (z := z80) 27720 dX12_oneMore_226 hk124 rfl (by decide) (v_c3b7d2d1ca gco.1.1 g79) (v_9bb6b7e389 q6 gco.1.2 h77) ez80 ?_
                              refine Z_if_ne (tgt := 233) dX12_oneMore_227 (by decide) (v_5f10a759cd h81.1 h81.2) (fun h82 => ?_) (fun h82 => ?_)
                              · have g83 := cNe_lt (v := -1) (n := hm) (v_2b02420001 gco.1.1) (v_b9aca61388 gco.1.2) ez70 (v_1022695464 h71.1 h72)
                                refine J_aload_n dX12_oneMore_233 rfl rfl ?_
                                refine J_get (v := .ref 125) dX12_oneMore_234 fl_X12_107 hk98 rfl ?_
                                refine J_iload dX12_oneMore_237 rfl ?_
                                refine J_iload dX12_oneMore_239 rfl ?_
                                refine Y_iast (v := z61) 1260 dX12_oneMore_241 rfl rfl (by decide) (v_2b02420001 gco.1.1) (v_1c8b2a3f47 q6 gco.1.2) (fun f84 ef84 => ?_)
                                have h85 : Rg f84 hm (-1) (hm - 1) := Rg.ups i170_7 ef84 (v_576129c2e8 h62.1) (v_a08c72e379 h62.2)
                                refine J_aload_n dX12_oneMore_242 rfl rfl ?_
                                refine J_get (v := .ref 126) dX12_oneMore_243 fl_X12_110 hk98 rfl ?_
                                refine J_iload dX12_oneMore_246 rfl ?_
                                refine Z_iconst (n := 0) dX12_oneMore_248 ?_
                                refine Y_iast (v := 0) 1260 dX12_oneMore_249 rfl rfl (by decide) (v_2b02420001 gco.1.1) (v_1c8b2a3f47 q6 gco.1.2) (fun f86 ef86 => ?_)
                                have h87 : Rg f86 1260 0 1 := Rg.ups i170_10 ef86 v_939070ca3f v_316afd7d0b
                                refine J_aload_n dX12_oneMore_250 rfl rfl ?_
                                refine J_get (v := .ref 120) dX12_oneMore_251 fl_X12_92 hk98 rfl ?_
                                refine J_iload_n dX12_oneMore_254 rfl rfl ?_
                                refine J_iload dX12_oneMore_255 rfl ?_
                                refine Y_iast (v := z69) 1260 dX12_oneMore_257 rfl rfl (by decide) (v_632d2dbe78 i170_3) (v_962b05759d q6 i170_5 g83) (fun f88 ef88 => ?_)
                                have h89 : Rg f88 (n_170 + 1) 0 (hm - 1) := Rg.push i170_6 ef88 v_a0572702c4 v_e828b09c4d (v_2b02420001 gco.1.1) (v_d1bccf29d4 gco.1.2)
                                refine Z_iinc (c := n_170 + 1) (ls2 := [some (.ref 98), some (.int (zI x)), some (.int (zI y)), some (.int (zI (n_170 + 1))), some (.int (zI k_42)), some (.int (zI z61)), some (.int (zI s_170)), some (.int (zI z69))]) dX12_oneMore_258 rfl (Nat.le_of_ble_eq_true rfl) rfl rfl rfl ?_
                                have g90 := cNe_new (v := -1) (n := hm) ef84 (v_ec89eb1211 h62.1) (v_2b02420001 gco.1.1) (v_b9aca61388 gco.1.2) ez70 (v_1022695464 h71.1 h72)
                                obtain ⟨z91, ez91⟩ : ∃ z : Int, sm z69 = z := ⟨_, rfl⟩
                                have h92 := StM.deg q7 (v_2b02420001 gco.1.1) (v_b9aca61388 gco.1.2) ez91
                                have gtr := Tr.visit i170_8 q0 i170_6 (v_2b02420001 i42_0) (v_b9aca61388 i170_2) i170_9 ez70 (v_1022695464 h71.1 h72) (Edg.bwd ef86 rfl (v_2b02420001 gco.1.1) (v_b9aca61388 gco.1.2) q10 ez91 h78 (v_2b02420001 g79) (v_9b48e6bcc2 h75 ez91) ((congrArg us (by omega)).trans ez80) (v_d47f715d39 h81.1 h82)) ef84 ef86 ef88 rfl
                                refine Z_iinc (c := s_170 + 1) (ls2 := [some (.ref 98), some (.int (zI x)), some (.int (zI y)), some (.int (zI (n_170 + 1))), some (.int (zI k_42)), some (.int (zI z61)), some (.int (zI (s_170 + 1))), some (.int (zI z69))]) dX12_oneMore_261 rfl (Nat.le_of_ble_eq_true rfl) rfl rfl rfl ?_
                                refine J_goto (tgt := 170) dX12_oneMore_264 (by decide) ?_
                                refine J_mask (L2 := [(120, .inl (0, 1260, .inl (zA f88))), (126, .inl (0, 1260, .inl (zA f86))), (125, .inl (0, 1260, .inl (zA f84)))]) (ks := [120, 126, 125, 126, 120, 125]) [true, true, true, false, false, false] rfl (by decide +kernel) rfl ?_
                                refine J_touch (k := 125) (e := .inl (0, 1260, .inl (zA f84))) rfl ?_
                                refine J_touch (k := 120) (e := .inl (0, 1260, .inl (zA f88))) rfl ?_
                                refine J_touch (k := 126) (e := .inl (0, 1260, .inl (zA f86))) rfl ?_
                                refine J_mask (L2 := [(126, .inl (0, 1260, .inl (zA f86))), (120, .inl (0, 1260, .inl (zA f88))), (125, .inl (0, 1260, .inl (zA f84)))]) (ks := [126, 120, 125, 120, 126, 125]) [true, true, true, false, false, false] rfl (by decide +kernel) rfl ?_
                                refine J_drop (ls2 := [some (.ref 98), some (.int (zI x)), some (.int (zI y)), some (.int (zI (n_170 + 1))), some (.int (zI k_42)), some (.int (zI z61)), some (.int (zI (s_170 + 1))), none]) [true, true, true, true, true, true, true, false] rfl ?_
                                exact ih170 (n_170 + 1) (s_170 + 1) f88 f84 f86 (v_da458fa48a i170_0) (v_47a3e0fadb h67.2 h68) (v_d6f53c5707 i170_2) (v_f86fa765f0 i170_3) (v_77951b0a5b i170_5 g83) (v_85fba9899a i170_5 g90) h89 h85 (gtr) (by rw [ef88, up_ne (v_5ef97a20eb i170_2)]; exact i170_9) h87 (meas_lt v_7998cc58ac (v_e4105e2830 h67.2 h68) hm170)
                              · refine J_goto (tgt := 261) dX12_oneMore_230 (by decide) ?_
                                refine Z_iinc (c := s_170 + 1) (ls2 := [some (.ref 98), some (.int (zI x)), some (.int (zI y)), some (.int (zI n_170)), some (.int (zI k_42)), some (.int (zI z61)), some (.int (zI (s_170 + 1))), some (.int (zI z69))]) dX12_oneMore_261 rfl (Nat.le_of_ble_eq_true rfl) rfl rfl rfl ?_
                                refine J_goto (tgt := 170) dX12_oneMore_264 (by decide) ?_
                                refine J_drop (ls2 := [some (.ref 98), some (.int (zI x)), some (.int (zI y)), some (.int (zI n_170)), some (.int (zI k_42)), some (.int (zI z61)), some (.int (zI (s_170 + 1))), none]) [true, true, true, true, true, true, true, false] rfl ?_
                                exact ih170 n_170 (s_170 + 1) lx_170 fx_170 bx_170 (v_da458fa48a i170_0) (v_47a3e0fadb h67.2 h68) i170_2 i170_3 i170_4 i170_5 i170_6 i170_7 (i170_8) (i170_9) i170_10 (meas_lt v_7998cc58ac (v_e4105e2830 h67.2 h68) hm170)
                      exact lp170 _ n_70 0 lx_70 fx_70 bx_70 v_939070ca3f v_88d800e4db i70_2 i70_3 i70_4 i70_5 i70_6 i70_7 i70_8 i70_9 i70_10 (Nat.lt_succ_self _)
                    · refine J_aload_n dX12_oneMore_82 rfl rfl ?_
                      refine J_get (v := .ref 112) dX12_oneMore_83 fl_X12_61 hk98 rfl ?_
                      refine Z_bipush (n := 22) dX12_oneMore_86 (by decide +kernel) ?_
                      refine J_iload dX12_oneMore_88 rfl ?_
                      refine Z_imul (c := 22 * z61) dX12_oneMore_90 rfl ?_
                      refine J_iload dX12_oneMore_91 rfl ?_
                      refine Z_iadd (c := s_70 + 22 * z61) dX12_oneMore_93 v_ad6305c414 ?_
                      obtain ⟨z93, ez93⟩ : ∃ z : Int, st (s_70 + 22 * z61) = z := ⟨_, rfl⟩
                      have h94 := StM.to q7 (v_2b02420001 h62.1) (v_c036b47710 h62.2) ez63 (v_2b02420001 i70_0) (v_fe9ea41faa h65) v_67a3777f39 ez93
                      refine Y_iald (z := z93) 27720 dX12_oneMore_94 hk112 rfl (by decide) (v_20ea8ee269 h62.1 i70_0) (v_ce3ee115e5 q6 h62.2 h64.2 h65) ez93 ?_
                      refine J_istore dX12_oneMore_95 (Nat.le_of_ble_eq_true rfl) rfl ?_
                      refine J_ls (ls2 := [some (.ref 98), some (.int (zI x)), some (.int (zI y)), some (.int (zI n_70)), some (.int (zI k_42)), some (.int (zI z61)), some (.int (zI s_70)), some (.int (zI z93))]) rfl ?_
                      refine J_aload_n dX12_oneMore_97 rfl rfl ?_
                      refine J_get (v := .ref 125) dX12_oneMore_98 fl_X12_107 hk98 rfl ?_
                      refine J_iload dX12_oneMore_101 rfl ?_
                      obtain ⟨z95, ez95⟩ : ∃ z : Int, fx_70 z93 = z := ⟨_, rfl⟩
                      have h96 := Rg.at i70_7 (v_2b02420001 h94.1) (v_b9aca61388 h94.2) ez95
                      refine Y_iald (z := z95) 1260 dX12_oneMore_103 rfl rfl (by decide) (v_2b02420001 h94.1) (v_1c8b2a3f47 q6 h94.2) ez95 ?_
                      refine Z_iconst (n := -1) dX12_oneMore_104 ?_
                      refine Z_icmp_ne (tgt := 161) dX12_oneMore_105 (by decide) (v_1331e3f574 q6 h96.1 h96.2) v_d64efa60f9 (fun h97 => ?_) (fun h97 => ?_)
                      · refine Z_iinc (c := s_70 + 1) (ls2 := [some (.ref 98), some (.int (zI x)), some (.int (zI y)), some (.int (zI n_70)), some (.int (zI k_42)), some (.int (zI z61)), some (.int (zI (s_70 + 1))), some (.int (zI z93))]) dX12_oneMore_161 rfl (Nat.le_of_ble_eq_true rfl) rfl rfl rfl ?_
                        refine J_goto (tgt := 70) dX12_oneMore_164 (by decide) ?_
                        refine J_drop (ls2 := [some (.ref 98), some (.int (zI x)), some (.int (zI y)), some (.int (zI n_70)), some (.int (zI k_42)), some (.int (zI z61)), some (.int (zI (s_70 + 1))), none]) [true, true, true, true, true, true, true, false] rfl ?_
                        exact ih70 n_70 (s_70 + 1) lx_70 fx_70 bx_70 (v_da458fa48a i70_0) (v_47a3e0fadb h64.2 h65) i70_2 i70_3 i70_4 i70_5 i70_6 i70_7 (i70_8) (i70_9) i70_10 (meas_lt v_7998cc58ac (v_e4105e2830 h64.2 h65) hm70)
                      · refine J_aload_n dX12_oneMore_108 rfl rfl ?_
                        refine J_get (v := .ref 124) dX12_oneMore_109 fl_X12_104 hk98 rfl ?_
                        refine Z_bipush (n := 22) dX12_oneMore_112 (by decide +kernel) ?_
                        refine J_iload dX12_oneMore_114 rfl ?_
                        refine Z_imul (c := 22 * z61) dX12_oneMore_116 rfl ?_
                        refine J_aload_n dX12_oneMore_117 rfl rfl ?_
                        refine J_iload dX12_oneMore_118 rfl ?_
                        refine J_iload dX12_oneMore_120 rfl ?_
                        refine J_callV (st := [.int (zI (22 * z61)), .ref 124]) dX12_oneMore_122 cv_X12_340 (k_stepBetweenF z61 z93 st tk sm ms mv mt mfa mtn mtk mlv mbd mgo mge mbk mtt mtl hm pm hb sb mfu mdm mla h62.1 (v_c036b47710 h62.2) (v_24739b0ba2 q6 h94.1 h94.2) q5 q6 q7 hk98 hk112 hk113 hk114) hk98 rfl rfl (Nat.le_of_ble_eq_true rfl) ⟨(Nat.le_of_ble_eq_true rfl), (Nat.le_of_ble_eq_true rfl)⟩ ⟨(Nat.le_of_ble_eq_true rfl), (Nat.le_of_ble_eq_true rfl)⟩ (fun r h9 hp => ?_)
                        obtain ⟨z98, rfl, rfl, h99, h100, h101, h102, h103⟩ := hp
                        refine J_nf (nh2 := nh) (ck2 := 0) (sk2 := 0) (st2 := [.int (zI z98), .int (zI (22 * z61)), .ref 124]) rfl rfl rfl rfl ?_
                        have g104 : 0 ≤ z98 := StB.pos h101 (v_4f729da59d h99) i70_0 ez63 (v_fe9ea41faa h65) v_67a3777f39 ez93
                        refine Z_iadd (c := 22 * z61 + z98) dX12_oneMore_125 rfl ?_
                        obtain ⟨z105, ez105⟩ : ∃ z : Int, us (22 * z61 + z98) = z := ⟨_, rfl⟩
                        have h106 := Rg.at q9 (v_c3b7d2d1ca h62.1 g104) (v_8239e0e4f4 q6 h62.2 h102) ez105
                        refine Y_zald (z := z105) 27720 dX12_oneMore_126 hk124 rfl (by decide) (v_c3b7d2d1ca h62.1 g104) (v_8239e0e4f4 q6 h62.2 h102) ez105 ?_
                        refine Z_if_eq (tgt := 133) dX12_oneMore_127 (by decide) (v_5f10a759cd h106.1 h106.2) (fun h107 => ?_) (fun h107 => ?_)
                        · have g108 := cNe_lt (v := -1) (n := hm) (v_2b02420001 h94.1) (v_b9aca61388 h94.2) ez95 (v_1022695464 h96.1 h97)
                          refine J_aload_n dX12_oneMore_133 rfl rfl ?_
                          refine J_get (v := .ref 125) dX12_oneMore_134 fl_X12_107 hk98 rfl ?_
                          refine J_iload dX12_oneMore_137 rfl ?_
                          refine J_iload dX12_oneMore_139 rfl ?_
                          refine Y_iast (v := z61) 1260 dX12_oneMore_141 rfl rfl (by decide) (v_2b02420001 h94.1) (v_1c8b2a3f47 q6 h94.2) (fun f109 ef109 => ?_)
                          have h110 : Rg f109 hm (-1) (hm - 1) := Rg.ups i70_7 ef109 (v_576129c2e8 h62.1) (v_a08c72e379 h62.2)
                          refine J_aload_n dX12_oneMore_142 rfl rfl ?_
                          refine J_get (v := .ref 126) dX12_oneMore_143 fl_X12_110 hk98 rfl ?_
                          refine J_iload dX12_oneMore_146 rfl ?_
                          refine Z_iconst (n := 1) dX12_oneMore_148 ?_
                          refine Y_iast (v := 1) 1260 dX12_oneMore_149 rfl rfl (by decide) (v_2b02420001 h94.1) (v_1c8b2a3f47 q6 h94.2) (fun f111 ef111 => ?_)
                          have h112 : Rg f111 1260 0 1 := Rg.ups i70_10 ef111 v_316afd7d0b v_bbcfac9b7d
                          refine J_aload_n dX12_oneMore_150 rfl rfl ?_
                          refine J_get (v := .ref 120) dX12_oneMore_151 fl_X12_92 hk98 rfl ?_
                          refine J_iload_n dX12_oneMore_154 rfl rfl ?_
                          refine J_iload dX12_oneMore_155 rfl ?_
                          refine Y_iast (v := z93) 1260 dX12_oneMore_157 rfl rfl (by decide) (v_632d2dbe78 i70_3) (v_962b05759d q6 i70_5 g108) (fun f113 ef113 => ?_)
                          have h114 : Rg f113 (n_70 + 1) 0 (hm - 1) := Rg.push i70_6 ef113 v_a0572702c4 v_e828b09c4d (v_2b02420001 h94.1) (v_d1bccf29d4 h94.2)
                          refine Z_iinc (c := n_70 + 1) (ls2 := [some (.ref 98), some (.int (zI x)), some (.int (zI y)), some (.int (zI (n_70 + 1))), some (.int (zI k_42)), some (.int (zI z61)), some (.int (zI s_70)), some (.int (zI z93))]) dX12_oneMore_158 rfl (Nat.le_of_ble_eq_true rfl) rfl rfl rfl ?_
                          have g115 := cNe_new (v := -1) (n := hm) ef109 (v_ec89eb1211 h62.1) (v_2b02420001 h94.1) (v_b9aca61388 h94.2) ez95 (v_1022695464 h96.1 h97)
                          have gtr := Tr.visit i70_8 q0 i70_6 (v_2b02420001 i42_0) (v_b9aca61388 i70_2) i70_9 ez95 (v_1022695464 h96.1 h97) (Edg.fwd ef111 rfl ez63 i70_0 (v_fe9ea41faa h65) v_67a3777f39 ez93 h103 (v_2b02420001 g104) ((congrArg us (by omega)).trans ez105) (v_bd6c74a791 h106.1 h107)) ef109 ef111 ef113 rfl
                          refine Z_iinc (c := s_70 + 1) (ls2 := [some (.ref 98), some (.int (zI x)), some (.int (zI y)), some (.int (zI (n_70 + 1))), some (.int (zI k_42)), some (.int (zI z61)), some (.int (zI (s_70 + 1))), some (.int (zI z93))]) dX12_oneMore_161 rfl (Nat.le_of_ble_eq_true rfl) rfl rfl rfl ?_
                          refine J_goto (tgt := 70) dX12_oneMore_164 (by decide) ?_
                          refine J_mask (L2 := [(120, .inl (0, 1260, .inl (zA f113))), (126, .inl (0, 1260, .inl (zA f111))), (125, .inl (0, 1260, .inl (zA f109)))]) (ks := [120, 126, 125, 126, 120, 125]) [true, true, true, false, false, false] rfl (by decide +kernel) rfl ?_
                          refine J_touch (k := 125) (e := .inl (0, 1260, .inl (zA f109))) rfl ?_
                          refine J_touch (k := 120) (e := .inl (0, 1260, .inl (zA f113))) rfl ?_
                          refine J_touch (k := 126) (e := .inl (0, 1260, .inl (zA f111))) rfl ?_
                          refine J_mask (L2 := [(126, .inl (0, 1260, .inl (zA f111))), (120, .inl (0, 1260, .inl (zA f113))), (125, .inl (0, 1260, .inl (zA f109)))]) (ks := [126, 120, 125, 120, 126, 125]) [true, true, true, false, false, false] rfl (by decide +kernel) rfl ?_
                          refine J_drop (ls2 := [some (.ref 98), some (.int (zI x)), some (.int (zI y)), some (.int (zI (n_70 + 1))), some (.int (zI k_42)), some (.int (zI z61)), some (.int (zI (s_70 + 1))), none]) [true, true, true, true, true, true, true, false] rfl ?_
                          exact ih70 (n_70 + 1) (s_70 + 1) f113 f109 f111 (v_da458fa48a i70_0) (v_47a3e0fadb h64.2 h65) (v_d6f53c5707 i70_2) (v_f86fa765f0 i70_3) (v_77951b0a5b i70_5 g108) (v_85fba9899a i70_5 g115) h114 h110 (gtr) (by rw [ef113, up_ne (v_5ef97a20eb i70_2)]; exact i70_9) h112 (meas_lt v_7998cc58ac (v_e4105e2830 h64.2 h65) hm70)
                        · refine J_goto (tgt := 161) dX12_oneMore_130 (by decide) ?_
                          refine Z_iinc (c := s_70 + 1) (ls2 := [some (.ref 98), some (.int (zI x)), some (.int (zI y)), some (.int (zI n_70)), some (.int (zI k_42)), some (.int (zI z61)), some (.int (zI (s_70 + 1))), some (.int (zI z93))]) dX12_oneMore_161 rfl (Nat.le_of_ble_eq_true rfl) rfl rfl rfl ?_
                          refine J_goto (tgt := 70) dX12_oneMore_164 (by decide) ?_
                          refine J_drop (ls2 := [some (.ref 98), some (.int (zI x)), some (.int (zI y)), some (.int (zI n_70)), some (.int (zI k_42)), some (.int (zI z61)), some (.int (zI (s_70 + 1))), none]) [true, true, true, true, true, true, true, false] rfl ?_
                          exact ih70 n_70 (s_70 + 1) lx_70 fx_70 bx_70 (v_da458fa48a i70_0) (v_47a3e0fadb h64.2 h65) i70_2 i70_3 i70_4 i70_5 i70_6 i70_7 (i70_8) (i70_9) i70_10 (meas_lt v_7998cc58ac (v_e4105e2830 h64.2 h65) hm70)
                exact lp70 _ n_42 0 lx_42 fx_42 bx_42 v_939070ca3f v_88d800e4db (v_fe9ea41faa h5) i42_2 i42_3 i42_4 i42_5 i42_6 i42_7 (ez61) i42_8 (Nat.lt_succ_self _)
        exact lp42 _ 1 0 f4 f3 wb v_939070ca3f v_316afd7d0b v_bbcfac9b7d q5 (cNe_first g2 (Int.le_refl _) ef3 (v_ec89eb1211 q0) q0 q1) (Rg.push (Rg.nil v_939070ca3f) ef4 rfl v_168d5105f8 (v_2b02420001 q0) (v_d1bccf29d4 q1)) (Rg.ups (fill_Rg g2 (Int.le_refl _) (by decide) (v_ab425551c7 q5)) ef3 (v_576129c2e8 q0) (v_d1bccf29d4 q1)) (Tr_1 g2 ef3 ef4) q11 (Nat.lt_succ_self _)
      · refine J_aload_n dX12_oneMore_10 rfl rfl ?_
        refine J_get (v := .ref 125) dX12_oneMore_11 fl_X12_107 hk98 rfl ?_
        refine J_iload_n dX12_oneMore_14 rfl rfl ?_
        refine Z_iconst (n := -1) dX12_oneMore_15 ?_
        refine Y_iast (v := -1) 1260 dX12_oneMore_16 rfl rfl (by decide) (v_2b02420001 i2_0) (v_610e7c4416 q6 h1) (fun f116 ef116 => ?_)
        refine Z_iinc (c := h_2 + 1) (ls2 := [some (.ref 98), some (.int (zI x)), some (.int (zI y)), some (.int (zI (h_2 + 1))), none, none, none, none]) dX12_oneMore_17 rfl (Nat.le_of_ble_eq_true rfl) rfl rfl rfl ?_
        refine J_goto (tgt := 2) dX12_oneMore_20 (by decide) ?_
        refine J_mask (L2 := [(125, .inl (0, 1260, .inl (zA f116)))]) (ks := [125, 125]) [true, false] rfl (by decide +kernel) rfl ?_
        exact ih2 (h_2 + 1) f116 (v_da458fa48a i2_0) (v_e390a36114 h1) (fill_step i2_2 ef116 i2_0 rfl) (meas_lt v_90eacd6fd4 (v_8b7dd7d486 h1) hm2)
  exact lp2 _ 0 wf v_939070ca3f (v_632d2dbe78 q5) (fill_0) (Nat.lt_succ_self _)
set_option maxHeartbeats 4000000 in
set_option maxRecDepth 100000 in
theorem k_parted {l : Launch} {G : jG} {nh : Nat} {fh : Nat → Option va_E} (x : Int) (y : Int) (ms : Int) (mv : Int) (mt : Int) (mfa : Int) (mtn : Int) (mtk : Int) (mlv : Int) (mbd : Int) (mgo : Int) (mge : Int) (mbk : Int) (mtt : Int) (mtl : Int) (hm : Int) (pm : Int) (hb : Int) (sb : Int) (mfu : Int) (mdm : Int) (mla : Int) (K : Int → Int) (co : Int → Int) (cd : Int → Int) (of : Int → Int) (st : Int → Int) (tk : Int → Int) (sm : Int → Int) (cf : Int → Int) (cm : Int → Int) (aq : Int → Int) (li : Int → Int) (us : Int → Int) (wf : Int → Int) (wb : Int → Int) (q0 : zr x) (q1 : zr y) (q2 : KOK K) (q3 : Rg of 7 0 4) (q4 : zr hb) (q5 : zr mv) (q6 : hb = mv → HouT co cd K hm ∧ hm = Hi K ∧ pm = bsum K) (q7 : zr sb) (q8 : sb = mv → StM st tk sm (Hi K) ∧ CoM cf cm st sm (Hi K)) (q9 : hb ≤ mv) (q10 : sb ≤ mv) (q11 : 0 ≤ mbk) (q12 : mbk ≤ 1) (q13 : Rg aq 8 (-2147483648) 2147483647) (q14 : Rg us 27720 0 1) (q15 : Rg wb 1260 0 1) (hk98 : fh 98 = some (.inr (12, (.int (zI ms) :: .int (zI mv) :: .ref 99 :: .ref 100 :: .ref 101 :: .ref 102 :: .ref 103 :: .ref 104 :: .ref 105 :: .int (zI mt) :: .int (zI mfa) :: .ref 106 :: .ref 107 :: .ref 108 :: .int (zI mtn) :: .int (zI mtk) :: .int (zI mlv) :: .int (zI mbd) :: .int (zI mgo) :: .int (zI mge) :: .int (zI mbk) :: .ref 109 :: .int (zI mtt) :: .int (zI mtl) :: .ref 110 :: .ref 111 :: .ref 112 :: .ref 113 :: .ref 114 :: .ref 115 :: .ref 116 :: .ref 117 :: .int (zI hm) :: .int (zI pm) :: .int (zI hb) :: .int (zI sb) :: .ref 118 :: .ref 119 :: .ref 120 :: .ref 121 :: .ref 122 :: .ref 123 :: .ref 124 :: .ref 125 :: .ref 126 :: .ref 127 :: .ref 128 :: .ref 129 :: .int (zI mfu) :: .ref 130 :: .ref 131 :: .ref 132 :: .ref 133 :: .ref 134 :: .int (zI mdm) :: .int (zI mla) :: [])))) (hk100 : fh 100 = some (.inl (0, 4870, .inl (zA K)))) (hk110 : fh 110 = some (.inl (0, 8820, .inl (zA co)))) (hk111 : fh 111 = some (.inl (0, 1260, .inl (zA cd)))) (hk117 : fh 117 = some (.inl (0, 7, .inl (zA of)))) (hk112 : fh 112 = some (.inl (0, 27720, .inl (zA st)))) (hk113 : fh 113 = some (.inl (0, 27720, .inl (zA tk)))) (hk114 : fh 114 = some (.inl (0, 1260, .inl (zA sm)))) (hk115 : fh 115 = some (.inl (0, 27720, .inl (zA cf)))) (hk116 : fh 116 = some (.inl (0, 1260, .inl (zA cm)))) (hk109 : fh 109 = some (.inl (0, 8, .inl (zA aq)))) (hk120 : fh 120 = some (.inl (0, 1260, .inl (zA li)))) (hk124 : fh 124 = some (.inl (2, 27720, .inl (zA us)))) (hk125 : fh 125 = some (.inl (0, 1260, .inl (zA wf)))) (hk126 : fh 126 = some (.inl (0, 1260, .inl (zA wb)))) : JM l G yX12_parted MX12_parted { frames := 43, cells := 0, slots := 0, locals := 1018 } [.ref 98, .int (zI x), .int (zI y)] (nh, fh) (fun rr h9 => ∃ r : Int, ∃ hm2 : Int, ∃ pm2 : Int, ∃ hb2 : Int, ∃ co2 : Int → Int, ∃ cd2 : Int → Int, ∃ of2 : Int → Int, ∃ sb2 : Int, ∃ st2 : Int → Int, ∃ tk2 : Int → Int, ∃ sm2 : Int → Int, ∃ cf2 : Int → Int, ∃ cm2 : Int → Int, ∃ aq2 : Int → Int, ∃ go2 : Int, ∃ ge2 : Int, ∃ bk2 : Int, ∃ tt2 : Int, ∃ tl2 : Int, ∃ li2 : Int → Int, ∃ us2 : Int → Int, ∃ wf2 : Int → Int, ∃ wb2 : Int → Int, rr = some (.int (zI r)) ∧ h9 = (nh, hc fh [(98, .inr (12, (.int (zI ms) :: .int (zI mv) :: .ref 99 :: .ref 100 :: .ref 101 :: .ref 102 :: .ref 103 :: .ref 104 :: .ref 105 :: .int (zI mt) :: .int (zI mfa) :: .ref 106 :: .ref 107 :: .ref 108 :: .int (zI mtn) :: .int (zI mtk) :: .int (zI mlv) :: .int (zI mbd) :: .int (zI go2) :: .int (zI ge2) :: .int (zI bk2) :: .ref 109 :: .int (zI tt2) :: .int (zI tl2) :: .ref 110 :: .ref 111 :: .ref 112 :: .ref 113 :: .ref 114 :: .ref 115 :: .ref 116 :: .ref 117 :: .int (zI hm2) :: .int (zI pm2) :: .int (zI hb2) :: .int (zI sb2) :: .ref 118 :: .ref 119 :: .ref 120 :: .ref 121 :: .ref 122 :: .ref 123 :: .ref 124 :: .ref 125 :: .ref 126 :: .ref 127 :: .ref 128 :: .ref 129 :: .int (zI mfu) :: .ref 130 :: .ref 131 :: .ref 132 :: .ref 133 :: .ref 134 :: .int (zI mdm) :: .int (zI mla) :: []))), (110, .inl (0, 8820, .inl (zA co2))), (111, .inl (0, 1260, .inl (zA cd2))), (117, .inl (0, 7, .inl (zA of2))), (112, .inl (0, 27720, .inl (zA st2))), (113, .inl (0, 27720, .inl (zA tk2))), (114, .inl (0, 1260, .inl (zA sm2))), (115, .inl (0, 27720, .inl (zA cf2))), (116, .inl (0, 1260, .inl (zA cm2))), (109, .inl (0, 8, .inl (zA aq2))), (120, .inl (0, 1260, .inl (zA li2))), (124, .inl (2, 27720, .inl (zA us2))), (125, .inl (0, 1260, .inl (zA wf2))), (126, .inl (0, 1260, .inl (zA wb2)))]) ∧ (Rg of2 7 0 4) ∧ (zr hb2) ∧ (hb2 = mv → HouT co2 cd2 K hm2 ∧ hm2 = Hi K ∧ pm2 = bsum K) ∧ (zr sb2) ∧ (sb2 = mv → StM st2 tk2 sm2 (Hi K) ∧ CoM cf2 cm2 st2 sm2 (Hi K)) ∧ (hb2 ≤ mv) ∧ (sb2 ≤ mv) ∧ (0 ≤ bk2) ∧ (bk2 ≤ 1) ∧ (Rg aq2 8 (-2147483648) 2147483647) ∧ (Rg us2 27720 0 1) ∧ (Rg wb2 1260 0 1)) := by
  refine JM.of (by decide) rfl (fun h => by cases h) (Nat.le_of_ble_eq_true rfl) ⟨1, rfl⟩ ?_
  refine J_hc0 (J_ls (ls2 := [some (.ref 98), some (.int (zI x)), some (.int (zI y)), none]) rfl ?_)
  refine J_aload_n dX12_parted_0 rfl rfl ?_
  refine J_iload_n dX12_parted_1 rfl rfl ?_
  refine J_callV (st := []) dX12_parted_2 cv_X12_325 (k_isHouse x ms mv mt mfa mtn mtk mlv mbd mgo mge mbk mtt mtl hm pm hb sb mfu mdm mla K co cd of q0 q2.1 q3 q4 q5 q6 hk98 hk100 hk110 hk111 hk117) hk98 rfl rfl (Nat.le_of_ble_eq_true rfl) ⟨(Nat.le_of_ble_eq_true rfl), (Nat.le_of_ble_eq_true rfl)⟩ ⟨(Nat.le_of_ble_eq_true rfl), (Nat.le_of_ble_eq_true rfl)⟩ (fun r h9 hp => ?_)
  rcases hp with ⟨z1, z2, z3, f4, f5, f6, rfl, rfl, h7, h8, h9, h10, h11, h12, h13, h14, h15, h16, h17⟩ | ⟨z18, z19, z20, f21, f22, f23, rfl, rfl, h24, h25, h26, h27, h28, h29, h30, h31, h32, h33⟩ | ⟨z34, z35, z36, f37, f38, f39, rfl, rfl, h40, h41, h42, h43, h44, h45, h46, h47, h48, h49⟩
  · refine J_nf (nh2 := nh) (ck2 := 0) (sk2 := 0) (st2 := [.int (zI 1)]) rfl rfl rfl rfl ?_
    refine J_app (L3 := [(98, .inr (12, (.int (zI ms) :: .int (zI mv) :: .ref 99 :: .ref 100 :: .ref 101 :: .ref 102 :: .ref 103 :: .ref 104 :: .ref 105 :: .int (zI mt) :: .int (zI mfa) :: .ref 106 :: .ref 107 :: .ref 108 :: .int (zI mtn) :: .int (zI mtk) :: .int (zI mlv) :: .int (zI mbd) :: .int (zI mgo) :: .int (zI mge) :: .int (zI mbk) :: .ref 109 :: .int (zI mtt) :: .int (zI mtl) :: .ref 110 :: .ref 111 :: .ref 112 :: .ref 113 :: .ref 114 :: .ref 115 :: .ref 116 :: .ref 117 :: .int (zI z1) :: .int (zI z2) :: .int (zI z3) :: .int (zI sb) :: .ref 118 :: .ref 119 :: .ref 120 :: .ref 121 :: .ref 122 :: .ref 123 :: .ref 124 :: .ref 125 :: .ref 126 :: .ref 127 :: .ref 128 :: .ref 129 :: .int (zI mfu) :: .ref 130 :: .ref 131 :: .ref 132 :: .ref 133 :: .ref 134 :: .int (zI mdm) :: .int (zI mla) :: []))), (110, .inl (0, 8820, .inl (zA f4))), (111, .inl (0, 1260, .inl (zA f5))), (117, .inl (0, 7, .inl (zA f6)))]) rfl ?_
    refine Z_if_eq (tgt := 21) dX12_parted_5 (by decide) v_4dcc24baa7 (fun h50 => absurd h50 v_3a47bfd896) (fun h50 => ?_)
    refine J_aload_n dX12_parted_8 rfl rfl ?_
    refine J_iload_n dX12_parted_9 rfl rfl ?_
    refine J_callV (st := []) dX12_parted_10 cv_X12_325 (k_isHouse y ms mv mt mfa mtn mtk mlv mbd mgo mge mbk mtt mtl z1 z2 z3 sb mfu mdm mla K f4 f5 f6 q1 q2.1 h10 (v_621074fb26 q5 h15) q5 (fun _ => ⟨h9, h7, h8⟩) rfl hk100 rfl rfl rfl) rfl rfl rfl (Nat.le_of_ble_eq_true rfl) ⟨(Nat.le_of_ble_eq_true rfl), (Nat.le_of_ble_eq_true rfl)⟩ ⟨(Nat.le_of_ble_eq_true rfl), (Nat.le_of_ble_eq_true rfl)⟩ (fun r h9 hp => ?_)
    rcases hp with ⟨z51, z52, z53, f54, f55, f56, rfl, rfl, h57, h58, h59, h60, h61, h62, h63, h64, h65, h66, h67⟩ | ⟨z68, z69, z70, f71, f72, f73, rfl, rfl, h74, h75, h76, h77, h78, h79, h80, h81, h82, h83⟩ | ⟨z84, z85, z86, f87, f88, f89, rfl, rfl, h90, h91, h92, h93, h94, h95, h96, h97, h98, h99⟩
    · refine J_nf (nh2 := nh) (ck2 := 0) (sk2 := 0) (st2 := [.int (zI 1)]) rfl rfl rfl rfl ?_
      refine J_app (L3 := [(98, .inr (12, (.int (zI ms) :: .int (zI mv) :: .ref 99 :: .ref 100 :: .ref 101 :: .ref 102 :: .ref 103 :: .ref 104 :: .ref 105 :: .int (zI mt) :: .int (zI mfa) :: .ref 106 :: .ref 107 :: .ref 108 :: .int (zI mtn) :: .int (zI mtk) :: .int (zI mlv) :: .int (zI mbd) :: .int (zI mgo) :: .int (zI mge) :: .int (zI mbk) :: .ref 109 :: .int (zI mtt) :: .int (zI mtl) :: .ref 110 :: .ref 111 :: .ref 112 :: .ref 113 :: .ref 114 :: .ref 115 :: .ref 116 :: .ref 117 :: .int (zI z51) :: .int (zI z52) :: .int (zI z53) :: .int (zI sb) :: .ref 118 :: .ref 119 :: .ref 120 :: .ref 121 :: .ref 122 :: .ref 123 :: .ref 124 :: .ref 125 :: .ref 126 :: .ref 127 :: .ref 128 :: .ref 129 :: .int (zI mfu) :: .ref 130 :: .ref 131 :: .ref 132 :: .ref 133 :: .ref 134 :: .int (zI mdm) :: .int (zI mla) :: []))), (110, .inl (0, 8820, .inl (zA f54))), (111, .inl (0, 1260, .inl (zA f55))), (117, .inl (0, 7, .inl (zA f56))), (98, .inr (12, (.int (zI ms) :: .int (zI mv) :: .ref 99 :: .ref 100 :: .ref 101 :: .ref 102 :: .ref 103 :: .ref 104 :: .ref 105 :: .int (zI mt) :: .int (zI mfa) :: .ref 106 :: .ref 107 :: .ref 108 :: .int (zI mtn) :: .int (zI mtk) :: .int (zI mlv) :: .int (zI mbd) :: .int (zI mgo) :: .int (zI mge) :: .int (zI mbk) :: .ref 109 :: .int (zI mtt) :: .int (zI mtl) :: .ref 110 :: .ref 111 :: .ref 112 :: .ref 113 :: .ref 114 :: .ref 115 :: .ref 116 :: .ref 117 :: .int (zI z1) :: .int (zI z2) :: .int (zI z3) :: .int (zI sb) :: .ref 118 :: .ref 119 :: .ref 120 :: .ref 121 :: .ref 122 :: .ref 123 :: .ref 124 :: .ref 125 :: .ref 126 :: .ref 127 :: .ref 128 :: .ref 129 :: .int (zI mfu) :: .ref 130 :: .ref 131 :: .ref 132 :: .ref 133 :: .ref 134 :: .int (zI mdm) :: .int (zI mla) :: []))), (110, .inl (0, 8820, .inl (zA f4))), (111, .inl (0, 1260, .inl (zA f5))), (117, .inl (0, 7, .inl (zA f6)))]) rfl ?_
      refine J_mask (L2 := [(98, .inr (12, (.int (zI ms) :: .int (zI mv) :: .ref 99 :: .ref 100 :: .ref 101 :: .ref 102 :: .ref 103 :: .ref 104 :: .ref 105 :: .int (zI mt) :: .int (zI mfa) :: .ref 106 :: .ref 107 :: .ref 108 :: .int (zI mtn) :: .int (zI mtk) :: .int (zI mlv) :: .int (zI mbd) :: .int (zI mgo) :: .int (zI mge) :: .int (zI mbk) :: .ref 109 :: .int (zI mtt) :: .int (zI mtl) :: .ref 110 :: .ref 111 :: .ref 112 :: .ref 113 :: .ref 114 :: .ref 115 :: .ref 116 :: .ref 117 :: .int (zI z51) :: .int (zI z52) :: .int (zI z53) :: .int (zI sb) :: .ref 118 :: .ref 119 :: .ref 120 :: .ref 121 :: .ref 122 :: .ref 123 :: .ref 124 :: .ref 125 :: .ref 126 :: .ref 127 :: .ref 128 :: .ref 129 :: .int (zI mfu) :: .ref 130 :: .ref 131 :: .ref 132 :: .ref 133 :: .ref 134 :: .int (zI mdm) :: .int (zI mla) :: []))), (110, .inl (0, 8820, .inl (zA f54))), (111, .inl (0, 1260, .inl (zA f55))), (117, .inl (0, 7, .inl (zA f56)))]) (ks := [98, 110, 111, 117, 98, 110, 111, 117]) [true, true, true, true, false, false, false, false] rfl (by decide +kernel) rfl ?_
      refine Z_if_eq (tgt := 21) dX12_parted_13 (by decide) v_4dcc24baa7 (fun h100 => absurd h100 v_3a47bfd896) (fun h100 => ?_)
      refine J_iload_n dX12_parted_16 rfl rfl ?_
      refine J_iload_n dX12_parted_17 rfl rfl ?_
      refine Z_icmp_ne (tgt := 23) dX12_parted_18 (by decide) (v_e33502de53 q0 h16) (v_e33502de53 q1 h66) (fun h101 => ?_) (fun h101 => ?_)
      · refine J_aload_n dX12_parted_23 rfl rfl ?_
        refine J_callV (st := []) dX12_parted_24 cv_X12_328 (k_looks ms mv mt mfa mtn mtk mlv mbd mgo mge mbk mtt mtl z51 z52 z53 sb mfu mdm mla K f54 f55 f56 st tk sm cf cm aq q2 h60 (v_621074fb26 q5 h65) q5 (fun _ => ⟨h59, h57, h58⟩) q7 q8 (v_94d6d099ed h65) q10 q11 q12 q13 rfl hk100 rfl rfl rfl hk112 hk113 hk114 hk115 hk116 hk109) rfl rfl rfl (Nat.le_of_ble_eq_true rfl) ⟨(Nat.le_of_ble_eq_true rfl), (Nat.le_of_ble_eq_true rfl)⟩ ⟨(Nat.le_of_ble_eq_true rfl), (Nat.le_of_ble_eq_true rfl)⟩ (fun r h9 hp => ?_)
        obtain ⟨z102, z103, z104, f105, f106, f107, z108, f109, f110, f111, f112, f113, f114, z115, z116, z117, z118, z119, rfl, rfl, h120, h121, h122, h123, h124, h125, h126, h127, h128, h129, h130, h131, h132, h133, h134⟩ := hp
        refine J_nf (nh2 := nh) (ck2 := 0) (sk2 := 0) (st2 := []) rfl rfl rfl rfl ?_
        refine J_app (L3 := [(98, .inr (12, (.int (zI ms) :: .int (zI mv) :: .ref 99 :: .ref 100 :: .ref 101 :: .ref 102 :: .ref 103 :: .ref 104 :: .ref 105 :: .int (zI mt) :: .int (zI mfa) :: .ref 106 :: .ref 107 :: .ref 108 :: .int (zI mtn) :: .int (zI mtk) :: .int (zI mlv) :: .int (zI mbd) :: .int (zI z115) :: .int (zI z116) :: .int (zI z117) :: .ref 109 :: .int (zI z118) :: .int (zI z119) :: .ref 110 :: .ref 111 :: .ref 112 :: .ref 113 :: .ref 114 :: .ref 115 :: .ref 116 :: .ref 117 :: .int (zI z102) :: .int (zI z103) :: .int (zI z104) :: .int (zI z108) :: .ref 118 :: .ref 119 :: .ref 120 :: .ref 121 :: .ref 122 :: .ref 123 :: .ref 124 :: .ref 125 :: .ref 126 :: .ref 127 :: .ref 128 :: .ref 129 :: .int (zI mfu) :: .ref 130 :: .ref 131 :: .ref 132 :: .ref 133 :: .ref 134 :: .int (zI mdm) :: .int (zI mla) :: []))), (110, .inl (0, 8820, .inl (zA f105))), (111, .inl (0, 1260, .inl (zA f106))), (117, .inl (0, 7, .inl (zA f107))), (112, .inl (0, 27720, .inl (zA f109))), (113, .inl (0, 27720, .inl (zA f110))), (114, .inl (0, 1260, .inl (zA f111))), (115, .inl (0, 27720, .inl (zA f112))), (116, .inl (0, 1260, .inl (zA f113))), (109, .inl (0, 8, .inl (zA f114))), (98, .inr (12, (.int (zI ms) :: .int (zI mv) :: .ref 99 :: .ref 100 :: .ref 101 :: .ref 102 :: .ref 103 :: .ref 104 :: .ref 105 :: .int (zI mt) :: .int (zI mfa) :: .ref 106 :: .ref 107 :: .ref 108 :: .int (zI mtn) :: .int (zI mtk) :: .int (zI mlv) :: .int (zI mbd) :: .int (zI mgo) :: .int (zI mge) :: .int (zI mbk) :: .ref 109 :: .int (zI mtt) :: .int (zI mtl) :: .ref 110 :: .ref 111 :: .ref 112 :: .ref 113 :: .ref 114 :: .ref 115 :: .ref 116 :: .ref 117 :: .int (zI z51) :: .int (zI z52) :: .int (zI z53) :: .int (zI sb) :: .ref 118 :: .ref 119 :: .ref 120 :: .ref 121 :: .ref 122 :: .ref 123 :: .ref 124 :: .ref 125 :: .ref 126 :: .ref 127 :: .ref 128 :: .ref 129 :: .int (zI mfu) :: .ref 130 :: .ref 131 :: .ref 132 :: .ref 133 :: .ref 134 :: .int (zI mdm) :: .int (zI mla) :: []))), (110, .inl (0, 8820, .inl (zA f54))), (111, .inl (0, 1260, .inl (zA f55))), (117, .inl (0, 7, .inl (zA f56)))]) rfl ?_
        refine J_mask (L2 := [(98, .inr (12, (.int (zI ms) :: .int (zI mv) :: .ref 99 :: .ref 100 :: .ref 101 :: .ref 102 :: .ref 103 :: .ref 104 :: .ref 105 :: .int (zI mt) :: .int (zI mfa) :: .ref 106 :: .ref 107 :: .ref 108 :: .int (zI mtn) :: .int (zI mtk) :: .int (zI mlv) :: .int (zI mbd) :: .int (zI z115) :: .int (zI z116) :: .int (zI z117) :: .ref 109 :: .int (zI z118) :: .int (zI z119) :: .ref 110 :: .ref 111 :: .ref 112 :: .ref 113 :: .ref 114 :: .ref 115 :: .ref 116 :: .ref 117 :: .int (zI z102) :: .int (zI z103) :: .int (zI z104) :: .int (zI z108) :: .ref 118 :: .ref 119 :: .ref 120 :: .ref 121 :: .ref 122 :: .ref 123 :: .ref 124 :: .ref 125 :: .ref 126 :: .ref 127 :: .ref 128 :: .ref 129 :: .int (zI mfu) :: .ref 130 :: .ref 131 :: .ref 132 :: .ref 133 :: .ref 134 :: .int (zI mdm) :: .int (zI mla) :: []))), (110, .inl (0, 8820, .inl (zA f105))), (111, .inl (0, 1260, .inl (zA f106))), (117, .inl (0, 7, .inl (zA f107))), (112, .inl (0, 27720, .inl (zA f109))), (113, .inl (0, 27720, .inl (zA f110))), (114, .inl (0, 1260, .inl (zA f111))), (115, .inl (0, 27720, .inl (zA f112))), (116, .inl (0, 1260, .inl (zA f113))), (109, .inl (0, 8, .inl (zA f114)))]) (ks := [98, 110, 111, 117, 112, 113, 114, 115, 116, 109, 98, 110, 111, 117]) [true, true, true, true, true, true, true, true, true, true, false, false, false, false] rfl (by decide +kernel) rfl ?_
        refine Z_iconst (n := 0) dX12_parted_27 ?_
        refine J_istore_n dX12_parted_28 rfl (Nat.le_of_ble_eq_true rfl) rfl ?_
        refine J_ls (ls2 := [some (.ref 98), some (.int (zI x)), some (.int (zI y)), some (.int (zI 0))]) rfl ?_
        refine J_touch (k := 124) (e := .inl (2, 27720, .inl (zA us))) hk124 ?_
        have lp29 : ∀ (N29 : Nat) (k_29 : Int) (u_29 : Int → Int), (0 ≤ k_29) → (k_29 ≤ 27720) → (u_29 = fillf us 0 k_29 0) → (Rg u_29 27720 0 1) → (27720 - k_29).toNat < N29 → J l G MX12_parted { frames := 43, cells := 0, slots := 0, locals := 1018 } jE (jMQ G { frames := 43, cells := 0, slots := 0, locals := 1018 } (fun rr h9 => ∃ r : Int, ∃ hm2 : Int, ∃ pm2 : Int, ∃ hb2 : Int, ∃ co2 : Int → Int, ∃ cd2 : Int → Int, ∃ of2 : Int → Int, ∃ sb2 : Int, ∃ st2 : Int → Int, ∃ tk2 : Int → Int, ∃ sm2 : Int → Int, ∃ cf2 : Int → Int, ∃ cm2 : Int → Int, ∃ aq2 : Int → Int, ∃ go2 : Int, ∃ ge2 : Int, ∃ bk2 : Int, ∃ tt2 : Int, ∃ tl2 : Int, ∃ li2 : Int → Int, ∃ us2 : Int → Int, ∃ wf2 : Int → Int, ∃ wb2 : Int → Int, rr = some (.int (zI r)) ∧ h9 = (nh, hc fh [(98, .inr (12, (.int (zI ms) :: .int (zI mv) :: .ref 99 :: .ref 100 :: .ref 101 :: .ref 102 :: .ref 103 :: .ref 104 :: .ref 105 :: .int (zI mt) :: .int (zI mfa) :: .ref 106 :: .ref 107 :: .ref 108 :: .int (zI mtn) :: .int (zI mtk) :: .int (zI mlv) :: .int (zI mbd) :: .int (zI go2) :: .int (zI ge2) :: .int (zI bk2) :: .ref 109 :: .int (zI tt2) :: .int (zI tl2) :: .ref 110 :: .ref 111 :: .ref 112 :: .ref 113 :: .ref 114 :: .ref 115 :: .ref 116 :: .ref 117 :: .int (zI hm2) :: .int (zI pm2) :: .int (zI hb2) :: .int (zI sb2) :: .ref 118 :: .ref 119 :: .ref 120 :: .ref 121 :: .ref 122 :: .ref 123 :: .ref 124 :: .ref 125 :: .ref 126 :: .ref 127 :: .ref 128 :: .ref 129 :: .int (zI mfu) :: .ref 130 :: .ref 131 :: .ref 132 :: .ref 133 :: .ref 134 :: .int (zI mdm) :: .int (zI mla) :: []))), (110, .inl (0, 8820, .inl (zA co2))), (111, .inl (0, 1260, .inl (zA cd2))), (117, .inl (0, 7, .inl (zA of2))), (112, .inl (0, 27720, .inl (zA st2))), (113, .inl (0, 27720, .inl (zA tk2))), (114, .inl (0, 1260, .inl (zA sm2))), (115, .inl (0, 27720, .inl (zA cf2))), (116, .inl (0, 1260, .inl (zA cm2))), (109, .inl (0, 8, .inl (zA aq2))), (120, .inl (0, 1260, .inl (zA li2))), (124, .inl (2, 27720, .inl (zA us2))), (125, .inl (0, 1260, .inl (zA wf2))), (126, .inl (0, 1260, .inl (zA wb2)))]) ∧ (Rg of2 7 0 4) ∧ (zr hb2) ∧ (hb2 = mv → HouT co2 cd2 K hm2 ∧ hm2 = Hi K ∧ pm2 = bsum K) ∧ (zr sb2) ∧ (sb2 = mv → StM st2 tk2 sm2 (Hi K) ∧ CoM cf2 cm2 st2 sm2 (Hi K)) ∧ (hb2 ≤ mv) ∧ (sb2 ≤ mv) ∧ (0 ≤ bk2) ∧ (bk2 ≤ 1) ∧ (Rg aq2 8 (-2147483648) 2147483647) ∧ (Rg us2 27720 0 1) ∧ (Rg wb2 1260 0 1))) (nh, hc fh [(124, .inl (2, 27720, .inl (zA u_29))), (98, .inr (12, (.int (zI ms) :: .int (zI mv) :: .ref 99 :: .ref 100 :: .ref 101 :: .ref 102 :: .ref 103 :: .ref 104 :: .ref 105 :: .int (zI mt) :: .int (zI mfa) :: .ref 106 :: .ref 107 :: .ref 108 :: .int (zI mtn) :: .int (zI mtk) :: .int (zI mlv) :: .int (zI mbd) :: .int (zI z115) :: .int (zI z116) :: .int (zI z117) :: .ref 109 :: .int (zI z118) :: .int (zI z119) :: .ref 110 :: .ref 111 :: .ref 112 :: .ref 113 :: .ref 114 :: .ref 115 :: .ref 116 :: .ref 117 :: .int (zI z102) :: .int (zI z103) :: .int (zI z104) :: .int (zI z108) :: .ref 118 :: .ref 119 :: .ref 120 :: .ref 121 :: .ref 122 :: .ref 123 :: .ref 124 :: .ref 125 :: .ref 126 :: .ref 127 :: .ref 128 :: .ref 129 :: .int (zI mfu) :: .ref 130 :: .ref 131 :: .ref 132 :: .ref 133 :: .ref 134 :: .int (zI mdm) :: .int (zI mla) :: []))), (110, .inl (0, 8820, .inl (zA f105))), (111, .inl (0, 1260, .inl (zA f106))), (117, .inl (0, 7, .inl (zA f107))), (112, .inl (0, 27720, .inl (zA f109))), (113, .inl (0, 27720, .inl (zA f110))), (114, .inl (0, 1260, .inl (zA f111))), (115, .inl (0, 27720, .inl (zA f112))), (116, .inl (0, 1260, .inl (zA f113))), (109, .inl (0, 8, .inl (zA f114)))]) 0 0 29 [some (.ref 98), some (.int (zI x)), some (.int (zI y)), some (.int (zI k_29))] [] := by
          intro N29
          induction N29 with
          | zero => intro k_29 u_29 i29_0 i29_1 i29_2 i29_3 hm; exact absurd hm (Nat.not_lt_zero _)
          | succ N29 ih29 =>
            intro k_29 u_29 i29_0 i29_1 i29_2 i29_3 hm29
            refine J_iload_n dX12_parted_29 rfl rfl ?_
            refine Z_sipush (n := 27720) dX12_parted_30 (by decide +kernel) ?_
            refine Z_icmp_ge (tgt := 49) dX12_parted_33 (by decide) (v_e4a44298bf i29_0 i29_1) v_432aa4f56c (fun h135 => ?_) (fun h135 => ?_)
            · refine Z_iconst (n := 0) dX12_parted_49 ?_
              refine J_istore_n dX12_parted_50 rfl (Nat.le_of_ble_eq_true rfl) rfl ?_
              refine J_ls (ls2 := [some (.ref 98), some (.int (zI x)), some (.int (zI y)), some (.int (zI 0))]) rfl ?_
              refine J_touch (k := 120) (e := .inl (0, 1260, .inl (zA li))) hk120 ?_
              refine J_touch (k := 125) (e := .inl (0, 1260, .inl (zA wf))) hk125 ?_
              refine J_touch (k := 126) (e := .inl (0, 1260, .inl (zA wb))) hk126 ?_
              have lp51 : ∀ (N51 : Nat) (n_51 : Int) (lx_51 : Int → Int) (u_51 : Int → Int) (fx_51 : Int → Int) (bx_51 : Int → Int), (0 ≤ n_51) → (n_51 ≤ 22) → (cU u_51 x = n_51) → (Rg u_51 27720 0 1) → (Nin f109 f111 u_51 x z102) → (Rg bx_51 1260 0 1) → (23 - n_51).toNat < N51 → J l G MX12_parted { frames := 43, cells := 0, slots := 0, locals := 1018 } jE (jMQ G { frames := 43, cells := 0, slots := 0, locals := 1018 } (fun rr h9 => ∃ r : Int, ∃ hm2 : Int, ∃ pm2 : Int, ∃ hb2 : Int, ∃ co2 : Int → Int, ∃ cd2 : Int → Int, ∃ of2 : Int → Int, ∃ sb2 : Int, ∃ st2 : Int → Int, ∃ tk2 : Int → Int, ∃ sm2 : Int → Int, ∃ cf2 : Int → Int, ∃ cm2 : Int → Int, ∃ aq2 : Int → Int, ∃ go2 : Int, ∃ ge2 : Int, ∃ bk2 : Int, ∃ tt2 : Int, ∃ tl2 : Int, ∃ li2 : Int → Int, ∃ us2 : Int → Int, ∃ wf2 : Int → Int, ∃ wb2 : Int → Int, rr = some (.int (zI r)) ∧ h9 = (nh, hc fh [(98, .inr (12, (.int (zI ms) :: .int (zI mv) :: .ref 99 :: .ref 100 :: .ref 101 :: .ref 102 :: .ref 103 :: .ref 104 :: .ref 105 :: .int (zI mt) :: .int (zI mfa) :: .ref 106 :: .ref 107 :: .ref 108 :: .int (zI mtn) :: .int (zI mtk) :: .int (zI mlv) :: .int (zI mbd) :: .int (zI go2) :: .int (zI ge2) :: .int (zI bk2) :: .ref 109 :: .int (zI tt2) :: .int (zI tl2) :: .ref 110 :: .ref 111 :: .ref 112 :: .ref 113 :: .ref 114 :: .ref 115 :: .ref 116 :: .ref 117 :: .int (zI hm2) :: .int (zI pm2) :: .int (zI hb2) :: .int (zI sb2) :: .ref 118 :: .ref 119 :: .ref 120 :: .ref 121 :: .ref 122 :: .ref 123 :: .ref 124 :: .ref 125 :: .ref 126 :: .ref 127 :: .ref 128 :: .ref 129 :: .int (zI mfu) :: .ref 130 :: .ref 131 :: .ref 132 :: .ref 133 :: .ref 134 :: .int (zI mdm) :: .int (zI mla) :: []))), (110, .inl (0, 8820, .inl (zA co2))), (111, .inl (0, 1260, .inl (zA cd2))), (117, .inl (0, 7, .inl (zA of2))), (112, .inl (0, 27720, .inl (zA st2))), (113, .inl (0, 27720, .inl (zA tk2))), (114, .inl (0, 1260, .inl (zA sm2))), (115, .inl (0, 27720, .inl (zA cf2))), (116, .inl (0, 1260, .inl (zA cm2))), (109, .inl (0, 8, .inl (zA aq2))), (120, .inl (0, 1260, .inl (zA li2))), (124, .inl (2, 27720, .inl (zA us2))), (125, .inl (0, 1260, .inl (zA wf2))), (126, .inl (0, 1260, .inl (zA wb2)))]) ∧ (Rg of2 7 0 4) ∧ (zr hb2) ∧ (hb2 = mv → HouT co2 cd2 K hm2 ∧ hm2 = Hi K ∧ pm2 = bsum K) ∧ (zr sb2) ∧ (sb2 = mv → StM st2 tk2 sm2 (Hi K) ∧ CoM cf2 cm2 st2 sm2 (Hi K)) ∧ (hb2 ≤ mv) ∧ (sb2 ≤ mv) ∧ (0 ≤ bk2) ∧ (bk2 ≤ 1) ∧ (Rg aq2 8 (-2147483648) 2147483647) ∧ (Rg us2 27720 0 1) ∧ (Rg wb2 1260 0 1))) (nh, hc fh [(126, .inl (0, 1260, .inl (zA bx_51))), (125, .inl (0, 1260, .inl (zA fx_51))), (120, .inl (0, 1260, .inl (zA lx_51))), (124, .inl (2, 27720, .inl (zA u_51))), (98, .inr (12, (.int (zI ms) :: .int (zI mv) :: .ref 99 :: .ref 100 :: .ref 101 :: .ref 102 :: .ref 103 :: .ref 104 :: .ref 105 :: .int (zI mt) :: .int (zI mfa) :: .ref 106 :: .ref 107 :: .ref 108 :: .int (zI mtn) :: .int (zI mtk) :: .int (zI mlv) :: .int (zI mbd) :: .int (zI z115) :: .int (zI z116) :: .int (zI z117) :: .ref 109 :: .int (zI z118) :: .int (zI z119) :: .ref 110 :: .ref 111 :: .ref 112 :: .ref 113 :: .ref 114 :: .ref 115 :: .ref 116 :: .ref 117 :: .int (zI z102) :: .int (zI z103) :: .int (zI z104) :: .int (zI z108) :: .ref 118 :: .ref 119 :: .ref 120 :: .ref 121 :: .ref 122 :: .ref 123 :: .ref 124 :: .ref 125 :: .ref 126 :: .ref 127 :: .ref 128 :: .ref 129 :: .int (zI mfu) :: .ref 130 :: .ref 131 :: .ref 132 :: .ref 133 :: .ref 134 :: .int (zI mdm) :: .int (zI mla) :: []))), (110, .inl (0, 8820, .inl (zA f105))), (111, .inl (0, 1260, .inl (zA f106))), (117, .inl (0, 7, .inl (zA f107))), (112, .inl (0, 27720, .inl (zA f109))), (113, .inl (0, 27720, .inl (zA f110))), (114, .inl (0, 1260, .inl (zA f111))), (115, .inl (0, 27720, .inl (zA f112))), (116, .inl (0, 1260, .inl (zA f113))), (109, .inl (0, 8, .inl (zA f114)))]) 0 0 51 [some (.ref 98), some (.int (zI x)), some (.int (zI y)), some (.int (zI n_51))] [] := by
                intro N51
                induction N51 with
                | zero => intro n_51 lx_51 u_51 fx_51 bx_51 i51_0 i51_1 i51_2 i51_3 i51_4 i51_5 hm; exact absurd hm (Nat.not_lt_zero _)
                | succ N51 ih51 =>
                  intro n_51 lx_51 u_51 fx_51 bx_51 i51_0 i51_1 i51_2 i51_3 i51_4 i51_5 hm51
                  refine J_aload_n dX12_parted_51 rfl rfl ?_
                  refine J_iload_n dX12_parted_52 rfl rfl ?_
                  refine J_iload_n dX12_parted_53 rfl rfl ?_
                  refine J_callV (st := []) dX12_parted_54 cv_X12_343 (k_oneMore x y f109 f110 f111 f112 f113 lx_51 u_51 fx_51 bx_51 ms mv mt mfa mtn mtk mlv mbd z115 z116 z117 z118 z119 z102 z103 z104 z108 mfu mdm mla h16 (v_bf8317871f h7 h17 h120) h66 (v_bf8317871f h57 h67 h120) h101 h124 h125 h130 h131 i51_3 i51_4 i51_5 rfl rfl rfl rfl rfl rfl rfl rfl rfl rfl) rfl rfl rfl (Nat.le_of_ble_eq_true rfl) ⟨(Nat.le_of_ble_eq_true rfl), (Nat.le_of_ble_eq_true rfl)⟩ ⟨(Nat.le_of_ble_eq_true rfl), (Nat.le_of_ble_eq_true rfl)⟩ (fun r h9 hp => ?_)
                  rcases hp with ⟨f136, f137, f138, f139, rfl, rfl, h140, h141⟩ | ⟨f142, f143, f144, f145, rfl, rfl, h146, h147, h148, h149⟩
                  · refine J_nf (nh2 := nh) (ck2 := 0) (sk2 := 0) (st2 := [.int (zI 0)]) rfl rfl rfl rfl ?_
                    refine J_app (L3 := [(120, .inl (0, 1260, .inl (zA f136))), (124, .inl (2, 27720, .inl (zA f137))), (125, .inl (0, 1260, .inl (zA f138))), (126, .inl (0, 1260, .inl (zA f139))), (126, .inl (0, 1260, .inl (zA bx_51))), (125, .inl (0, 1260, .inl (zA fx_51))), (120, .inl (0, 1260, .inl (zA lx_51))), (124, .inl (2, 27720, .inl (zA u_51))), (98, .inr (12, (.int (zI ms) :: .int (zI mv) :: .ref 99 :: .ref 100 :: .ref 101 :: .ref 102 :: .ref 103 :: .ref 104 :: .ref 105 :: .int (zI mt) :: .int (zI mfa) :: .ref 106 :: .ref 107 :: .ref 108 :: .int (zI mtn) :: .int (zI mtk) :: .int (zI mlv) :: .int (zI mbd) :: .int (zI z115) :: .int (zI z116) :: .int (zI z117) :: .ref 109 :: .int (zI z118) :: .int (zI z119) :: .ref 110 :: .ref 111 :: .ref 112 :: .ref 113 :: .ref 114 :: .ref 115 :: .ref 116 :: .ref 117 :: .int (zI z102) :: .int (zI z103) :: .int (zI z104) :: .int (zI z108) :: .ref 118 :: .ref 119 :: .ref 120 :: .ref 121 :: .ref 122 :: .ref 123 :: .ref 124 :: .ref 125 :: .ref 126 :: .ref 127 :: .ref 128 :: .ref 129 :: .int (zI mfu) :: .ref 130 :: .ref 131 :: .ref 132 :: .ref 133 :: .ref 134 :: .int (zI mdm) :: .int (zI mla) :: []))), (110, .inl (0, 8820, .inl (zA f105))), (111, .inl (0, 1260, .inl (zA f106))), (117, .inl (0, 7, .inl (zA f107))), (112, .inl (0, 27720, .inl (zA f109))), (113, .inl (0, 27720, .inl (zA f110))), (114, .inl (0, 1260, .inl (zA f111))), (115, .inl (0, 27720, .inl (zA f112))), (116, .inl (0, 1260, .inl (zA f113))), (109, .inl (0, 8, .inl (zA f114)))]) rfl ?_
                    refine J_mask (L2 := [(120, .inl (0, 1260, .inl (zA f136))), (124, .inl (2, 27720, .inl (zA f137))), (125, .inl (0, 1260, .inl (zA f138))), (126, .inl (0, 1260, .inl (zA f139))), (98, .inr (12, (.int (zI ms) :: .int (zI mv) :: .ref 99 :: .ref 100 :: .ref 101 :: .ref 102 :: .ref 103 :: .ref 104 :: .ref 105 :: .int (zI mt) :: .int (zI mfa) :: .ref 106 :: .ref 107 :: .ref 108 :: .int (zI mtn) :: .int (zI mtk) :: .int (zI mlv) :: .int (zI mbd) :: .int (zI z115) :: .int (zI z116) :: .int (zI z117) :: .ref 109 :: .int (zI z118) :: .int (zI z119) :: .ref 110 :: .ref 111 :: .ref 112 :: .ref 113 :: .ref 114 :: .ref 115 :: .ref 116 :: .ref 117 :: .int (zI z102) :: .int (zI z103) :: .int (zI z104) :: .int (zI z108) :: .ref 118 :: .ref 119 :: .ref 120 :: .ref 121 :: .ref 122 :: .ref 123 :: .ref 124 :: .ref 125 :: .ref 126 :: .ref 127 :: .ref 128 :: .ref 129 :: .int (zI mfu) :: .ref 130 :: .ref 131 :: .ref 132 :: .ref 133 :: .ref 134 :: .int (zI mdm) :: .int (zI mla) :: []))), (110, .inl (0, 8820, .inl (zA f105))), (111, .inl (0, 1260, .inl (zA f106))), (117, .inl (0, 7, .inl (zA f107))), (112, .inl (0, 27720, .inl (zA f109))), (113, .inl (0, 27720, .inl (zA f110))), (114, .inl (0, 1260, .inl (zA f111))), (115, .inl (0, 27720, .inl (zA f112))), (116, .inl (0, 1260, .inl (zA f113))), (109, .inl (0, 8, .inl (zA f114)))]) (ks := [120, 124, 125, 126, 126, 125, 120, 124, 98, 110, 111, 117, 112, 113, 114, 115, 116, 109]) [true, true, true, true, false, false, false, false, true, true, true, true, true, true, true, true, true, true] rfl (by decide +kernel) rfl ?_
                    refine Z_if_eq (tgt := 66) dX12_parted_57 (by decide) v_b17331891f (fun h150 => ?_) (fun h150 => absurd h150 (fun q => q v_2ca2bbca1f))
                    refine J_iload_n dX12_parted_66 rfl rfl ?_
                    refine J_touch (k := 126) (e := .inl (0, 1260, .inl (zA f139))) rfl ?_
                    refine J_touch (k := 125) (e := .inl (0, 1260, .inl (zA f138))) rfl ?_
                    refine J_touch (k := 124) (e := .inl (2, 27720, .inl (zA f137))) rfl ?_
                    refine J_touch (k := 120) (e := .inl (0, 1260, .inl (zA f136))) rfl ?_
                    refine J_touch (k := 109) (e := .inl (0, 8, .inl (zA f114))) rfl ?_
                    refine J_touch (k := 116) (e := .inl (0, 1260, .inl (zA f113))) rfl ?_
                    refine J_touch (k := 115) (e := .inl (0, 27720, .inl (zA f112))) rfl ?_
                    refine J_touch (k := 114) (e := .inl (0, 1260, .inl (zA f111))) rfl ?_
                    refine J_touch (k := 113) (e := .inl (0, 27720, .inl (zA f110))) rfl ?_
                    refine J_touch (k := 112) (e := .inl (0, 27720, .inl (zA f109))) rfl ?_
                    refine J_touch (k := 117) (e := .inl (0, 7, .inl (zA f107))) rfl ?_
                    refine J_touch (k := 111) (e := .inl (0, 1260, .inl (zA f106))) rfl ?_
                    refine J_touch (k := 110) (e := .inl (0, 8820, .inl (zA f105))) rfl ?_
                    refine J_touch (k := 98) (e := .inr (12, (.int (zI ms) :: .int (zI mv) :: .ref 99 :: .ref 100 :: .ref 101 :: .ref 102 :: .ref 103 :: .ref 104 :: .ref 105 :: .int (zI mt) :: .int (zI mfa) :: .ref 106 :: .ref 107 :: .ref 108 :: .int (zI mtn) :: .int (zI mtk) :: .int (zI mlv) :: .int (zI mbd) :: .int (zI z115) :: .int (zI z116) :: .int (zI z117) :: .ref 109 :: .int (zI z118) :: .int (zI z119) :: .ref 110 :: .ref 111 :: .ref 112 :: .ref 113 :: .ref 114 :: .ref 115 :: .ref 116 :: .ref 117 :: .int (zI z102) :: .int (zI z103) :: .int (zI z104) :: .int (zI z108) :: .ref 118 :: .ref 119 :: .ref 120 :: .ref 121 :: .ref 122 :: .ref 123 :: .ref 124 :: .ref 125 :: .ref 126 :: .ref 127 :: .ref 128 :: .ref 129 :: .int (zI mfu) :: .ref 130 :: .ref 131 :: .ref 132 :: .ref 133 :: .ref 134 :: .int (zI mdm) :: .int (zI mla) :: []))) rfl ?_
                    refine J_mask (L2 := [(98, .inr (12, (.int (zI ms) :: .int (zI mv) :: .ref 99 :: .ref 100 :: .ref 101 :: .ref 102 :: .ref 103 :: .ref 104 :: .ref 105 :: .int (zI mt) :: .int (zI mfa) :: .ref 106 :: .ref 107 :: .ref 108 :: .int (zI mtn) :: .int (zI mtk) :: .int (zI mlv) :: .int (zI mbd) :: .int (zI z115) :: .int (zI z116) :: .int (zI z117) :: .ref 109 :: .int (zI z118) :: .int (zI z119) :: .ref 110 :: .ref 111 :: .ref 112 :: .ref 113 :: .ref 114 :: .ref 115 :: .ref 116 :: .ref 117 :: .int (zI z102) :: .int (zI z103) :: .int (zI z104) :: .int (zI z108) :: .ref 118 :: .ref 119 :: .ref 120 :: .ref 121 :: .ref 122 :: .ref 123 :: .ref 124 :: .ref 125 :: .ref 126 :: .ref 127 :: .ref 128 :: .ref 129 :: .int (zI mfu) :: .ref 130 :: .ref 131 :: .ref 132 :: .ref 133 :: .ref 134 :: .int (zI mdm) :: .int (zI mla) :: []))), (110, .inl (0, 8820, .inl (zA f105))), (111, .inl (0, 1260, .inl (zA f106))), (117, .inl (0, 7, .inl (zA f107))), (112, .inl (0, 27720, .inl (zA f109))), (113, .inl (0, 27720, .inl (zA f110))), (114, .inl (0, 1260, .inl (zA f111))), (115, .inl (0, 27720, .inl (zA f112))), (116, .inl (0, 1260, .inl (zA f113))), (109, .inl (0, 8, .inl (zA f114))), (120, .inl (0, 1260, .inl (zA f136))), (124, .inl (2, 27720, .inl (zA f137))), (125, .inl (0, 1260, .inl (zA f138))), (126, .inl (0, 1260, .inl (zA f139)))]) (ks := [98, 110, 111, 117, 112, 113, 114, 115, 116, 109, 120, 124, 125, 126, 120, 124, 125, 126, 98, 110, 111, 117, 112, 113, 114, 115, 116, 109]) [true, true, true, true, true, true, true, true, true, true, true, true, true, true, false, false, false, false, false, false, false, false, false, false, false, false, false, false] rfl (by decide +kernel) rfl ?_
                    exact J_iret dX12_parted_67 rfl rfl (Nat.le_of_ble_eq_true rfl) (Nat.le_of_ble_eq_true rfl) ⟨n_51, z102, z103, z104, f105, f106, f107, z108, f109, f110, f111, f112, f113, f114, z115, z116, z117, z118, z119, f136, f137, f138, f139, rfl, rfl, h123, (v_621074fb26 q5 h128), (fun _ => ⟨h122, h120, h121⟩), (v_621074fb26 q5 h129), (fun _ => by rw [← h120]; exact ⟨h130, h131⟩), (v_94d6d099ed h128), (v_94d6d099ed h129), h132, h133, h134, h140, h141⟩
                  · refine J_nf (nh2 := nh) (ck2 := 0) (sk2 := 0) (st2 := [.int (zI 1)]) rfl rfl rfl rfl ?_
                    refine J_app (L3 := [(120, .inl (0, 1260, .inl (zA f142))), (124, .inl (2, 27720, .inl (zA f143))), (125, .inl (0, 1260, .inl (zA f144))), (126, .inl (0, 1260, .inl (zA f145))), (126, .inl (0, 1260, .inl (zA bx_51))), (125, .inl (0, 1260, .inl (zA fx_51))), (120, .inl (0, 1260, .inl (zA lx_51))), (124, .inl (2, 27720, .inl (zA u_51))), (98, .inr (12, (.int (zI ms) :: .int (zI mv) :: .ref 99 :: .ref 100 :: .ref 101 :: .ref 102 :: .ref 103 :: .ref 104 :: .ref 105 :: .int (zI mt) :: .int (zI mfa) :: .ref 106 :: .ref 107 :: .ref 108 :: .int (zI mtn) :: .int (zI mtk) :: .int (zI mlv) :: .int (zI mbd) :: .int (zI z115) :: .int (zI z116) :: .int (zI z117) :: .ref 109 :: .int (zI z118) :: .int (zI z119) :: .ref 110 :: .ref 111 :: .ref 112 :: .ref 113 :: .ref 114 :: .ref 115 :: .ref 116 :: .ref 117 :: .int (zI z102) :: .int (zI z103) :: .int (zI z104) :: .int (zI z108) :: .ref 118 :: .ref 119 :: .ref 120 :: .ref 121 :: .ref 122 :: .ref 123 :: .ref 124 :: .ref 125 :: .ref 126 :: .ref 127 :: .ref 128 :: .ref 129 :: .int (zI mfu) :: .ref 130 :: .ref 131 :: .ref 132 :: .ref 133 :: .ref 134 :: .int (zI mdm) :: .int (zI mla) :: []))), (110, .inl (0, 8820, .inl (zA f105))), (111, .inl (0, 1260, .inl (zA f106))), (117, .inl (0, 7, .inl (zA f107))), (112, .inl (0, 27720, .inl (zA f109))), (113, .inl (0, 27720, .inl (zA f110))), (114, .inl (0, 1260, .inl (zA f111))), (115, .inl (0, 27720, .inl (zA f112))), (116, .inl (0, 1260, .inl (zA f113))), (109, .inl (0, 8, .inl (zA f114)))]) rfl ?_
                    refine J_mask (L2 := [(120, .inl (0, 1260, .inl (zA f142))), (124, .inl (2, 27720, .inl (zA f143))), (125, .inl (0, 1260, .inl (zA f144))), (126, .inl (0, 1260, .inl (zA f145))), (98, .inr (12, (.int (zI ms) :: .int (zI mv) :: .ref 99 :: .ref 100 :: .ref 101 :: .ref 102 :: .ref 103 :: .ref 104 :: .ref 105 :: .int (zI mt) :: .int (zI mfa) :: .ref 106 :: .ref 107 :: .ref 108 :: .int (zI mtn) :: .int (zI mtk) :: .int (zI mlv) :: .int (zI mbd) :: .int (zI z115) :: .int (zI z116) :: .int (zI z117) :: .ref 109 :: .int (zI z118) :: .int (zI z119) :: .ref 110 :: .ref 111 :: .ref 112 :: .ref 113 :: .ref 114 :: .ref 115 :: .ref 116 :: .ref 117 :: .int (zI z102) :: .int (zI z103) :: .int (zI z104) :: .int (zI z108) :: .ref 118 :: .ref 119 :: .ref 120 :: .ref 121 :: .ref 122 :: .ref 123 :: .ref 124 :: .ref 125 :: .ref 126 :: .ref 127 :: .ref 128 :: .ref 129 :: .int (zI mfu) :: .ref 130 :: .ref 131 :: .ref 132 :: .ref 133 :: .ref 134 :: .int (zI mdm) :: .int (zI mla) :: []))), (110, .inl (0, 8820, .inl (zA f105))), (111, .inl (0, 1260, .inl (zA f106))), (117, .inl (0, 7, .inl (zA f107))), (112, .inl (0, 27720, .inl (zA f109))), (113, .inl (0, 27720, .inl (zA f110))), (114, .inl (0, 1260, .inl (zA f111))), (115, .inl (0, 27720, .inl (zA f112))), (116, .inl (0, 1260, .inl (zA f113))), (109, .inl (0, 8, .inl (zA f114)))]) (ks := [120, 124, 125, 126, 126, 125, 120, 124, 98, 110, 111, 117, 112, 113, 114, 115, 116, 109]) [true, true, true, true, false, false, false, false, true, true, true, true, true, true, true, true, true, true] rfl (by decide +kernel) rfl ?_
                    refine Z_if_eq (tgt := 66) dX12_parted_57 (by decide) v_4dcc24baa7 (fun h151 => absurd h151 v_3a47bfd896) (fun h151 => ?_)
                    refine Z_iinc (c := n_51 + 1) (ls2 := [some (.ref 98), some (.int (zI x)), some (.int (zI y)), some (.int (zI (n_51 + 1)))]) dX12_parted_60 rfl (Nat.le_of_ble_eq_true rfl) rfl rfl rfl ?_
                    refine J_goto (tgt := 51) dX12_parted_63 (by decide) ?_
                    refine J_touch (k := 109) (e := .inl (0, 8, .inl (zA f114))) rfl ?_
                    refine J_touch (k := 116) (e := .inl (0, 1260, .inl (zA f113))) rfl ?_
                    refine J_touch (k := 115) (e := .inl (0, 27720, .inl (zA f112))) rfl ?_
                    refine J_touch (k := 114) (e := .inl (0, 1260, .inl (zA f111))) rfl ?_
                    refine J_touch (k := 113) (e := .inl (0, 27720, .inl (zA f110))) rfl ?_
                    refine J_touch (k := 112) (e := .inl (0, 27720, .inl (zA f109))) rfl ?_
                    refine J_touch (k := 117) (e := .inl (0, 7, .inl (zA f107))) rfl ?_
                    refine J_touch (k := 111) (e := .inl (0, 1260, .inl (zA f106))) rfl ?_
                    refine J_touch (k := 110) (e := .inl (0, 8820, .inl (zA f105))) rfl ?_
                    refine J_touch (k := 98) (e := .inr (12, (.int (zI ms) :: .int (zI mv) :: .ref 99 :: .ref 100 :: .ref 101 :: .ref 102 :: .ref 103 :: .ref 104 :: .ref 105 :: .int (zI mt) :: .int (zI mfa) :: .ref 106 :: .ref 107 :: .ref 108 :: .int (zI mtn) :: .int (zI mtk) :: .int (zI mlv) :: .int (zI mbd) :: .int (zI z115) :: .int (zI z116) :: .int (zI z117) :: .ref 109 :: .int (zI z118) :: .int (zI z119) :: .ref 110 :: .ref 111 :: .ref 112 :: .ref 113 :: .ref 114 :: .ref 115 :: .ref 116 :: .ref 117 :: .int (zI z102) :: .int (zI z103) :: .int (zI z104) :: .int (zI z108) :: .ref 118 :: .ref 119 :: .ref 120 :: .ref 121 :: .ref 122 :: .ref 123 :: .ref 124 :: .ref 125 :: .ref 126 :: .ref 127 :: .ref 128 :: .ref 129 :: .int (zI mfu) :: .ref 130 :: .ref 131 :: .ref 132 :: .ref 133 :: .ref 134 :: .int (zI mdm) :: .int (zI mla) :: []))) rfl ?_
                    refine J_touch (k := 124) (e := .inl (2, 27720, .inl (zA f143))) rfl ?_
                    refine J_touch (k := 120) (e := .inl (0, 1260, .inl (zA f142))) rfl ?_
                    refine J_touch (k := 125) (e := .inl (0, 1260, .inl (zA f144))) rfl ?_
                    refine J_touch (k := 126) (e := .inl (0, 1260, .inl (zA f145))) rfl ?_
                    refine J_mask (L2 := [(126, .inl (0, 1260, .inl (zA f145))), (125, .inl (0, 1260, .inl (zA f144))), (120, .inl (0, 1260, .inl (zA f142))), (124, .inl (2, 27720, .inl (zA f143))), (98, .inr (12, (.int (zI ms) :: .int (zI mv) :: .ref 99 :: .ref 100 :: .ref 101 :: .ref 102 :: .ref 103 :: .ref 104 :: .ref 105 :: .int (zI mt) :: .int (zI mfa) :: .ref 106 :: .ref 107 :: .ref 108 :: .int (zI mtn) :: .int (zI mtk) :: .int (zI mlv) :: .int (zI mbd) :: .int (zI z115) :: .int (zI z116) :: .int (zI z117) :: .ref 109 :: .int (zI z118) :: .int (zI z119) :: .ref 110 :: .ref 111 :: .ref 112 :: .ref 113 :: .ref 114 :: .ref 115 :: .ref 116 :: .ref 117 :: .int (zI z102) :: .int (zI z103) :: .int (zI z104) :: .int (zI z108) :: .ref 118 :: .ref 119 :: .ref 120 :: .ref 121 :: .ref 122 :: .ref 123 :: .ref 124 :: .ref 125 :: .ref 126 :: .ref 127 :: .ref 128 :: .ref 129 :: .int (zI mfu) :: .ref 130 :: .ref 131 :: .ref 132 :: .ref 133 :: .ref 134 :: .int (zI mdm) :: .int (zI mla) :: []))), (110, .inl (0, 8820, .inl (zA f105))), (111, .inl (0, 1260, .inl (zA f106))), (117, .inl (0, 7, .inl (zA f107))), (112, .inl (0, 27720, .inl (zA f109))), (113, .inl (0, 27720, .inl (zA f110))), (114, .inl (0, 1260, .inl (zA f111))), (115, .inl (0, 27720, .inl (zA f112))), (116, .inl (0, 1260, .inl (zA f113))), (109, .inl (0, 8, .inl (zA f114)))]) (ks := [126, 125, 120, 124, 98, 110, 111, 117, 112, 113, 114, 115, 116, 109, 120, 124, 125, 126, 98, 110, 111, 117, 112, 113, 114, 115, 116, 109]) [true, true, true, true, true, true, true, true, true, true, true, true, true, true, false, false, false, false, false, false, false, false, false, false, false, false, false, false] rfl (by decide +kernel) rfl ?_
                    exact ih51 (n_51 + 1) f142 f143 f144 f145 (v_da458fa48a i51_0) (by have u := @cU_rng f143 x; have w := h148; have t := i51_2; omega) (by have w := h148; have t := i51_2; omega) h146 h147 h149 (meas_lt v_d059375ec5 (v_b1fef61bc0 i51_1) hm51)
              exact lp51 _ 0 li u_29 wf wb v_939070ca3f v_88d800e4db (by have e := (show u_29 = fillf us 0 27720 0 from by have e : k_29 = 27720 := (v_58e19e73e6 i29_1 h135); rw [← e]; exact i29_2); unfold cU cNe; rw [cNeN_zero _ (fun j a b => fill_at e (by have := (v_2b02420001 h16); omega) (by have := (v_1c8b2a3f47 h12 h17); omega))]; rfl) i29_3 (Nin_0 (show u_29 = fillf us 0 27720 0 from by have e : k_29 = 27720 := (v_58e19e73e6 i29_1 h135); rw [← e]; exact i29_2) (v_76edbadb48 h125) (fun h a b => (h130 h a b).2.1)) q15 (Nat.lt_succ_self _)
            · refine J_aload_n dX12_parted_36 rfl rfl ?_
              refine J_get (v := .ref 124) dX12_parted_37 fl_X12_104 rfl rfl ?_
              refine J_iload_n dX12_parted_40 rfl rfl ?_
              refine Z_iconst (n := 0) dX12_parted_41 ?_
              refine Y_zast (v := 0) 27720 dX12_parted_42 rfl rfl (by decide) (v_2b02420001 i29_0) (v_4518f72071 h135) v_939070ca3f v_316afd7d0b (fun f152 ef152 => ?_)
              have h153 : Rg f152 27720 0 1 := Rg.ups i29_3 ef152 v_939070ca3f v_316afd7d0b
              refine Z_iinc (c := k_29 + 1) (ls2 := [some (.ref 98), some (.int (zI x)), some (.int (zI y)), some (.int (zI (k_29 + 1)))]) dX12_parted_43 rfl (Nat.le_of_ble_eq_true rfl) rfl rfl rfl ?_
              refine J_goto (tgt := 29) dX12_parted_46 (by decide) ?_
              refine J_mask (L2 := [(124, .inl (2, 27720, .inl (zA f152))), (98, .inr (12, (.int (zI ms) :: .int (zI mv) :: .ref 99 :: .ref 100 :: .ref 101 :: .ref 102 :: .ref 103 :: .ref 104 :: .ref 105 :: .int (zI mt) :: .int (zI mfa) :: .ref 106 :: .ref 107 :: .ref 108 :: .int (zI mtn) :: .int (zI mtk) :: .int (zI mlv) :: .int (zI mbd) :: .int (zI z115) :: .int (zI z116) :: .int (zI z117) :: .ref 109 :: .int (zI z118) :: .int (zI z119) :: .ref 110 :: .ref 111 :: .ref 112 :: .ref 113 :: .ref 114 :: .ref 115 :: .ref 116 :: .ref 117 :: .int (zI z102) :: .int (zI z103) :: .int (zI z104) :: .int (zI z108) :: .ref 118 :: .ref 119 :: .ref 120 :: .ref 121 :: .ref 122 :: .ref 123 :: .ref 124 :: .ref 125 :: .ref 126 :: .ref 127 :: .ref 128 :: .ref 129 :: .int (zI mfu) :: .ref 130 :: .ref 131 :: .ref 132 :: .ref 133 :: .ref 134 :: .int (zI mdm) :: .int (zI mla) :: []))), (110, .inl (0, 8820, .inl (zA f105))), (111, .inl (0, 1260, .inl (zA f106))), (117, .inl (0, 7, .inl (zA f107))), (112, .inl (0, 27720, .inl (zA f109))), (113, .inl (0, 27720, .inl (zA f110))), (114, .inl (0, 1260, .inl (zA f111))), (115, .inl (0, 27720, .inl (zA f112))), (116, .inl (0, 1260, .inl (zA f113))), (109, .inl (0, 8, .inl (zA f114)))]) (ks := [124, 124, 98, 110, 111, 117, 112, 113, 114, 115, 116, 109]) [true, false, true, true, true, true, true, true, true, true, true, true] rfl (by decide +kernel) rfl ?_
              exact ih29 (k_29 + 1) f152 (v_da458fa48a i29_0) (v_449ef0cce5 h135) (fill_step i29_2 ef152 i29_0 rfl) h153 (meas_lt v_4ed8acca34 (v_883644a2f0 h135) hm29)
        exact lp29 _ 0 us v_939070ca3f v_8e36dc06aa (fill_0) q14 (Nat.lt_succ_self _)
      · refine Z_iconst (n := -1) dX12_parted_21 ?_
        refine J_touch (k := 126) (e := .inl (0, 1260, .inl (zA wb))) hk126 ?_
        refine J_touch (k := 125) (e := .inl (0, 1260, .inl (zA wf))) hk125 ?_
        refine J_touch (k := 124) (e := .inl (2, 27720, .inl (zA us))) hk124 ?_
        refine J_touch (k := 120) (e := .inl (0, 1260, .inl (zA li))) hk120 ?_
        refine J_touch (k := 109) (e := .inl (0, 8, .inl (zA aq))) hk109 ?_
        refine J_touch (k := 116) (e := .inl (0, 1260, .inl (zA cm))) hk116 ?_
        refine J_touch (k := 115) (e := .inl (0, 27720, .inl (zA cf))) hk115 ?_
        refine J_touch (k := 114) (e := .inl (0, 1260, .inl (zA sm))) hk114 ?_
        refine J_touch (k := 113) (e := .inl (0, 27720, .inl (zA tk))) hk113 ?_
        refine J_touch (k := 112) (e := .inl (0, 27720, .inl (zA st))) hk112 ?_
        refine J_touch (k := 117) (e := .inl (0, 7, .inl (zA f56))) rfl ?_
        refine J_touch (k := 111) (e := .inl (0, 1260, .inl (zA f55))) rfl ?_
        refine J_touch (k := 110) (e := .inl (0, 8820, .inl (zA f54))) rfl ?_
        refine J_touch (k := 98) (e := .inr (12, (.int (zI ms) :: .int (zI mv) :: .ref 99 :: .ref 100 :: .ref 101 :: .ref 102 :: .ref 103 :: .ref 104 :: .ref 105 :: .int (zI mt) :: .int (zI mfa) :: .ref 106 :: .ref 107 :: .ref 108 :: .int (zI mtn) :: .int (zI mtk) :: .int (zI mlv) :: .int (zI mbd) :: .int (zI mgo) :: .int (zI mge) :: .int (zI mbk) :: .ref 109 :: .int (zI mtt) :: .int (zI mtl) :: .ref 110 :: .ref 111 :: .ref 112 :: .ref 113 :: .ref 114 :: .ref 115 :: .ref 116 :: .ref 117 :: .int (zI z51) :: .int (zI z52) :: .int (zI z53) :: .int (zI sb) :: .ref 118 :: .ref 119 :: .ref 120 :: .ref 121 :: .ref 122 :: .ref 123 :: .ref 124 :: .ref 125 :: .ref 126 :: .ref 127 :: .ref 128 :: .ref 129 :: .int (zI mfu) :: .ref 130 :: .ref 131 :: .ref 132 :: .ref 133 :: .ref 134 :: .int (zI mdm) :: .int (zI mla) :: []))) rfl ?_
        refine J_mask (L2 := [(98, .inr (12, (.int (zI ms) :: .int (zI mv) :: .ref 99 :: .ref 100 :: .ref 101 :: .ref 102 :: .ref 103 :: .ref 104 :: .ref 105 :: .int (zI mt) :: .int (zI mfa) :: .ref 106 :: .ref 107 :: .ref 108 :: .int (zI mtn) :: .int (zI mtk) :: .int (zI mlv) :: .int (zI mbd) :: .int (zI mgo) :: .int (zI mge) :: .int (zI mbk) :: .ref 109 :: .int (zI mtt) :: .int (zI mtl) :: .ref 110 :: .ref 111 :: .ref 112 :: .ref 113 :: .ref 114 :: .ref 115 :: .ref 116 :: .ref 117 :: .int (zI z51) :: .int (zI z52) :: .int (zI z53) :: .int (zI sb) :: .ref 118 :: .ref 119 :: .ref 120 :: .ref 121 :: .ref 122 :: .ref 123 :: .ref 124 :: .ref 125 :: .ref 126 :: .ref 127 :: .ref 128 :: .ref 129 :: .int (zI mfu) :: .ref 130 :: .ref 131 :: .ref 132 :: .ref 133 :: .ref 134 :: .int (zI mdm) :: .int (zI mla) :: []))), (110, .inl (0, 8820, .inl (zA f54))), (111, .inl (0, 1260, .inl (zA f55))), (117, .inl (0, 7, .inl (zA f56))), (112, .inl (0, 27720, .inl (zA st))), (113, .inl (0, 27720, .inl (zA tk))), (114, .inl (0, 1260, .inl (zA sm))), (115, .inl (0, 27720, .inl (zA cf))), (116, .inl (0, 1260, .inl (zA cm))), (109, .inl (0, 8, .inl (zA aq))), (120, .inl (0, 1260, .inl (zA li))), (124, .inl (2, 27720, .inl (zA us))), (125, .inl (0, 1260, .inl (zA wf))), (126, .inl (0, 1260, .inl (zA wb)))]) (ks := [98, 110, 111, 117, 112, 113, 114, 115, 116, 109, 120, 124, 125, 126, 98, 110, 111, 117]) [true, true, true, true, true, true, true, true, true, true, true, true, true, true, false, false, false, false] rfl (by decide +kernel) rfl ?_
        exact J_iret dX12_parted_22 rfl rfl (Nat.le_of_ble_eq_true rfl) (Nat.le_of_ble_eq_true rfl) ⟨(-1), z51, z52, z53, f54, f55, f56, sb, st, tk, sm, cf, cm, aq, mgo, mge, mbk, mtt, mtl, li, us, wf, wb, rfl, rfl, h60, (v_621074fb26 q5 h65), (fun _ => ⟨h59, h57, h58⟩), q7, (q8), (v_94d6d099ed h65), q10, q11, q12, q13, q14, q15⟩
    · refine J_nf (nh2 := nh) (ck2 := 0) (sk2 := 0) (st2 := [.int (zI 0)]) rfl rfl rfl rfl ?_
      refine J_app (L3 := [(98, .inr (12, (.int (zI ms) :: .int (zI mv) :: .ref 99 :: .ref 100 :: .ref 101 :: .ref 102 :: .ref 103 :: .ref 104 :: .ref 105 :: .int (zI mt) :: .int (zI mfa) :: .ref 106 :: .ref 107 :: .ref 108 :: .int (zI mtn) :: .int (zI mtk) :: .int (zI mlv) :: .int (zI mbd) :: .int (zI mgo) :: .int (zI mge) :: .int (zI mbk) :: .ref 109 :: .int (zI mtt) :: .int (zI mtl) :: .ref 110 :: .ref 111 :: .ref 112 :: .ref 113 :: .ref 114 :: .ref 115 :: .ref 116 :: .ref 117 :: .int (zI z68) :: .int (zI z69) :: .int (zI z70) :: .int (zI sb) :: .ref 118 :: .ref 119 :: .ref 120 :: .ref 121 :: .ref 122 :: .ref 123 :: .ref 124 :: .ref 125 :: .ref 126 :: .ref 127 :: .ref 128 :: .ref 129 :: .int (zI mfu) :: .ref 130 :: .ref 131 :: .ref 132 :: .ref 133 :: .ref 134 :: .int (zI mdm) :: .int (zI mla) :: []))), (110, .inl (0, 8820, .inl (zA f71))), (111, .inl (0, 1260, .inl (zA f72))), (117, .inl (0, 7, .inl (zA f73))), (98, .inr (12, (.int (zI ms) :: .int (zI mv) :: .ref 99 :: .ref 100 :: .ref 101 :: .ref 102 :: .ref 103 :: .ref 104 :: .ref 105 :: .int (zI mt) :: .int (zI mfa) :: .ref 106 :: .ref 107 :: .ref 108 :: .int (zI mtn) :: .int (zI mtk) :: .int (zI mlv) :: .int (zI mbd) :: .int (zI mgo) :: .int (zI mge) :: .int (zI mbk) :: .ref 109 :: .int (zI mtt) :: .int (zI mtl) :: .ref 110 :: .ref 111 :: .ref 112 :: .ref 113 :: .ref 114 :: .ref 115 :: .ref 116 :: .ref 117 :: .int (zI z1) :: .int (zI z2) :: .int (zI z3) :: .int (zI sb) :: .ref 118 :: .ref 119 :: .ref 120 :: .ref 121 :: .ref 122 :: .ref 123 :: .ref 124 :: .ref 125 :: .ref 126 :: .ref 127 :: .ref 128 :: .ref 129 :: .int (zI mfu) :: .ref 130 :: .ref 131 :: .ref 132 :: .ref 133 :: .ref 134 :: .int (zI mdm) :: .int (zI mla) :: []))), (110, .inl (0, 8820, .inl (zA f4))), (111, .inl (0, 1260, .inl (zA f5))), (117, .inl (0, 7, .inl (zA f6)))]) rfl ?_
      refine J_mask (L2 := [(98, .inr (12, (.int (zI ms) :: .int (zI mv) :: .ref 99 :: .ref 100 :: .ref 101 :: .ref 102 :: .ref 103 :: .ref 104 :: .ref 105 :: .int (zI mt) :: .int (zI mfa) :: .ref 106 :: .ref 107 :: .ref 108 :: .int (zI mtn) :: .int (zI mtk) :: .int (zI mlv) :: .int (zI mbd) :: .int (zI mgo) :: .int (zI mge) :: .int (zI mbk) :: .ref 109 :: .int (zI mtt) :: .int (zI mtl) :: .ref 110 :: .ref 111 :: .ref 112 :: .ref 113 :: .ref 114 :: .ref 115 :: .ref 116 :: .ref 117 :: .int (zI z68) :: .int (zI z69) :: .int (zI z70) :: .int (zI sb) :: .ref 118 :: .ref 119 :: .ref 120 :: .ref 121 :: .ref 122 :: .ref 123 :: .ref 124 :: .ref 125 :: .ref 126 :: .ref 127 :: .ref 128 :: .ref 129 :: .int (zI mfu) :: .ref 130 :: .ref 131 :: .ref 132 :: .ref 133 :: .ref 134 :: .int (zI mdm) :: .int (zI mla) :: []))), (110, .inl (0, 8820, .inl (zA f71))), (111, .inl (0, 1260, .inl (zA f72))), (117, .inl (0, 7, .inl (zA f73)))]) (ks := [98, 110, 111, 117, 98, 110, 111, 117]) [true, true, true, true, false, false, false, false] rfl (by decide +kernel) rfl ?_
      refine Z_if_eq (tgt := 21) dX12_parted_13 (by decide) v_b17331891f (fun h154 => ?_) (fun h154 => absurd h154 (fun q => q v_2ca2bbca1f))
      refine Z_iconst (n := -1) dX12_parted_21 ?_
      refine J_touch (k := 126) (e := .inl (0, 1260, .inl (zA wb))) hk126 ?_
      refine J_touch (k := 125) (e := .inl (0, 1260, .inl (zA wf))) hk125 ?_
      refine J_touch (k := 124) (e := .inl (2, 27720, .inl (zA us))) hk124 ?_
      refine J_touch (k := 120) (e := .inl (0, 1260, .inl (zA li))) hk120 ?_
      refine J_touch (k := 109) (e := .inl (0, 8, .inl (zA aq))) hk109 ?_
      refine J_touch (k := 116) (e := .inl (0, 1260, .inl (zA cm))) hk116 ?_
      refine J_touch (k := 115) (e := .inl (0, 27720, .inl (zA cf))) hk115 ?_
      refine J_touch (k := 114) (e := .inl (0, 1260, .inl (zA sm))) hk114 ?_
      refine J_touch (k := 113) (e := .inl (0, 27720, .inl (zA tk))) hk113 ?_
      refine J_touch (k := 112) (e := .inl (0, 27720, .inl (zA st))) hk112 ?_
      refine J_touch (k := 117) (e := .inl (0, 7, .inl (zA f73))) rfl ?_
      refine J_touch (k := 111) (e := .inl (0, 1260, .inl (zA f72))) rfl ?_
      refine J_touch (k := 110) (e := .inl (0, 8820, .inl (zA f71))) rfl ?_
      refine J_touch (k := 98) (e := .inr (12, (.int (zI ms) :: .int (zI mv) :: .ref 99 :: .ref 100 :: .ref 101 :: .ref 102 :: .ref 103 :: .ref 104 :: .ref 105 :: .int (zI mt) :: .int (zI mfa) :: .ref 106 :: .ref 107 :: .ref 108 :: .int (zI mtn) :: .int (zI mtk) :: .int (zI mlv) :: .int (zI mbd) :: .int (zI mgo) :: .int (zI mge) :: .int (zI mbk) :: .ref 109 :: .int (zI mtt) :: .int (zI mtl) :: .ref 110 :: .ref 111 :: .ref 112 :: .ref 113 :: .ref 114 :: .ref 115 :: .ref 116 :: .ref 117 :: .int (zI z68) :: .int (zI z69) :: .int (zI z70) :: .int (zI sb) :: .ref 118 :: .ref 119 :: .ref 120 :: .ref 121 :: .ref 122 :: .ref 123 :: .ref 124 :: .ref 125 :: .ref 126 :: .ref 127 :: .ref 128 :: .ref 129 :: .int (zI mfu) :: .ref 130 :: .ref 131 :: .ref 132 :: .ref 133 :: .ref 134 :: .int (zI mdm) :: .int (zI mla) :: []))) rfl ?_
      refine J_mask (L2 := [(98, .inr (12, (.int (zI ms) :: .int (zI mv) :: .ref 99 :: .ref 100 :: .ref 101 :: .ref 102 :: .ref 103 :: .ref 104 :: .ref 105 :: .int (zI mt) :: .int (zI mfa) :: .ref 106 :: .ref 107 :: .ref 108 :: .int (zI mtn) :: .int (zI mtk) :: .int (zI mlv) :: .int (zI mbd) :: .int (zI mgo) :: .int (zI mge) :: .int (zI mbk) :: .ref 109 :: .int (zI mtt) :: .int (zI mtl) :: .ref 110 :: .ref 111 :: .ref 112 :: .ref 113 :: .ref 114 :: .ref 115 :: .ref 116 :: .ref 117 :: .int (zI z68) :: .int (zI z69) :: .int (zI z70) :: .int (zI sb) :: .ref 118 :: .ref 119 :: .ref 120 :: .ref 121 :: .ref 122 :: .ref 123 :: .ref 124 :: .ref 125 :: .ref 126 :: .ref 127 :: .ref 128 :: .ref 129 :: .int (zI mfu) :: .ref 130 :: .ref 131 :: .ref 132 :: .ref 133 :: .ref 134 :: .int (zI mdm) :: .int (zI mla) :: []))), (110, .inl (0, 8820, .inl (zA f71))), (111, .inl (0, 1260, .inl (zA f72))), (117, .inl (0, 7, .inl (zA f73))), (112, .inl (0, 27720, .inl (zA st))), (113, .inl (0, 27720, .inl (zA tk))), (114, .inl (0, 1260, .inl (zA sm))), (115, .inl (0, 27720, .inl (zA cf))), (116, .inl (0, 1260, .inl (zA cm))), (109, .inl (0, 8, .inl (zA aq))), (120, .inl (0, 1260, .inl (zA li))), (124, .inl (2, 27720, .inl (zA us))), (125, .inl (0, 1260, .inl (zA wf))), (126, .inl (0, 1260, .inl (zA wb)))]) (ks := [98, 110, 111, 117, 112, 113, 114, 115, 116, 109, 120, 124, 125, 126, 98, 110, 111, 117]) [true, true, true, true, true, true, true, true, true, true, true, true, true, true, false, false, false, false] rfl (by decide +kernel) rfl ?_
      exact J_iret dX12_parted_22 rfl rfl (Nat.le_of_ble_eq_true rfl) (Nat.le_of_ble_eq_true rfl) ⟨(-1), z68, z69, z70, f71, f72, f73, sb, st, tk, sm, cf, cm, aq, mgo, mge, mbk, mtt, mtl, li, us, wf, wb, rfl, rfl, h77, (v_621074fb26 q5 h82), (fun _ => ⟨h76, h74, h75⟩), q7, (q8), (v_94d6d099ed h82), q10, q11, q12, q13, q14, q15⟩
    · refine J_nf (nh2 := nh) (ck2 := 0) (sk2 := 0) (st2 := [.int (zI 0)]) rfl rfl rfl rfl ?_
      refine J_app (L3 := [(98, .inr (12, (.int (zI ms) :: .int (zI mv) :: .ref 99 :: .ref 100 :: .ref 101 :: .ref 102 :: .ref 103 :: .ref 104 :: .ref 105 :: .int (zI mt) :: .int (zI mfa) :: .ref 106 :: .ref 107 :: .ref 108 :: .int (zI mtn) :: .int (zI mtk) :: .int (zI mlv) :: .int (zI mbd) :: .int (zI mgo) :: .int (zI mge) :: .int (zI mbk) :: .ref 109 :: .int (zI mtt) :: .int (zI mtl) :: .ref 110 :: .ref 111 :: .ref 112 :: .ref 113 :: .ref 114 :: .ref 115 :: .ref 116 :: .ref 117 :: .int (zI z84) :: .int (zI z85) :: .int (zI z86) :: .int (zI sb) :: .ref 118 :: .ref 119 :: .ref 120 :: .ref 121 :: .ref 122 :: .ref 123 :: .ref 124 :: .ref 125 :: .ref 126 :: .ref 127 :: .ref 128 :: .ref 129 :: .int (zI mfu) :: .ref 130 :: .ref 131 :: .ref 132 :: .ref 133 :: .ref 134 :: .int (zI mdm) :: .int (zI mla) :: []))), (110, .inl (0, 8820, .inl (zA f87))), (111, .inl (0, 1260, .inl (zA f88))), (117, .inl (0, 7, .inl (zA f89))), (98, .inr (12, (.int (zI ms) :: .int (zI mv) :: .ref 99 :: .ref 100 :: .ref 101 :: .ref 102 :: .ref 103 :: .ref 104 :: .ref 105 :: .int (zI mt) :: .int (zI mfa) :: .ref 106 :: .ref 107 :: .ref 108 :: .int (zI mtn) :: .int (zI mtk) :: .int (zI mlv) :: .int (zI mbd) :: .int (zI mgo) :: .int (zI mge) :: .int (zI mbk) :: .ref 109 :: .int (zI mtt) :: .int (zI mtl) :: .ref 110 :: .ref 111 :: .ref 112 :: .ref 113 :: .ref 114 :: .ref 115 :: .ref 116 :: .ref 117 :: .int (zI z1) :: .int (zI z2) :: .int (zI z3) :: .int (zI sb) :: .ref 118 :: .ref 119 :: .ref 120 :: .ref 121 :: .ref 122 :: .ref 123 :: .ref 124 :: .ref 125 :: .ref 126 :: .ref 127 :: .ref 128 :: .ref 129 :: .int (zI mfu) :: .ref 130 :: .ref 131 :: .ref 132 :: .ref 133 :: .ref 134 :: .int (zI mdm) :: .int (zI mla) :: []))), (110, .inl (0, 8820, .inl (zA f4))), (111, .inl (0, 1260, .inl (zA f5))), (117, .inl (0, 7, .inl (zA f6)))]) rfl ?_
      refine J_mask (L2 := [(98, .inr (12, (.int (zI ms) :: .int (zI mv) :: .ref 99 :: .ref 100 :: .ref 101 :: .ref 102 :: .ref 103 :: .ref 104 :: .ref 105 :: .int (zI mt) :: .int (zI mfa) :: .ref 106 :: .ref 107 :: .ref 108 :: .int (zI mtn) :: .int (zI mtk) :: .int (zI mlv) :: .int (zI mbd) :: .int (zI mgo) :: .int (zI mge) :: .int (zI mbk) :: .ref 109 :: .int (zI mtt) :: .int (zI mtl) :: .ref 110 :: .ref 111 :: .ref 112 :: .ref 113 :: .ref 114 :: .ref 115 :: .ref 116 :: .ref 117 :: .int (zI z84) :: .int (zI z85) :: .int (zI z86) :: .int (zI sb) :: .ref 118 :: .ref 119 :: .ref 120 :: .ref 121 :: .ref 122 :: .ref 123 :: .ref 124 :: .ref 125 :: .ref 126 :: .ref 127 :: .ref 128 :: .ref 129 :: .int (zI mfu) :: .ref 130 :: .ref 131 :: .ref 132 :: .ref 133 :: .ref 134 :: .int (zI mdm) :: .int (zI mla) :: []))), (110, .inl (0, 8820, .inl (zA f87))), (111, .inl (0, 1260, .inl (zA f88))), (117, .inl (0, 7, .inl (zA f89)))]) (ks := [98, 110, 111, 117, 98, 110, 111, 117]) [true, true, true, true, false, false, false, false] rfl (by decide +kernel) rfl ?_
      refine Z_if_eq (tgt := 21) dX12_parted_13 (by decide) v_b17331891f (fun h155 => ?_) (fun h155 => absurd h155 (fun q => q v_2ca2bbca1f))
      refine Z_iconst (n := -1) dX12_parted_21 ?_
      refine J_touch (k := 126) (e := .inl (0, 1260, .inl (zA wb))) hk126 ?_
      refine J_touch (k := 125) (e := .inl (0, 1260, .inl (zA wf))) hk125 ?_
      refine J_touch (k := 124) (e := .inl (2, 27720, .inl (zA us))) hk124 ?_
      refine J_touch (k := 120) (e := .inl (0, 1260, .inl (zA li))) hk120 ?_
      refine J_touch (k := 109) (e := .inl (0, 8, .inl (zA aq))) hk109 ?_
      refine J_touch (k := 116) (e := .inl (0, 1260, .inl (zA cm))) hk116 ?_
      refine J_touch (k := 115) (e := .inl (0, 27720, .inl (zA cf))) hk115 ?_
      refine J_touch (k := 114) (e := .inl (0, 1260, .inl (zA sm))) hk114 ?_
      refine J_touch (k := 113) (e := .inl (0, 27720, .inl (zA tk))) hk113 ?_
      refine J_touch (k := 112) (e := .inl (0, 27720, .inl (zA st))) hk112 ?_
      refine J_touch (k := 117) (e := .inl (0, 7, .inl (zA f89))) rfl ?_
      refine J_touch (k := 111) (e := .inl (0, 1260, .inl (zA f88))) rfl ?_
      refine J_touch (k := 110) (e := .inl (0, 8820, .inl (zA f87))) rfl ?_
      refine J_touch (k := 98) (e := .inr (12, (.int (zI ms) :: .int (zI mv) :: .ref 99 :: .ref 100 :: .ref 101 :: .ref 102 :: .ref 103 :: .ref 104 :: .ref 105 :: .int (zI mt) :: .int (zI mfa) :: .ref 106 :: .ref 107 :: .ref 108 :: .int (zI mtn) :: .int (zI mtk) :: .int (zI mlv) :: .int (zI mbd) :: .int (zI mgo) :: .int (zI mge) :: .int (zI mbk) :: .ref 109 :: .int (zI mtt) :: .int (zI mtl) :: .ref 110 :: .ref 111 :: .ref 112 :: .ref 113 :: .ref 114 :: .ref 115 :: .ref 116 :: .ref 117 :: .int (zI z84) :: .int (zI z85) :: .int (zI z86) :: .int (zI sb) :: .ref 118 :: .ref 119 :: .ref 120 :: .ref 121 :: .ref 122 :: .ref 123 :: .ref 124 :: .ref 125 :: .ref 126 :: .ref 127 :: .ref 128 :: .ref 129 :: .int (zI mfu) :: .ref 130 :: .ref 131 :: .ref 132 :: .ref 133 :: .ref 134 :: .int (zI mdm) :: .int (zI mla) :: []))) rfl ?_
      refine J_mask (L2 := [(98, .inr (12, (.int (zI ms) :: .int (zI mv) :: .ref 99 :: .ref 100 :: .ref 101 :: .ref 102 :: .ref 103 :: .ref 104 :: .ref 105 :: .int (zI mt) :: .int (zI mfa) :: .ref 106 :: .ref 107 :: .ref 108 :: .int (zI mtn) :: .int (zI mtk) :: .int (zI mlv) :: .int (zI mbd) :: .int (zI mgo) :: .int (zI mge) :: .int (zI mbk) :: .ref 109 :: .int (zI mtt) :: .int (zI mtl) :: .ref 110 :: .ref 111 :: .ref 112 :: .ref 113 :: .ref 114 :: .ref 115 :: .ref 116 :: .ref 117 :: .int (zI z84) :: .int (zI z85) :: .int (zI z86) :: .int (zI sb) :: .ref 118 :: .ref 119 :: .ref 120 :: .ref 121 :: .ref 122 :: .ref 123 :: .ref 124 :: .ref 125 :: .ref 126 :: .ref 127 :: .ref 128 :: .ref 129 :: .int (zI mfu) :: .ref 130 :: .ref 131 :: .ref 132 :: .ref 133 :: .ref 134 :: .int (zI mdm) :: .int (zI mla) :: []))), (110, .inl (0, 8820, .inl (zA f87))), (111, .inl (0, 1260, .inl (zA f88))), (117, .inl (0, 7, .inl (zA f89))), (112, .inl (0, 27720, .inl (zA st))), (113, .inl (0, 27720, .inl (zA tk))), (114, .inl (0, 1260, .inl (zA sm))), (115, .inl (0, 27720, .inl (zA cf))), (116, .inl (0, 1260, .inl (zA cm))), (109, .inl (0, 8, .inl (zA aq))), (120, .inl (0, 1260, .inl (zA li))), (124, .inl (2, 27720, .inl (zA us))), (125, .inl (0, 1260, .inl (zA wf))), (126, .inl (0, 1260, .inl (zA wb)))]) (ks := [98, 110, 111, 117, 112, 113, 114, 115, 116, 109, 120, 124, 125, 126, 98, 110, 111, 117]) [true, true, true, true, true, true, true, true, true, true, true, true, true, true, false, false, false, false] rfl (by decide +kernel) rfl ?_
      exact J_iret dX12_parted_22 rfl rfl (Nat.le_of_ble_eq_true rfl) (Nat.le_of_ble_eq_true rfl) ⟨(-1), z84, z85, z86, f87, f88, f89, sb, st, tk, sm, cf, cm, aq, mgo, mge, mbk, mtt, mtl, li, us, wf, wb, rfl, rfl, h93, (v_621074fb26 q5 h98), (fun _ => ⟨h92, h90, h91⟩), q7, (q8), (v_94d6d099ed h98), q10, q11, q12, q13, q14, q15⟩
  · refine J_nf (nh2 := nh) (ck2 := 0) (sk2 := 0) (st2 := [.int (zI 0)]) rfl rfl rfl rfl ?_
    refine J_app (L3 := [(98, .inr (12, (.int (zI ms) :: .int (zI mv) :: .ref 99 :: .ref 100 :: .ref 101 :: .ref 102 :: .ref 103 :: .ref 104 :: .ref 105 :: .int (zI mt) :: .int (zI mfa) :: .ref 106 :: .ref 107 :: .ref 108 :: .int (zI mtn) :: .int (zI mtk) :: .int (zI mlv) :: .int (zI mbd) :: .int (zI mgo) :: .int (zI mge) :: .int (zI mbk) :: .ref 109 :: .int (zI mtt) :: .int (zI mtl) :: .ref 110 :: .ref 111 :: .ref 112 :: .ref 113 :: .ref 114 :: .ref 115 :: .ref 116 :: .ref 117 :: .int (zI z18) :: .int (zI z19) :: .int (zI z20) :: .int (zI sb) :: .ref 118 :: .ref 119 :: .ref 120 :: .ref 121 :: .ref 122 :: .ref 123 :: .ref 124 :: .ref 125 :: .ref 126 :: .ref 127 :: .ref 128 :: .ref 129 :: .int (zI mfu) :: .ref 130 :: .ref 131 :: .ref 132 :: .ref 133 :: .ref 134 :: .int (zI mdm) :: .int (zI mla) :: []))), (110, .inl (0, 8820, .inl (zA f21))), (111, .inl (0, 1260, .inl (zA f22))), (117, .inl (0, 7, .inl (zA f23)))]) rfl ?_
    refine Z_if_eq (tgt := 21) dX12_parted_5 (by decide) v_b17331891f (fun h156 => ?_) (fun h156 => absurd h156 (fun q => q v_2ca2bbca1f))
    refine Z_iconst (n := -1) dX12_parted_21 ?_
    refine J_touch (k := 126) (e := .inl (0, 1260, .inl (zA wb))) hk126 ?_
    refine J_touch (k := 125) (e := .inl (0, 1260, .inl (zA wf))) hk125 ?_
    refine J_touch (k := 124) (e := .inl (2, 27720, .inl (zA us))) hk124 ?_
    refine J_touch (k := 120) (e := .inl (0, 1260, .inl (zA li))) hk120 ?_
    refine J_touch (k := 109) (e := .inl (0, 8, .inl (zA aq))) hk109 ?_
    refine J_touch (k := 116) (e := .inl (0, 1260, .inl (zA cm))) hk116 ?_
    refine J_touch (k := 115) (e := .inl (0, 27720, .inl (zA cf))) hk115 ?_
    refine J_touch (k := 114) (e := .inl (0, 1260, .inl (zA sm))) hk114 ?_
    refine J_touch (k := 113) (e := .inl (0, 27720, .inl (zA tk))) hk113 ?_
    refine J_touch (k := 112) (e := .inl (0, 27720, .inl (zA st))) hk112 ?_
    refine J_touch (k := 117) (e := .inl (0, 7, .inl (zA f23))) rfl ?_
    refine J_touch (k := 111) (e := .inl (0, 1260, .inl (zA f22))) rfl ?_
    refine J_touch (k := 110) (e := .inl (0, 8820, .inl (zA f21))) rfl ?_
    refine J_touch (k := 98) (e := .inr (12, (.int (zI ms) :: .int (zI mv) :: .ref 99 :: .ref 100 :: .ref 101 :: .ref 102 :: .ref 103 :: .ref 104 :: .ref 105 :: .int (zI mt) :: .int (zI mfa) :: .ref 106 :: .ref 107 :: .ref 108 :: .int (zI mtn) :: .int (zI mtk) :: .int (zI mlv) :: .int (zI mbd) :: .int (zI mgo) :: .int (zI mge) :: .int (zI mbk) :: .ref 109 :: .int (zI mtt) :: .int (zI mtl) :: .ref 110 :: .ref 111 :: .ref 112 :: .ref 113 :: .ref 114 :: .ref 115 :: .ref 116 :: .ref 117 :: .int (zI z18) :: .int (zI z19) :: .int (zI z20) :: .int (zI sb) :: .ref 118 :: .ref 119 :: .ref 120 :: .ref 121 :: .ref 122 :: .ref 123 :: .ref 124 :: .ref 125 :: .ref 126 :: .ref 127 :: .ref 128 :: .ref 129 :: .int (zI mfu) :: .ref 130 :: .ref 131 :: .ref 132 :: .ref 133 :: .ref 134 :: .int (zI mdm) :: .int (zI mla) :: []))) rfl ?_
    refine J_mask (L2 := [(98, .inr (12, (.int (zI ms) :: .int (zI mv) :: .ref 99 :: .ref 100 :: .ref 101 :: .ref 102 :: .ref 103 :: .ref 104 :: .ref 105 :: .int (zI mt) :: .int (zI mfa) :: .ref 106 :: .ref 107 :: .ref 108 :: .int (zI mtn) :: .int (zI mtk) :: .int (zI mlv) :: .int (zI mbd) :: .int (zI mgo) :: .int (zI mge) :: .int (zI mbk) :: .ref 109 :: .int (zI mtt) :: .int (zI mtl) :: .ref 110 :: .ref 111 :: .ref 112 :: .ref 113 :: .ref 114 :: .ref 115 :: .ref 116 :: .ref 117 :: .int (zI z18) :: .int (zI z19) :: .int (zI z20) :: .int (zI sb) :: .ref 118 :: .ref 119 :: .ref 120 :: .ref 121 :: .ref 122 :: .ref 123 :: .ref 124 :: .ref 125 :: .ref 126 :: .ref 127 :: .ref 128 :: .ref 129 :: .int (zI mfu) :: .ref 130 :: .ref 131 :: .ref 132 :: .ref 133 :: .ref 134 :: .int (zI mdm) :: .int (zI mla) :: []))), (110, .inl (0, 8820, .inl (zA f21))), (111, .inl (0, 1260, .inl (zA f22))), (117, .inl (0, 7, .inl (zA f23))), (112, .inl (0, 27720, .inl (zA st))), (113, .inl (0, 27720, .inl (zA tk))), (114, .inl (0, 1260, .inl (zA sm))), (115, .inl (0, 27720, .inl (zA cf))), (116, .inl (0, 1260, .inl (zA cm))), (109, .inl (0, 8, .inl (zA aq))), (120, .inl (0, 1260, .inl (zA li))), (124, .inl (2, 27720, .inl (zA us))), (125, .inl (0, 1260, .inl (zA wf))), (126, .inl (0, 1260, .inl (zA wb)))]) (ks := [98, 110, 111, 117, 112, 113, 114, 115, 116, 109, 120, 124, 125, 126, 98, 110, 111, 117]) [true, true, true, true, true, true, true, true, true, true, true, true, true, true, false, false, false, false] rfl (by decide +kernel) rfl ?_
    exact J_iret dX12_parted_22 rfl rfl (Nat.le_of_ble_eq_true rfl) (Nat.le_of_ble_eq_true rfl) ⟨(-1), z18, z19, z20, f21, f22, f23, sb, st, tk, sm, cf, cm, aq, mgo, mge, mbk, mtt, mtl, li, us, wf, wb, rfl, rfl, h27, (v_621074fb26 q5 h32), (fun _ => ⟨h26, h24, h25⟩), q7, (q8), (v_94d6d099ed h32), q10, q11, q12, q13, q14, q15⟩
  · refine J_nf (nh2 := nh) (ck2 := 0) (sk2 := 0) (st2 := [.int (zI 0)]) rfl rfl rfl rfl ?_
    refine J_app (L3 := [(98, .inr (12, (.int (zI ms) :: .int (zI mv) :: .ref 99 :: .ref 100 :: .ref 101 :: .ref 102 :: .ref 103 :: .ref 104 :: .ref 105 :: .int (zI mt) :: .int (zI mfa) :: .ref 106 :: .ref 107 :: .ref 108 :: .int (zI mtn) :: .int (zI mtk) :: .int (zI mlv) :: .int (zI mbd) :: .int (zI mgo) :: .int (zI mge) :: .int (zI mbk) :: .ref 109 :: .int (zI mtt) :: .int (zI mtl) :: .ref 110 :: .ref 111 :: .ref 112 :: .ref 113 :: .ref 114 :: .ref 115 :: .ref 116 :: .ref 117 :: .int (zI z34) :: .int (zI z35) :: .int (zI z36) :: .int (zI sb) :: .ref 118 :: .ref 119 :: .ref 120 :: .ref 121 :: .ref 122 :: .ref 123 :: .ref 124 :: .ref 125 :: .ref 126 :: .ref 127 :: .ref 128 :: .ref 129 :: .int (zI mfu) :: .ref 130 :: .ref 131 :: .ref 132 :: .ref 133 :: .ref 134 :: .int (zI mdm) :: .int (zI mla) :: []))), (110, .inl (0, 8820, .inl (zA f37))), (111, .inl (0, 1260, .inl (zA f38))), (117, .inl (0, 7, .inl (zA f39)))]) rfl ?_
    refine Z_if_eq (tgt := 21) dX12_parted_5 (by decide) v_b17331891f (fun h157 => ?_) (fun h157 => absurd h157 (fun q => q v_2ca2bbca1f))
    refine Z_iconst (n := -1) dX12_parted_21 ?_
    refine J_touch (k := 126) (e := .inl (0, 1260, .inl (zA wb))) hk126 ?_
    refine J_touch (k := 125) (e := .inl (0, 1260, .inl (zA wf))) hk125 ?_
    refine J_touch (k := 124) (e := .inl (2, 27720, .inl (zA us))) hk124 ?_
    refine J_touch (k := 120) (e := .inl (0, 1260, .inl (zA li))) hk120 ?_
    refine J_touch (k := 109) (e := .inl (0, 8, .inl (zA aq))) hk109 ?_
    refine J_touch (k := 116) (e := .inl (0, 1260, .inl (zA cm))) hk116 ?_
    refine J_touch (k := 115) (e := .inl (0, 27720, .inl (zA cf))) hk115 ?_
    refine J_touch (k := 114) (e := .inl (0, 1260, .inl (zA sm))) hk114 ?_
    refine J_touch (k := 113) (e := .inl (0, 27720, .inl (zA tk))) hk113 ?_
    refine J_touch (k := 112) (e := .inl (0, 27720, .inl (zA st))) hk112 ?_
    refine J_touch (k := 117) (e := .inl (0, 7, .inl (zA f39))) rfl ?_
    refine J_touch (k := 111) (e := .inl (0, 1260, .inl (zA f38))) rfl ?_
    refine J_touch (k := 110) (e := .inl (0, 8820, .inl (zA f37))) rfl ?_
    refine J_touch (k := 98) (e := .inr (12, (.int (zI ms) :: .int (zI mv) :: .ref 99 :: .ref 100 :: .ref 101 :: .ref 102 :: .ref 103 :: .ref 104 :: .ref 105 :: .int (zI mt) :: .int (zI mfa) :: .ref 106 :: .ref 107 :: .ref 108 :: .int (zI mtn) :: .int (zI mtk) :: .int (zI mlv) :: .int (zI mbd) :: .int (zI mgo) :: .int (zI mge) :: .int (zI mbk) :: .ref 109 :: .int (zI mtt) :: .int (zI mtl) :: .ref 110 :: .ref 111 :: .ref 112 :: .ref 113 :: .ref 114 :: .ref 115 :: .ref 116 :: .ref 117 :: .int (zI z34) :: .int (zI z35) :: .int (zI z36) :: .int (zI sb) :: .ref 118 :: .ref 119 :: .ref 120 :: .ref 121 :: .ref 122 :: .ref 123 :: .ref 124 :: .ref 125 :: .ref 126 :: .ref 127 :: .ref 128 :: .ref 129 :: .int (zI mfu) :: .ref 130 :: .ref 131 :: .ref 132 :: .ref 133 :: .ref 134 :: .int (zI mdm) :: .int (zI mla) :: []))) rfl ?_
    refine J_mask (L2 := [(98, .inr (12, (.int (zI ms) :: .int (zI mv) :: .ref 99 :: .ref 100 :: .ref 101 :: .ref 102 :: .ref 103 :: .ref 104 :: .ref 105 :: .int (zI mt) :: .int (zI mfa) :: .ref 106 :: .ref 107 :: .ref 108 :: .int (zI mtn) :: .int (zI mtk) :: .int (zI mlv) :: .int (zI mbd) :: .int (zI mgo) :: .int (zI mge) :: .int (zI mbk) :: .ref 109 :: .int (zI mtt) :: .int (zI mtl) :: .ref 110 :: .ref 111 :: .ref 112 :: .ref 113 :: .ref 114 :: .ref 115 :: .ref 116 :: .ref 117 :: .int (zI z34) :: .int (zI z35) :: .int (zI z36) :: .int (zI sb) :: .ref 118 :: .ref 119 :: .ref 120 :: .ref 121 :: .ref 122 :: .ref 123 :: .ref 124 :: .ref 125 :: .ref 126 :: .ref 127 :: .ref 128 :: .ref 129 :: .int (zI mfu) :: .ref 130 :: .ref 131 :: .ref 132 :: .ref 133 :: .ref 134 :: .int (zI mdm) :: .int (zI mla) :: []))), (110, .inl (0, 8820, .inl (zA f37))), (111, .inl (0, 1260, .inl (zA f38))), (117, .inl (0, 7, .inl (zA f39))), (112, .inl (0, 27720, .inl (zA st))), (113, .inl (0, 27720, .inl (zA tk))), (114, .inl (0, 1260, .inl (zA sm))), (115, .inl (0, 27720, .inl (zA cf))), (116, .inl (0, 1260, .inl (zA cm))), (109, .inl (0, 8, .inl (zA aq))), (120, .inl (0, 1260, .inl (zA li))), (124, .inl (2, 27720, .inl (zA us))), (125, .inl (0, 1260, .inl (zA wf))), (126, .inl (0, 1260, .inl (zA wb)))]) (ks := [98, 110, 111, 117, 112, 113, 114, 115, 116, 109, 120, 124, 125, 126, 98, 110, 111, 117]) [true, true, true, true, true, true, true, true, true, true, true, true, true, true, false, false, false, false] rfl (by decide +kernel) rfl ?_
    exact J_iret dX12_parted_22 rfl rfl (Nat.le_of_ble_eq_true rfl) (Nat.le_of_ble_eq_true rfl) ⟨(-1), z34, z35, z36, f37, f38, f39, sb, st, tk, sm, cf, cm, aq, mgo, mge, mbk, mtt, mtl, li, us, wf, wb, rfl, rfl, h43, (v_621074fb26 q5 h48), (fun _ => ⟨h42, h40, h41⟩), q7, (q8), (v_94d6d099ed h48), q10, q11, q12, q13, q14, q15⟩
