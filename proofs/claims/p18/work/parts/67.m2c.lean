abbrev MX12_asksOf : jM := (RX12, cX12_asksOf, 12, none, false)
theorem fw_X12_284 : jFW RX12 284 12 22 (.int) false := ⟨_, _, _, tyX12, rfl, iX12, tyX12_ok, nmX12, by decide, rfl, rfl, (fun h => by cases h), Or.inl (jt6 96 rfl rfl)⟩
theorem fw_X12_287 : jFW RX12 287 12 23 (.boolean) false := ⟨_, _, _, tyX12, rfl, iX12, tyX12_ok, nmX12, by decide, rfl, rfl, (fun h => by cases h), Or.inl (jt6 97 rfl rfl)⟩
theorem fw_X12_237 : jFW RX12 237 12 19 (.int) false := ⟨_, _, _, tyX12, rfl, iX12, tyX12_ok, nmX12, by decide, rfl, rfl, (fun h => by cases h), Or.inl (jt6 93 rfl rfl)⟩
theorem fl_X12_287 : jFL RX12 287 12 23 := ⟨_, _, _, rfl, iX12, by decide, Or.inl (jt6 97 rfl rfl)⟩
theorem dX12_asksOf_0 : decode cX12_asksOf 0 = .ok (.aload_n 0, 1) := by decide +kernel
theorem dX12_asksOf_1 : decode cX12_asksOf 1 = .ok (.iconst 1, 1) := by decide +kernel
theorem dX12_asksOf_2 : decode cX12_asksOf 2 = .ok (.putfield 284, 3) := by decide +kernel
theorem dX12_asksOf_5 : decode cX12_asksOf 5 = .ok (.aload_n 0, 1) := by decide +kernel
theorem dX12_asksOf_18 : decode cX12_asksOf 18 = .ok (.putfield 287, 3) := by decide +kernel
theorem dX12_asksOf_21 : decode cX12_asksOf 21 = .ok (.aload_n 0, 1) := by decide +kernel
theorem dX12_asksOf_22 : decode cX12_asksOf 22 = .ok (.getfield 20, 3) := by decide +kernel
theorem dX12_asksOf_25 : decode cX12_asksOf 25 = .ok (.bipush 63, 2) := by decide +kernel
theorem dX12_asksOf_27 : decode cX12_asksOf 27 = .ok (.iaload, 1) := by decide +kernel
theorem dX12_asksOf_28 : decode cX12_asksOf 28 = .ok (.iconst (-1), 1) := by decide +kernel
theorem dX12_asksOf_29 : decode cX12_asksOf 29 = .ok (.if_icmp .ne 4, 3) := by decide +kernel
theorem dX12_asksOf_33 : decode cX12_asksOf 33 = .ok (.aload_n 0, 1) := by decide +kernel
theorem dX12_asksOf_34 : decode cX12_asksOf 34 = .ok (.getfield 52, 3) := by decide +kernel
theorem dX12_asksOf_37 : decode cX12_asksOf 37 = .ok (.iconst 0, 1) := by decide +kernel
theorem dX12_asksOf_38 : decode cX12_asksOf 38 = .ok (.iload_n 2, 1) := by decide +kernel
theorem dX12_asksOf_39 : decode cX12_asksOf 39 = .ok (.iastore, 1) := by decide +kernel
theorem dX12_asksOf_40 : decode cX12_asksOf 40 = .ok (.aload_n 0, 1) := by decide +kernel
theorem dX12_asksOf_41 : decode cX12_asksOf 41 = .ok (.getfield 52, 3) := by decide +kernel
theorem dX12_asksOf_44 : decode cX12_asksOf 44 = .ok (.iconst 1, 1) := by decide +kernel
theorem dX12_asksOf_45 : decode cX12_asksOf 45 = .ok (.iload_n 3, 1) := by decide +kernel
theorem dX12_asksOf_46 : decode cX12_asksOf 46 = .ok (.iastore, 1) := by decide +kernel
theorem dX12_asksOf_47 : decode cX12_asksOf 47 = .ok (.aload_n 0, 1) := by decide +kernel
theorem dX12_asksOf_48 : decode cX12_asksOf 48 = .ok (.getfield 52, 3) := by decide +kernel
theorem dX12_asksOf_51 : decode cX12_asksOf 51 = .ok (.iconst 2, 1) := by decide +kernel
theorem dX12_asksOf_52 : decode cX12_asksOf 52 = .ok (.aload_n 0, 1) := by decide +kernel
theorem dX12_asksOf_53 : decode cX12_asksOf 53 = .ok (.iload_n 1, 1) := by decide +kernel
theorem dX12_asksOf_54 : decode cX12_asksOf 54 = .ok (.iload_n 2, 1) := by decide +kernel
theorem dX12_asksOf_55 : decode cX12_asksOf 55 = .ok (.invokevirtual 290, 3) := by decide +kernel
theorem dX12_asksOf_58 : decode cX12_asksOf 58 = .ok (.iastore, 1) := by decide +kernel
theorem dX12_asksOf_59 : decode cX12_asksOf 59 = .ok (.aload_n 0, 1) := by decide +kernel
theorem dX12_asksOf_60 : decode cX12_asksOf 60 = .ok (.getfield 52, 3) := by decide +kernel
theorem dX12_asksOf_63 : decode cX12_asksOf 63 = .ok (.iconst 3, 1) := by decide +kernel
theorem dX12_asksOf_64 : decode cX12_asksOf 64 = .ok (.aload_n 0, 1) := by decide +kernel
theorem dX12_asksOf_65 : decode cX12_asksOf 65 = .ok (.iload_n 1, 1) := by decide +kernel
theorem dX12_asksOf_66 : decode cX12_asksOf 66 = .ok (.iload_n 3, 1) := by decide +kernel
theorem dX12_asksOf_67 : decode cX12_asksOf 67 = .ok (.invokevirtual 290, 3) := by decide +kernel
theorem dX12_asksOf_70 : decode cX12_asksOf 70 = .ok (.iastore, 1) := by decide +kernel
theorem dX12_asksOf_71 : decode cX12_asksOf 71 = .ok (.aload_n 0, 1) := by decide +kernel
theorem dX12_asksOf_72 : decode cX12_asksOf 72 = .ok (.getfield 52, 3) := by decide +kernel
theorem dX12_asksOf_75 : decode cX12_asksOf 75 = .ok (.iconst 4, 1) := by decide +kernel
theorem dX12_asksOf_76 : decode cX12_asksOf 76 = .ok (.iload_n 3, 1) := by decide +kernel
theorem dX12_asksOf_77 : decode cX12_asksOf 77 = .ok (.iload_n 2, 1) := by decide +kernel
theorem dX12_asksOf_78 : decode cX12_asksOf 78 = .ok (.isub, 1) := by decide +kernel
theorem dX12_asksOf_79 : decode cX12_asksOf 79 = .ok (.iastore, 1) := by decide +kernel
theorem dX12_asksOf_80 : decode cX12_asksOf 80 = .ok (.aload_n 0, 1) := by decide +kernel
theorem dX12_asksOf_81 : decode cX12_asksOf 81 = .ok (.getfield 52, 3) := by decide +kernel
theorem dX12_asksOf_84 : decode cX12_asksOf 84 = .ok (.iconst 5, 1) := by decide +kernel
theorem dX12_asksOf_85 : decode cX12_asksOf 85 = .ok (.aload_n 0, 1) := by decide +kernel
theorem dX12_asksOf_86 : decode cX12_asksOf 86 = .ok (.iload_n 1, 1) := by decide +kernel
theorem dX12_asksOf_87 : decode cX12_asksOf 87 = .ok (.iconst 0, 1) := by decide +kernel
theorem dX12_asksOf_88 : decode cX12_asksOf 88 = .ok (.invokevirtual 290, 3) := by decide +kernel
theorem dX12_asksOf_91 : decode cX12_asksOf 91 = .ok (.iastore, 1) := by decide +kernel
theorem dX12_asksOf_92 : decode cX12_asksOf 92 = .ok (.aload_n 0, 1) := by decide +kernel
theorem dX12_asksOf_93 : decode cX12_asksOf 93 = .ok (.getfield 52, 3) := by decide +kernel
theorem dX12_asksOf_96 : decode cX12_asksOf 96 = .ok (.bipush 6, 2) := by decide +kernel
theorem dX12_asksOf_98 : decode cX12_asksOf 98 = .ok (.aload_n 0, 1) := by decide +kernel
theorem dX12_asksOf_99 : decode cX12_asksOf 99 = .ok (.getfield 293, 3) := by decide +kernel
theorem dX12_asksOf_102 : decode cX12_asksOf 102 = .ok (.iastore, 1) := by decide +kernel
theorem dX12_asksOf_103 : decode cX12_asksOf 103 = .ok (.aload_n 0, 1) := by decide +kernel
theorem dX12_asksOf_104 : decode cX12_asksOf 104 = .ok (.getfield 52, 3) := by decide +kernel
theorem dX12_asksOf_107 : decode cX12_asksOf 107 = .ok (.bipush 7, 2) := by decide +kernel
theorem dX12_asksOf_109 : decode cX12_asksOf 109 = .ok (.aload_n 0, 1) := by decide +kernel
theorem dX12_asksOf_110 : decode cX12_asksOf 110 = .ok (.getfield 20, 3) := by decide +kernel
theorem dX12_asksOf_113 : decode cX12_asksOf 113 = .ok (.bipush 6, 2) := by decide +kernel
theorem dX12_asksOf_115 : decode cX12_asksOf 115 = .ok (.iaload, 1) := by decide +kernel
theorem dX12_asksOf_116 : decode cX12_asksOf 116 = .ok (.iastore, 1) := by decide +kernel
theorem dX12_asksOf_117 : decode cX12_asksOf 117 = .ok (.aload_n 0, 1) := by decide +kernel
theorem dX12_asksOf_118 : decode cX12_asksOf 118 = .ok (.sipush 400, 3) := by decide +kernel
theorem dX12_asksOf_121 : decode cX12_asksOf 121 = .ok (.aload_n 0, 1) := by decide +kernel
theorem dX12_asksOf_122 : decode cX12_asksOf 122 = .ok (.getfield 20, 3) := by decide +kernel
theorem dX12_asksOf_125 : decode cX12_asksOf 125 = .ok (.bipush 63, 2) := by decide +kernel
theorem dX12_asksOf_127 : decode cX12_asksOf 127 = .ok (.iaload, 1) := by decide +kernel
theorem dX12_asksOf_128 : decode cX12_asksOf 128 = .ok (.imul, 1) := by decide +kernel
theorem dX12_asksOf_129 : decode cX12_asksOf 129 = .ok (.putfield 240, 3) := by decide +kernel
theorem dX12_asksOf_132 : decode cX12_asksOf 132 = .ok (.aload_n 0, 1) := by decide +kernel
theorem dX12_asksOf_133 : decode cX12_asksOf 133 = .ok (.aload_n 0, 1) := by decide +kernel
theorem dX12_asksOf_134 : decode cX12_asksOf 134 = .ok (.getfield 240, 3) := by decide +kernel
theorem dX12_asksOf_137 : decode cX12_asksOf 137 = .ok (.aload_n 0, 1) := by decide +kernel
theorem dX12_asksOf_138 : decode cX12_asksOf 138 = .ok (.getfield 20, 3) := by decide +kernel
theorem dX12_asksOf_141 : decode cX12_asksOf 141 = .ok (.bipush 64, 2) := by decide +kernel
theorem dX12_asksOf_143 : decode cX12_asksOf 143 = .ok (.aload_n 0, 1) := by decide +kernel
theorem dX12_asksOf_144 : decode cX12_asksOf 144 = .ok (.getfield 20, 3) := by decide +kernel
theorem dX12_asksOf_147 : decode cX12_asksOf 147 = .ok (.bipush 63, 2) := by decide +kernel
theorem dX12_asksOf_149 : decode cX12_asksOf 149 = .ok (.iaload, 1) := by decide +kernel
theorem dX12_asksOf_150 : decode cX12_asksOf 150 = .ok (.iadd, 1) := by decide +kernel
theorem dX12_asksOf_151 : decode cX12_asksOf 151 = .ok (.iaload, 1) := by decide +kernel
theorem dX12_asksOf_152 : decode cX12_asksOf 152 = .ok (.iadd, 1) := by decide +kernel
theorem dX12_asksOf_153 : decode cX12_asksOf 153 = .ok (.putfield 237, 3) := by decide +kernel
theorem dX12_asksOf_156 : decode cX12_asksOf 156 = .ok (.iconst 0, 1) := by decide +kernel
theorem dX12_asksOf_157 : decode cX12_asksOf 157 = .ok (.istore 4, 2) := by decide +kernel
theorem dX12_asksOf_159 : decode cX12_asksOf 159 = .ok (.iconst 0, 1) := by decide +kernel
theorem dX12_asksOf_160 : decode cX12_asksOf 160 = .ok (.istore 5, 2) := by decide +kernel
theorem dX12_asksOf_162 : decode cX12_asksOf 162 = .ok (.iconst 0, 1) := by decide +kernel
theorem dX12_asksOf_163 : decode cX12_asksOf 163 = .ok (.istore 6, 2) := by decide +kernel
theorem dX12_asksOf_165 : decode cX12_asksOf 165 = .ok (.aload_n 0, 1) := by decide +kernel
theorem dX12_asksOf_166 : decode cX12_asksOf 166 = .ok (.getfield 240, 3) := by decide +kernel
theorem dX12_asksOf_169 : decode cX12_asksOf 169 = .ok (.aload_n 0, 1) := by decide +kernel
theorem dX12_asksOf_170 : decode cX12_asksOf 170 = .ok (.getfield 237, 3) := by decide +kernel
theorem dX12_asksOf_173 : decode cX12_asksOf 173 = .ok (.if_icmp .ge 211, 3) := by decide +kernel
theorem dX12_asksOf_384 : decode cX12_asksOf 384 = .ok (.aload_n 0, 1) := by decide +kernel
theorem dX12_asksOf_385 : decode cX12_asksOf 385 = .ok (.iload 6, 2) := by decide +kernel
theorem dX12_asksOf_387 : decode cX12_asksOf 387 = .ok (.ifCond .eq 11, 3) := by decide +kernel
theorem dX12_asksOf_398 : decode cX12_asksOf 398 = .ok (.aload_n 0, 1) := by decide +kernel
theorem dX12_asksOf_399 : decode cX12_asksOf 399 = .ok (.getfield 287, 3) := by decide +kernel
theorem dX12_asksOf_402 : decode cX12_asksOf 402 = .ok (.ifCond .eq 12, 3) := by decide +kernel
theorem dX12_asksOf_414 : decode cX12_asksOf 414 = .ok (.iconst 0, 1) := by decide +kernel
theorem dX12_asksOf_415 : decode cX12_asksOf 415 = .ok (.putfield 287, 3) := by decide +kernel
theorem dX12_asksOf_418 : decode cX12_asksOf 418 = .ok (.return_, 1) := by decide +kernel
theorem dX12_asksOf_405 : decode cX12_asksOf 405 = .ok (.iload 5, 2) := by decide +kernel
theorem dX12_asksOf_407 : decode cX12_asksOf 407 = .ok (.ifCond .ne 7, 3) := by decide +kernel
theorem dX12_asksOf_410 : decode cX12_asksOf 410 = .ok (.iconst 1, 1) := by decide +kernel
theorem dX12_asksOf_411 : decode cX12_asksOf 411 = .ok (.goto 4, 3) := by decide +kernel
theorem dX12_asksOf_390 : decode cX12_asksOf 390 = .ok (.iload 4, 2) := by decide +kernel
theorem dX12_asksOf_392 : decode cX12_asksOf 392 = .ok (.ifCond .eq 22, 3) := by decide +kernel
theorem dX12_asksOf_395 : decode cX12_asksOf 395 = .ok (.goto 10, 3) := by decide +kernel
theorem dX12_asksOf_176 : decode cX12_asksOf 176 = .ok (.aload_n 0, 1) := by decide +kernel
theorem dX12_asksOf_177 : decode cX12_asksOf 177 = .ok (.aload_n 0, 1) := by decide +kernel
theorem dX12_asksOf_178 : decode cX12_asksOf 178 = .ok (.getfield 240, 3) := by decide +kernel
theorem dX12_asksOf_181 : decode cX12_asksOf 181 = .ok (.invokevirtual 243, 3) := by decide +kernel
theorem dX12_asksOf_184 : decode cX12_asksOf 184 = .ok (.istore 7, 2) := by decide +kernel
theorem dX12_asksOf_186 : decode cX12_asksOf 186 = .ok (.aload_n 0, 1) := by decide +kernel
theorem dX12_asksOf_187 : decode cX12_asksOf 187 = .ok (.iconst 0, 1) := by decide +kernel
theorem dX12_asksOf_188 : decode cX12_asksOf 188 = .ok (.putfield 250, 3) := by decide +kernel
theorem dX12_asksOf_191 : decode cX12_asksOf 191 = .ok (.aload_n 0, 1) := by decide +kernel
theorem dX12_asksOf_192 : decode cX12_asksOf 192 = .ok (.dup, 1) := by decide +kernel
theorem dX12_asksOf_193 : decode cX12_asksOf 193 = .ok (.getfield 240, 3) := by decide +kernel
theorem dX12_asksOf_196 : decode cX12_asksOf 196 = .ok (.iconst 1, 1) := by decide +kernel
theorem dX12_asksOf_197 : decode cX12_asksOf 197 = .ok (.iadd, 1) := by decide +kernel
theorem dX12_asksOf_198 : decode cX12_asksOf 198 = .ok (.putfield 240, 3) := by decide +kernel
theorem dX12_asksOf_201 : decode cX12_asksOf 201 = .ok (.iload 7, 2) := by decide +kernel
theorem dX12_asksOf_203 : decode cX12_asksOf 203 = .ok (.iconst 1, 1) := by decide +kernel
theorem dX12_asksOf_204 : decode cX12_asksOf 204 = .ok (.if_icmp .ne 11, 3) := by decide +kernel
theorem dX12_asksOf_215 : decode cX12_asksOf 215 = .ok (.lconst 0, 1) := by decide +kernel
theorem dX12_asksOf_216 : decode cX12_asksOf 216 = .ok (.lstore 8, 2) := by decide +kernel
theorem dX12_asksOf_218 : decode cX12_asksOf 218 = .ok (.aload_n 0, 1) := by decide +kernel
theorem dX12_asksOf_219 : decode cX12_asksOf 219 = .ok (.getfield 250, 3) := by decide +kernel
theorem dX12_asksOf_222 : decode cX12_asksOf 222 = .ok (.istore 10, 2) := by decide +kernel
theorem dX12_asksOf_224 : decode cX12_asksOf 224 = .ok (.aload_n 0, 1) := by decide +kernel
theorem dX12_asksOf_225 : decode cX12_asksOf 225 = .ok (.iconst 0, 1) := by decide +kernel
theorem dX12_asksOf_226 : decode cX12_asksOf 226 = .ok (.putfield 250, 3) := by decide +kernel
theorem dX12_asksOf_262 : decode cX12_asksOf 262 = .ok (.istore 11, 2) := by decide +kernel
theorem dX12_asksOf_280 : decode cX12_asksOf 280 = .ok (.istore 6, 2) := by decide +kernel
theorem dX12_asksOf_303 : decode cX12_asksOf 303 = .ok (.istore 4, 2) := by decide +kernel
theorem dX12_asksOf_326 : decode cX12_asksOf 326 = .ok (.istore 5, 2) := by decide +kernel
theorem dX12_asksOf_328 : decode cX12_asksOf 328 = .ok (.iload 7, 2) := by decide +kernel
theorem dX12_asksOf_330 : decode cX12_asksOf 330 = .ok (.iconst 1, 1) := by decide +kernel
theorem dX12_asksOf_331 : decode cX12_asksOf 331 = .ok (.if_icmp .ne 40, 3) := by decide +kernel
theorem dX12_asksOf_371 : decode cX12_asksOf 371 = .ok (.aload_n 0, 1) := by decide +kernel
theorem dX12_asksOf_372 : decode cX12_asksOf 372 = .ok (.dup, 1) := by decide +kernel
theorem dX12_asksOf_373 : decode cX12_asksOf 373 = .ok (.getfield 240, 3) := by decide +kernel
theorem dX12_asksOf_376 : decode cX12_asksOf 376 = .ok (.iconst 1, 1) := by decide +kernel
theorem dX12_asksOf_377 : decode cX12_asksOf 377 = .ok (.iadd, 1) := by decide +kernel
theorem dX12_asksOf_378 : decode cX12_asksOf 378 = .ok (.putfield 240, 3) := by decide +kernel
theorem dX12_asksOf_381 : decode cX12_asksOf 381 = .ok (.goto (-216), 3) := by decide +kernel
theorem dX12_asksOf_305 : decode cX12_asksOf 305 = .ok (.iload 5, 2) := by decide +kernel
theorem dX12_asksOf_307 : decode cX12_asksOf 307 = .ok (.ifCond .ne 14, 3) := by decide +kernel
theorem dX12_asksOf_321 : decode cX12_asksOf 321 = .ok (.iconst 1, 1) := by decide +kernel
theorem dX12_asksOf_322 : decode cX12_asksOf 322 = .ok (.goto 4, 3) := by decide +kernel
theorem dX12_asksOf_310 : decode cX12_asksOf 310 = .ok (.iload 7, 2) := by decide +kernel
theorem dX12_asksOf_312 : decode cX12_asksOf 312 = .ok (.iconst 3, 1) := by decide +kernel
theorem dX12_asksOf_313 : decode cX12_asksOf 313 = .ok (.if_icmp .ne 12, 3) := by decide +kernel
theorem dX12_asksOf_325 : decode cX12_asksOf 325 = .ok (.iconst 0, 1) := by decide +kernel
theorem dX12_asksOf_316 : decode cX12_asksOf 316 = .ok (.iload 11, 2) := by decide +kernel
theorem dX12_asksOf_318 : decode cX12_asksOf 318 = .ok (.ifCond .eq 7, 3) := by decide +kernel
theorem dX12_asksOf_282 : decode cX12_asksOf 282 = .ok (.iload 4, 2) := by decide +kernel
theorem dX12_asksOf_284 : decode cX12_asksOf 284 = .ok (.ifCond .ne 14, 3) := by decide +kernel
theorem dX12_asksOf_298 : decode cX12_asksOf 298 = .ok (.iconst 1, 1) := by decide +kernel
theorem dX12_asksOf_299 : decode cX12_asksOf 299 = .ok (.goto 4, 3) := by decide +kernel
theorem dX12_asksOf_287 : decode cX12_asksOf 287 = .ok (.iload 7, 2) := by decide +kernel
theorem dX12_asksOf_289 : decode cX12_asksOf 289 = .ok (.iconst 2, 1) := by decide +kernel
theorem dX12_asksOf_290 : decode cX12_asksOf 290 = .ok (.if_icmp .ne 12, 3) := by decide +kernel
theorem dX12_asksOf_302 : decode cX12_asksOf 302 = .ok (.iconst 0, 1) := by decide +kernel
theorem dX12_asksOf_293 : decode cX12_asksOf 293 = .ok (.iload 11, 2) := by decide +kernel
theorem dX12_asksOf_295 : decode cX12_asksOf 295 = .ok (.ifCond .eq 7, 3) := by decide +kernel
theorem dX12_asksOf_264 : decode cX12_asksOf 264 = .ok (.iload 6, 2) := by decide +kernel
theorem dX12_asksOf_266 : decode cX12_asksOf 266 = .ok (.ifCond .ne 9, 3) := by decide +kernel
theorem dX12_asksOf_275 : decode cX12_asksOf 275 = .ok (.iconst 1, 1) := by decide +kernel
theorem dX12_asksOf_276 : decode cX12_asksOf 276 = .ok (.goto 4, 3) := by decide +kernel
theorem dX12_asksOf_269 : decode cX12_asksOf 269 = .ok (.iload 7, 2) := by decide +kernel
theorem dX12_asksOf_271 : decode cX12_asksOf 271 = .ok (.iconst 2, 1) := by decide +kernel
theorem dX12_asksOf_272 : decode cX12_asksOf 272 = .ok (.if_icmp .ne 7, 3) := by decide +kernel
theorem dX12_asksOf_279 : decode cX12_asksOf 279 = .ok (.iconst 0, 1) := by decide +kernel
theorem dX12_asksOf_229 : decode cX12_asksOf 229 = .ok (.aload_n 0, 1) := by decide +kernel
theorem dX12_asksOf_230 : decode cX12_asksOf 230 = .ok (.iconst 4, 1) := by decide +kernel
theorem dX12_asksOf_231 : decode cX12_asksOf 231 = .ok (.invokevirtual 265, 3) := by decide +kernel
theorem dX12_asksOf_234 : decode cX12_asksOf 234 = .ok (.ifCond .eq 11, 3) := by decide +kernel
theorem dX12_asksOf_237 : decode cX12_asksOf 237 = .ok (.aload_n 0, 1) := by decide +kernel
theorem dX12_asksOf_238 : decode cX12_asksOf 238 = .ok (.iconst 1, 1) := by decide +kernel
theorem dX12_asksOf_239 : decode cX12_asksOf 239 = .ok (.invokevirtual 281, 3) := by decide +kernel
theorem dX12_asksOf_242 : decode cX12_asksOf 242 = .ok (.ifCond .eq 19, 3) := by decide +kernel
theorem dX12_asksOf_261 : decode cX12_asksOf 261 = .ok (.iconst 0, 1) := by decide +kernel
theorem dX12_asksOf_245 : decode cX12_asksOf 245 = .ok (.aload_n 0, 1) := by decide +kernel
theorem dX12_asksOf_246 : decode cX12_asksOf 246 = .ok (.getfield 250, 3) := by decide +kernel
theorem dX12_asksOf_249 : decode cX12_asksOf 249 = .ok (.ifCond .ne 12, 3) := by decide +kernel
theorem dX12_asksOf_252 : decode cX12_asksOf 252 = .ok (.iload 10, 2) := by decide +kernel
theorem dX12_asksOf_254 : decode cX12_asksOf 254 = .ok (.ifCond .ne 7, 3) := by decide +kernel
theorem dX12_asksOf_257 : decode cX12_asksOf 257 = .ok (.iconst 1, 1) := by decide +kernel
theorem dX12_asksOf_258 : decode cX12_asksOf 258 = .ok (.goto 4, 3) := by decide +kernel
theorem dX12_asksOf_207 : decode cX12_asksOf 207 = .ok (.aload_n 0, 1) := by decide +kernel
theorem dX12_asksOf_208 : decode cX12_asksOf 208 = .ok (.iconst 1, 1) := by decide +kernel
theorem dX12_asksOf_209 : decode cX12_asksOf 209 = .ok (.invokevirtual 268, 3) := by decide +kernel
theorem dX12_asksOf_212 : decode cX12_asksOf 212 = .ok (.goto 4, 3) := by decide +kernel
theorem dX12_asksOf_334 : decode cX12_asksOf 334 = .ok (.iload 11, 2) := by decide +kernel
theorem dX12_asksOf_336 : decode cX12_asksOf 336 = .ok (.ifCond .eq 35, 3) := by decide +kernel
theorem dX12_asksOf_339 : decode cX12_asksOf 339 = .ok (.aload_n 0, 1) := by decide +kernel
theorem dX12_asksOf_340 : decode cX12_asksOf 340 = .ok (.lload 8, 2) := by decide +kernel
theorem dX12_asksOf_342 : decode cX12_asksOf 342 = .ok (.lconst 1, 1) := by decide +kernel
theorem dX12_asksOf_343 : decode cX12_asksOf 343 = .ok (.lcmp, 1) := by decide +kernel
theorem dX12_asksOf_344 : decode cX12_asksOf 344 = .ok (.ifCond .ge 7, 3) := by decide +kernel
theorem dX12_asksOf_351 : decode cX12_asksOf 351 = .ok (.lload 8, 2) := by decide +kernel
theorem dX12_asksOf_353 : decode cX12_asksOf 353 = .ok (.ldc2_w 296, 3) := by decide +kernel
theorem dX12_asksOf_356 : decode cX12_asksOf 356 = .ok (.lcmp, 1) := by decide +kernel
theorem dX12_asksOf_357 : decode cX12_asksOf 357 = .ok (.ifCond .le 8, 3) := by decide +kernel
theorem dX12_asksOf_365 : decode cX12_asksOf 365 = .ok (.lload 8, 2) := by decide +kernel
theorem dX12_asksOf_367 : decode cX12_asksOf 367 = .ok (.l2i, 1) := by decide +kernel
theorem dX12_asksOf_368 : decode cX12_asksOf 368 = .ok (.putfield 284, 3) := by decide +kernel
theorem dX12_asksOf_360 : decode cX12_asksOf 360 = .ok (.bipush 99, 2) := by decide +kernel
theorem dX12_asksOf_362 : decode cX12_asksOf 362 = .ok (.goto 6, 3) := by decide +kernel
theorem dX12_asksOf_347 : decode cX12_asksOf 347 = .ok (.iconst 1, 1) := by decide +kernel
theorem dX12_asksOf_348 : decode cX12_asksOf 348 = .ok (.goto 20, 3) := by decide +kernel
theorem dX12_asksOf_32 : decode cX12_asksOf 32 = .ok (.return_, 1) := by decide +kernel
theorem dX12_asksOf_6 : decode cX12_asksOf 6 = .ok (.iload_n 3, 1) := by decide +kernel
theorem dX12_asksOf_7 : decode cX12_asksOf 7 = .ok (.iload_n 2, 1) := by decide +kernel
theorem dX12_asksOf_8 : decode cX12_asksOf 8 = .ok (.iconst 1, 1) := by decide +kernel
theorem dX12_asksOf_9 : decode cX12_asksOf 9 = .ok (.iadd, 1) := by decide +kernel
theorem dX12_asksOf_10 : decode cX12_asksOf 10 = .ok (.if_icmp .ne 7, 3) := by decide +kernel
theorem dX12_asksOf_17 : decode cX12_asksOf 17 = .ok (.iconst 0, 1) := by decide +kernel
theorem dX12_asksOf_13 : decode cX12_asksOf 13 = .ok (.iconst 1, 1) := by decide +kernel
theorem dX12_asksOf_14 : decode cX12_asksOf 14 = .ok (.goto 4, 3) := by decide +kernel
theorem v_6d68fb9760 : (0 : Int) ≤ 63 := by omega
theorem v_256388ed94 : (63 : Int) < 4870 := by omega
theorem v_56f10e719e {a0 a1 a2 : Int} (h0 : a0 < a1) (h1 : a1 < a2) (h2 : a2 ≤ 7) : a0 ≤ 2147483647 := by omega
theorem v_04cc41dda3 {a0 a1 : Int} (h0 : 0 ≤ a0) (h1 : a0 < a1) : -2147483648 ≤ a1 := by omega
theorem v_42d513db37 {a0 a1 : Int} (h0 : a0 < a1) (h1 : a1 ≤ 7) : a0 ≤ 2147483647 := by omega
theorem v_b97c864d6e {a0 a1 a2 : Int} (h0 : a0 < a1) (h1 : a1 < a2) (h2 : a2 ≤ 7) : a0 < 7 := by omega
theorem v_779a8f92dc {a0 a1 a2 a3 : Int} (h0 : a0 < a1) (h1 : a1 < a2) (h2 : a2 = a3) : a0 < a3 := by omega
theorem v_1ea611e897 {a0 : Int} (h0 : a0 ≤ 4) : a0 ≤ 2147483647 := by omega
theorem v_156421639c {a0 a1 : Int} (h0 : 0 ≤ a0) (h1 : a0 < a1) : 0 ≤ a1 := by omega
theorem v_026f2abe38 {a0 a1 : Int} (h0 : a0 < a1) (h1 : a1 ≤ 7) : a0 < 7 := by omega
theorem v_9b48e6bcc2 {a0 a1 a2 : Int} (h0 : a0 < a1) (h1 : a1 = a2) : a0 < a2 := by omega
theorem v_a487af07e3 {a0 a1 : Int} (h0 : a0 < a1) : -2147483648 ≤ -a0 + a1 := by omega
theorem v_23ff73e4f0 {a0 a1 a2 : Int} (h0 : 0 ≤ a0) (h1 : a1 < a2) (h2 : a2 ≤ 7) : -a0 + a1 ≤ 2147483647 := by omega
theorem v_1a03ae3655 : (0 : Int) < 7 := by omega
theorem v_3a9c67f9f0 {a0 a1 a2 a3 : Int} (h0 : 0 ≤ a0) (h1 : a0 < a1) (h2 : a1 < a2) (h3 : a2 = a3) : 0 < a3 := by omega
theorem v_f9904d9a45 {a0 : Int} (h0 : a0 ≤ 7) : a0 ≤ 2147483647 := by omega
theorem v_f485c0e4be : (6 : Int) < 4870 := by omega
theorem v_bea9724c1b {a0 a1 : Int} : -a0 + a1 = a1 - a0 := by omega
theorem v_4de1006024 {a0 a1 a2 : Int} (h0 : a0 < a1) (h1 : a1 < a2) (h2 : a2 ≤ 7) : a0 ≤ 7 := by omega
theorem v_21f2fcb1e0 {a0 a1 : Int} (h0 : a0 < a1) (h1 : a1 ≤ 7) : a0 ≤ 7 := by omega
theorem v_982da60400 {a0 : Int} (h0 : a0 ≤ 4) : a0 ≤ 7 := by omega
theorem v_a09e2501d0 {a0 a1 : Int} (h0 : a0 ≤ 99) (h1 : a0 = a1) : a1 ≤ 99 := by omega
theorem v_b7639367d2 {a0 : Int} : 64 + a0 = a0 + 64 := by omega
theorem v_459392c39c {a0 a1 : Int} (h0 : -1 ≤ a0) (h1 : a0 = a1) : 0 ≤ a1 + 64 := by omega
theorem v_6f12533f70 {a0 a1 a2 : Int} (h0 : a0 < a1) (h1 : a1 ≤ 6) (h2 : a0 = a2) : a2 + 64 < 4870 := by omega
theorem v_3820318b25 {a0 a1 : Int} (h0 : -1 ≤ a0) (h1 : a0 = a1) (h2 : ¬ a1 = -1) : 0 ≤ a1 := by omega
theorem v_f4bfe6b63e {a0 a1 a2 : Int} (h0 : a0 < a1) (h1 : a0 = a2) : a2 < a1 := by omega
theorem v_9c3818c621 {a0 : Int} : a0 + 64 = 64 + a0 := by omega
theorem v_11654febe9 {a0 : Int} : 400 * a0 = 400 * a0 := by omega
theorem v_b853ef0c53 {a0 a1 : Int} (h0 : -1 ≤ a0) (h1 : a0 = a1) (h2 : ¬ a1 = -1) : 0 ≤ (400 * a1) := by omega
theorem v_fd61b4f9d2 {a0 a1 : Int} (h0 : 0 ≤ a0) : (400 * a1) ≤ (400 * a1 + a0) + 1 := by omega
theorem v_c1ae360aff {a0 a1 a2 a3 : Int} (h0 : a0 < a1) (h1 : a1 ≤ 6) (h2 : a0 = a2) (h3 : a3 ≤ 400) : (400 * a2 + a3) ≤ 2400 := by omega
theorem v_2911570e54 {a0 a1 a2 : Int} (h0 : -1 ≤ a0) (h1 : a0 = a1) (h2 : ¬ a1 = -1) (h3 : 0 ≤ a2) : 0 ≤ (400 * a1 + a2) := by omega
theorem v_e2eb5ef622 {a0 a1 : Int} (h0 : 0 ≤ a0) (h1 : a0 ≤ a1 + 1) (h2 : a1 ≤ 2400) : zr a0 := by omega
theorem v_3826f9e583 {a0 : Int} (h0 : a0 ≤ 2400) (h1 : 0 ≤ a0) : zr a0 := by omega
theorem v_d4d32ed67b {a0 a1 : Int} (h0 : a0 ≤ 2400) (h1 : ¬ a0 ≤ a1) : a1 ≤ 4000 := by omega
theorem v_a71ed62e8f {a0 a1 : Int} (h0 : ¬ a0 ≤ a1) : ¬ a1 - 1 = a0 := by omega
theorem v_c71e976cc1 {a0 a1 a2 : Int} (h0 : a0 ≤ a1) (h1 : a2 = a0) : (a2 + 1) ≤ a1 + 1 := by omega
theorem v_826844c169 {a0 a1 : Int} (h0 : a0 = a1) : a0 + 1 = a1 + 1 := by omega
theorem v_0721e0afbd {a0 a1 a2 a3 : Int} (h0 : a0 < a1) (h1 : a2 = a1) : a3 - (a2 + 1) + 1 < (a3 - a0 + 1) := by omega
theorem v_030ef49f57 {a0 a1 : Int} (h0 : ¬ a0 ≤ a1) : 0 < a0 - a1 + 1 := by omega
theorem v_c098d251b2 {a0 a1 : Int} (h0 : a0 ≤ 2400) (h1 : ¬ a0 ≤ a1) : (a1 + 1) ≤ 4000 := by omega
theorem v_6d75361b57 {a0 a1 : Int} (h0 : a0 = (a1 + 1) + 1) : a0 = a1 + 1 + 1 := by omega
theorem v_6127ba828a {a0 a1 a2 : Int} (h0 : a0 = (a1 + 1) + 1) (h1 : a1 + 1 + 1 < a2) : a0 < a2 := by omega
theorem v_72b4d9352e {a0 a1 : Int} (h0 : 0 ≤ a0) (h1 : a1 = (a0 + 1) + 1) : 0 ≤ a1 := by omega
theorem v_3b86973250 {a0 : Int} (h0 : a0 ≤ 1000000000) (h1 : 1 ≤ a0) : zr64 a0 := by omega
theorem v_e8afa7c0f8 {a0 : Int} (h0 : 99 < a0) : 99 < a0 := by omega
theorem v_1933f8c33e : (99 : Int) ≤ 99 := by omega
theorem v_1ffc68eaa0 {a0 : Int} (h0 : a0 = 1) : ¬ a0 = 3 := by omega
theorem v_2eb8e35f95 {a0 : Int} (h0 : a0 = 1) : ¬ a0 = 2 := by omega
theorem v_82f4fb1d7a {a0 a1 a2 a3 : Int} (h0 : a0 ≤ 2400) (h1 : a1 ≤ a0) (h2 : a2 ≤ a1) (h3 : a3 = a2) : a3 ≤ 4000 := by omega
theorem v_0a2f46dc45 {a0 a1 a2 : Int} (h0 : a0 = a1) (h1 : a2 = a0 + 1) : a2 = a1 + 1 := by omega
theorem v_663e2e171d {a0 a1 a2 a3 : Int} (h0 : a0 = a1) (h1 : a2 = a0 + 1) (h2 : a1 + 1 < a3) : a2 < a3 := by omega
theorem v_0fbd221e3c {a0 a1 a2 a3 : Int} (h0 : 0 ≤ a0) (h1 : a0 + 1 < a1) (h2 : a2 = a1) (h3 : a3 = a2 + 1) : 0 ≤ a3 := by omega
theorem v_4795b6a771 {a0 a1 a2 : Int} (h0 : a0 ≤ a1) (h1 : a2 = a0) (h2 : a1 = a0) : a2 = a1 := by omega
theorem v_347a7c9478 {a0 : Int} (h0 : a0 = -1) : a0 = -1 := by omega
theorem v_fd9be779c7 {a0 a1 a2 : Int} (h0 : 0 ≤ a0) (h1 : a0 < a1) (h2 : a1 < a2) (h3 : a2 ≤ 7) : zr a1 := by omega
theorem v_46df51d402 {a0 a1 a2 : Int} (h0 : 0 ≤ a0) (h1 : a0 < a1) (h2 : a1 < a2) (h3 : a2 ≤ 7) : zr ((a0 + 1)) := by omega
set_option maxHeartbeats 4000000 in
set_option maxRecDepth 100000 in
theorem k_asksOf {l : Launch} {G : jG} {nh : Nat} {fh : Nat → Option va_E} (x : Int) (pl : Int) (pr : Int) (Rv : VS) (ms : Int) (mv : Int) (mt : Int) (mfa : Int) (mtn : Int) (mtk : Int) (mlv : Int) (mbd : Int) (mgo : Int) (mge : Int) (mbk : Int) (mtt : Int) (mtl : Int) (hm : Int) (pm : Int) (hb : Int) (sb : Int) (mfu : Int) (mdm : Int) (mla : Int) (K : Int → Int) (co : Int → Int) (cd : Int → Int) (of : Int → Int) (aq : Int → Int) (q0 : 0 ≤ x) (q1 : x < hm) (q2 : 0 ≤ pl) (q3 : pl < pr) (q4 : pr < pm) (q5 : 0 ≤ mbk) (q6 : mbk ≤ 1) (q7 : -1 ≤ K 63) (q8 : K 63 < K 62) (q9 : 0 ≤ K 62) (q10 : K 62 ≤ 6) (q11 : KLaw K) (q12 : Rg K 4870 (-2147483648) 2147483647) (q13 : Rg aq 8 (-2147483648) 2147483647) (q14 : LwM K Rv) (q15 : 0 ≤ K 6) (q16 : K 6 ≤ 99) (q17 : okF K) (q18 : hm = Hi K) (q19 : pm = bsum K) (q20 : HouT co cd K hm) (q21 : Rg of 7 0 4) (q22 : 1 ≤ hm) (q23 : hm ≤ 1260) (q24 : 0 ≤ pm) (q25 : pm ≤ 7) (hk98 : fh 98 = some (.inr (12, (.int (zI ms) :: .int (zI mv) :: .ref 99 :: .ref 100 :: .ref 101 :: .ref 102 :: .ref 103 :: .ref 104 :: .ref 105 :: .int (zI mt) :: .int (zI mfa) :: .ref 106 :: .ref 107 :: .ref 108 :: .int (zI mtn) :: .int (zI mtk) :: .int (zI mlv) :: .int (zI mbd) :: .int (zI mgo) :: .int (zI mge) :: .int (zI mbk) :: .ref 109 :: .int (zI mtt) :: .int (zI mtl) :: .ref 110 :: .ref 111 :: .ref 112 :: .ref 113 :: .ref 114 :: .ref 115 :: .ref 116 :: .ref 117 :: .int (zI hm) :: .int (zI pm) :: .int (zI hb) :: .int (zI sb) :: .ref 118 :: .ref 119 :: .ref 120 :: .ref 121 :: .ref 122 :: .ref 123 :: .ref 124 :: .ref 125 :: .ref 126 :: .ref 127 :: .ref 128 :: .ref 129 :: .int (zI mfu) :: .ref 130 :: .ref 131 :: .ref 132 :: .ref 133 :: .ref 134 :: .int (zI mdm) :: .int (zI mla) :: [])))) (hk100 : fh 100 = some (.inl (0, 4870, .inl (zA K)))) (hk110 : fh 110 = some (.inl (0, 8820, .inl (zA co)))) (hk111 : fh 111 = some (.inl (0, 1260, .inl (zA cd)))) (hk117 : fh 117 = some (.inl (0, 7, .inl (zA of)))) (hk109 : fh 109 = some (.inl (0, 8, .inl (zA aq)))) : JM l G yX12_asksOf MX12_asksOf { frames := 41, cells := 0, slots := 0, locals := 964 } [.ref 98, .int (zI x), .int (zI pl), .int (zI pr)] (nh, fh) (fun rr h9 => ∃ go2 : Int, ∃ ge2 : Int, ∃ bk2 : Int, ∃ tt2 : Int, ∃ tl2 : Int, ∃ aq2 : Int → Int, rr = none ∧ h9 = (nh, hc fh [(98, .inr (12, (.int (zI ms) :: .int (zI mv) :: .ref 99 :: .ref 100 :: .ref 101 :: .ref 102 :: .ref 103 :: .ref 104 :: .ref 105 :: .int (zI mt) :: .int (zI mfa) :: .ref 106 :: .ref 107 :: .ref 108 :: .int (zI mtn) :: .int (zI mtk) :: .int (zI mlv) :: .int (zI mbd) :: .int (zI go2) :: .int (zI ge2) :: .int (zI bk2) :: .ref 109 :: .int (zI tt2) :: .int (zI tl2) :: .ref 110 :: .ref 111 :: .ref 112 :: .ref 113 :: .ref 114 :: .ref 115 :: .ref 116 :: .ref 117 :: .int (zI hm) :: .int (zI pm) :: .int (zI hb) :: .int (zI sb) :: .ref 118 :: .ref 119 :: .ref 120 :: .ref 121 :: .ref 122 :: .ref 123 :: .ref 124 :: .ref 125 :: .ref 126 :: .ref 127 :: .ref 128 :: .ref 129 :: .int (zI mfu) :: .ref 130 :: .ref 131 :: .ref 132 :: .ref 133 :: .ref 134 :: .int (zI mdm) :: .int (zI mla) :: []))), (109, .inl (0, 8, .inl (zA aq2)))]) ∧ (1 ≤ tt2) ∧ (tt2 ≤ 99) ∧ (0 ≤ tl2) ∧ (tl2 ≤ 1) ∧ (0 ≤ bk2) ∧ (bk2 ≤ 1) ∧ (Rg aq2 8 (-2147483648) 2147483647) ∧ (VdX Rv (itB K (x).toNat) pm (K 6) pl pr tl2 tt2)) := by
  refine JM.of (by decide) rfl (fun h => by cases h) (Nat.le_of_ble_eq_true rfl) ⟨8, rfl⟩ ?_
  refine J_hc0 (J_ls (ls2 := [some (.ref 98), some (.int (zI x)), some (.int (zI pl)), some (.int (zI pr)), none, none, none, none, none, none, none, none]) rfl ?_)
  refine J_aload_n dX12_asksOf_0 rfl rfl ?_
  refine Z_iconst (n := 1) dX12_asksOf_1 ?_
  refine K_put (fs2 := (.int (zI ms) :: .int (zI mv) :: .ref 99 :: .ref 100 :: .ref 101 :: .ref 102 :: .ref 103 :: .ref 104 :: .ref 105 :: .int (zI mt) :: .int (zI mfa) :: .ref 106 :: .ref 107 :: .ref 108 :: .int (zI mtn) :: .int (zI mtk) :: .int (zI mlv) :: .int (zI mbd) :: .int (zI mgo) :: .int (zI mge) :: .int (zI mbk) :: .ref 109 :: .int (zI 1) :: .int (zI mtl) :: .ref 110 :: .ref 111 :: .ref 112 :: .ref 113 :: .ref 114 :: .ref 115 :: .ref 116 :: .ref 117 :: .int (zI hm) :: .int (zI pm) :: .int (zI hb) :: .int (zI sb) :: .ref 118 :: .ref 119 :: .ref 120 :: .ref 121 :: .ref 122 :: .ref 123 :: .ref 124 :: .ref 125 :: .ref 126 :: .ref 127 :: .ref 128 :: .ref 129 :: .int (zI mfu) :: .ref 130 :: .ref 131 :: .ref 132 :: .ref 133 :: .ref 134 :: .int (zI mdm) :: .int (zI mla) :: [])) dX12_asksOf_2 fw_X12_284 hk98 (Nat.le_of_ble_eq_true rfl) (fun _ => ⟨rfl, rfl⟩) rfl ?_
  refine J_aload_n dX12_asksOf_5 rfl rfl ?_
  have jn18 : ∀ (t0_18j : Int), (0 ≤ t0_18j) → (t0_18j ≤ 1) → (t0_18j = 1 ↔ pr = pl + 1) → J l G MX12_asksOf { frames := 41, cells := 0, slots := 0, locals := 964 } jE (jMQ G { frames := 41, cells := 0, slots := 0, locals := 964 } (fun rr h9 => ∃ go2 : Int, ∃ ge2 : Int, ∃ bk2 : Int, ∃ tt2 : Int, ∃ tl2 : Int, ∃ aq2 : Int → Int, rr = none ∧ h9 = (nh, hc fh [(98, .inr (12, (.int (zI ms) :: .int (zI mv) :: .ref 99 :: .ref 100 :: .ref 101 :: .ref 102 :: .ref 103 :: .ref 104 :: .ref 105 :: .int (zI mt) :: .int (zI mfa) :: .ref 106 :: .ref 107 :: .ref 108 :: .int (zI mtn) :: .int (zI mtk) :: .int (zI mlv) :: .int (zI mbd) :: .int (zI go2) :: .int (zI ge2) :: .int (zI bk2) :: .ref 109 :: .int (zI tt2) :: .int (zI tl2) :: .ref 110 :: .ref 111 :: .ref 112 :: .ref 113 :: .ref 114 :: .ref 115 :: .ref 116 :: .ref 117 :: .int (zI hm) :: .int (zI pm) :: .int (zI hb) :: .int (zI sb) :: .ref 118 :: .ref 119 :: .ref 120 :: .ref 121 :: .ref 122 :: .ref 123 :: .ref 124 :: .ref 125 :: .ref 126 :: .ref 127 :: .ref 128 :: .ref 129 :: .int (zI mfu) :: .ref 130 :: .ref 131 :: .ref 132 :: .ref 133 :: .ref 134 :: .int (zI mdm) :: .int (zI mla) :: []))), (109, .inl (0, 8, .inl (zA aq2)))]) ∧ (1 ≤ tt2) ∧ (tt2 ≤ 99) ∧ (0 ≤ tl2) ∧ (tl2 ≤ 1) ∧ (0 ≤ bk2) ∧ (bk2 ≤ 1) ∧ (Rg aq2 8 (-2147483648) 2147483647) ∧ (VdX Rv (itB K (x).toNat) pm (K 6) pl pr tl2 tt2))) (nh, hc fh [(98, .inr (12, (.int (zI ms) :: .int (zI mv) :: .ref 99 :: .ref 100 :: .ref 101 :: .ref 102 :: .ref 103 :: .ref 104 :: .ref 105 :: .int (zI mt) :: .int (zI mfa) :: .ref 106 :: .ref 107 :: .ref 108 :: .int (zI mtn) :: .int (zI mtk) :: .int (zI mlv) :: .int (zI mbd) :: .int (zI mgo) :: .int (zI mge) :: .int (zI mbk) :: .ref 109 :: .int (zI 1) :: .int (zI mtl) :: .ref 110 :: .ref 111 :: .ref 112 :: .ref 113 :: .ref 114 :: .ref 115 :: .ref 116 :: .ref 117 :: .int (zI hm) :: .int (zI pm) :: .int (zI hb) :: .int (zI sb) :: .ref 118 :: .ref 119 :: .ref 120 :: .ref 121 :: .ref 122 :: .ref 123 :: .ref 124 :: .ref 125 :: .ref 126 :: .ref 127 :: .ref 128 :: .ref 129 :: .int (zI mfu) :: .ref 130 :: .ref 131 :: .ref 132 :: .ref 133 :: .ref 134 :: .int (zI mdm) :: .int (zI mla) :: [])))]) 0 0 18 [some (.ref 98), some (.int (zI x)), some (.int (zI pl)), some (.int (zI pr)), none, none, none, none, none, none, none, none] [.int (zI t0_18j), .ref 98] := by
    intro t0_18j j18_0 j18_1 j18_2
    refine K_put (fs2 := (.int (zI ms) :: .int (zI mv) :: .ref 99 :: .ref 100 :: .ref 101 :: .ref 102 :: .ref 103 :: .ref 104 :: .ref 105 :: .int (zI mt) :: .int (zI mfa) :: .ref 106 :: .ref 107 :: .ref 108 :: .int (zI mtn) :: .int (zI mtk) :: .int (zI mlv) :: .int (zI mbd) :: .int (zI mgo) :: .int (zI mge) :: .int (zI mbk) :: .ref 109 :: .int (zI 1) :: .int (zI t0_18j) :: .ref 110 :: .ref 111 :: .ref 112 :: .ref 113 :: .ref 114 :: .ref 115 :: .ref 116 :: .ref 117 :: .int (zI hm) :: .int (zI pm) :: .int (zI hb) :: .int (zI sb) :: .ref 118 :: .ref 119 :: .ref 120 :: .ref 121 :: .ref 122 :: .ref 123 :: .ref 124 :: .ref 125 :: .ref 126 :: .ref 127 :: .ref 128 :: .ref 129 :: .int (zI mfu) :: .ref 130 :: .ref 131 :: .ref 132 :: .ref 133 :: .ref 134 :: .int (zI mdm) :: .int (zI mla) :: [])) dX12_asksOf_18 fw_X12_287 rfl (Nat.le_of_ble_eq_true rfl) (jbz (v_2b02420001 j18_0) (v_6b0b292328 j18_1)) rfl ?_
    refine J_aload_n dX12_asksOf_21 rfl rfl ?_
    refine J_get (v := .ref 100) dX12_asksOf_22 fl_X12_20 rfl rfl ?_
    refine Z_bipush (n := 63) dX12_asksOf_25 (by decide +kernel) ?_
    obtain ⟨z1, ez1⟩ : ∃ z : Int, K 63 = z := ⟨_, rfl⟩
    have h2 := Rg.at q12 v_6d68fb9760 v_256388ed94 ez1
    refine Y_iald (z := z1) 4870 dX12_asksOf_27 hk100 rfl (by decide) v_6d68fb9760 v_256388ed94 ez1 ?_
    refine Z_iconst (n := -1) dX12_asksOf_28 ?_
    refine Z_icmp_ne (tgt := 33) dX12_asksOf_29 (by decide) (v_f306e1cdb8 h2.1 h2.2) v_d64efa60f9 (fun h3 => ?_) (fun h3 => ?_)
    · refine J_aload_n dX12_asksOf_33 rfl rfl ?_
      refine J_get (v := .ref 109) dX12_asksOf_34 fl_X12_52 rfl rfl ?_
      refine Z_iconst (n := 0) dX12_asksOf_37 ?_
      refine J_iload_n dX12_asksOf_38 rfl rfl ?_
      refine Y_iast (v := pl) 8 dX12_asksOf_39 hk109 rfl (by decide) v_939070ca3f v_d437d0a088 (fun f4 ef4 => ?_)
      have h5 : Rg f4 8 (-2147483648) 2147483647 := Rg.ups q13 ef4 (v_c11e42827f q2) (v_56f10e719e q3 q4 q25)
      refine J_aload_n dX12_asksOf_40 rfl rfl ?_
      refine J_get (v := .ref 109) dX12_asksOf_41 fl_X12_52 rfl rfl ?_
      refine Z_iconst (n := 1) dX12_asksOf_44 ?_
      refine J_iload_n dX12_asksOf_45 rfl rfl ?_
      refine Y_iast (v := pr) 8 dX12_asksOf_46 rfl rfl (by decide) v_316afd7d0b v_d89e2b4e60 (fun f6 ef6 => ?_)
      have h7 : Rg f6 8 (-2147483648) 2147483647 := Rg.ups h5 ef6 (v_04cc41dda3 q2 q3) (v_42d513db37 q4 q25)
      refine J_aload_n dX12_asksOf_47 rfl rfl ?_
      refine J_get (v := .ref 109) dX12_asksOf_48 fl_X12_52 rfl rfl ?_
      refine Z_iconst (n := 2) dX12_asksOf_51 ?_
      refine J_aload_n dX12_asksOf_52 rfl rfl ?_
      refine J_iload_n dX12_asksOf_53 rfl rfl ?_
      refine J_iload_n dX12_asksOf_54 rfl rfl ?_
      refine J_callV (st := [.int (zI 2), .ref 109]) dX12_asksOf_55 cv_X12_290 (k_colourOf x pl co ms mv mt mfa mtn mtk mlv mbd mgo mge mbk 1 t0_18j hm pm hb sb mfu mdm mla q0 (v_6251b724b8 q1 q23) q2 (v_b97c864d6e q3 q4 q25) rfl hk110) rfl rfl rfl (Nat.le_of_ble_eq_true rfl) ⟨(Nat.le_of_ble_eq_true rfl), (Nat.le_of_ble_eq_true rfl)⟩ ⟨(Nat.le_of_ble_eq_true rfl), (Nat.le_of_ble_eq_true rfl)⟩ (fun r h9 hp => ?_)
      obtain ⟨z8, rfl, rfl, h9⟩ := hp
      refine J_nf (nh2 := nh) (ck2 := 0) (sk2 := 0) (st2 := [.int (zI z8), .int (zI 2), .ref 109]) rfl rfl rfl rfl ?_
      have g10 := HouT.col (h := x) (j := pl) q20 q17 q18 (v_2b02420001 q0) (v_b9aca61388 q1) (v_2b02420001 q2) (v_779a8f92dc q3 q4 q19) ((congrArg co (by omega)).trans h9)
      refine Y_iast (v := z8) 8 dX12_asksOf_58 rfl rfl (by decide) v_06d31e7a75 v_d49066c1ea (fun f11 ef11 => ?_)
      have h12 : Rg f11 8 (-2147483648) 2147483647 := Rg.ups h7 ef11 (v_c11e42827f g10.2.1) (v_1ea611e897 g10.2.2)
      refine J_aload_n dX12_asksOf_59 rfl rfl ?_
      refine J_get (v := .ref 109) dX12_asksOf_60 fl_X12_52 rfl rfl ?_
      refine Z_iconst (n := 3) dX12_asksOf_63 ?_
      refine J_aload_n dX12_asksOf_64 rfl rfl ?_
      refine J_iload_n dX12_asksOf_65 rfl rfl ?_
      refine J_iload_n dX12_asksOf_66 rfl rfl ?_
      refine J_callV (st := [.int (zI 3), .ref 109]) dX12_asksOf_67 cv_X12_290 (k_colourOf x pr co ms mv mt mfa mtn mtk mlv mbd mgo mge mbk 1 t0_18j hm pm hb sb mfu mdm mla q0 (v_6251b724b8 q1 q23) (v_156421639c q2 q3) (v_026f2abe38 q4 q25) rfl hk110) rfl rfl rfl (Nat.le_of_ble_eq_true rfl) ⟨(Nat.le_of_ble_eq_true rfl), (Nat.le_of_ble_eq_true rfl)⟩ ⟨(Nat.le_of_ble_eq_true rfl), (Nat.le_of_ble_eq_true rfl)⟩ (fun r h9 hp => ?_)
      obtain ⟨z13, rfl, rfl, h14⟩ := hp
      refine J_nf (nh2 := nh) (ck2 := 0) (sk2 := 0) (st2 := [.int (zI z13), .int (zI 3), .ref 109]) rfl rfl rfl rfl ?_
      have g15 := HouT.col (h := x) (j := pr) q20 q17 q18 (v_2b02420001 q0) (v_b9aca61388 q1) (v_156421639c q2 q3) (v_9b48e6bcc2 q4 q19) ((congrArg co (by omega)).trans h14)
      refine Y_iast (v := z13) 8 dX12_asksOf_70 rfl rfl (by decide) v_c33180d5d7 v_58b9537003 (fun f16 ef16 => ?_)
      have h17 : Rg f16 8 (-2147483648) 2147483647 := Rg.ups h12 ef16 (v_c11e42827f g15.2.1) (v_1ea611e897 g15.2.2)
      refine J_aload_n dX12_asksOf_71 rfl rfl ?_
      refine J_get (v := .ref 109) dX12_asksOf_72 fl_X12_52 rfl rfl ?_
      refine Z_iconst (n := 4) dX12_asksOf_75 ?_
      refine J_iload_n dX12_asksOf_76 rfl rfl ?_
      refine J_iload_n dX12_asksOf_77 rfl rfl ?_
      refine Z_isub (c := -pl + pr) dX12_asksOf_78 v_0b505d131c ?_
      refine Y_iast (v := -pl + pr) 8 dX12_asksOf_79 rfl rfl (by decide) v_92ab544b5f v_c1c1c5fa1b (fun f18 ef18 => ?_)
      have h19 : Rg f18 8 (-2147483648) 2147483647 := Rg.ups h17 ef18 (v_a487af07e3 q3) (v_23ff73e4f0 q2 q4 q25)
      refine J_aload_n dX12_asksOf_80 rfl rfl ?_
      refine J_get (v := .ref 109) dX12_asksOf_81 fl_X12_52 rfl rfl ?_
      refine Z_iconst (n := 5) dX12_asksOf_84 ?_
      refine J_aload_n dX12_asksOf_85 rfl rfl ?_
      refine J_iload_n dX12_asksOf_86 rfl rfl ?_
      refine Z_iconst (n := 0) dX12_asksOf_87 ?_
      refine J_callV (st := [.int (zI 5), .ref 109]) dX12_asksOf_88 cv_X12_290 (k_colourOf x 0 co ms mv mt mfa mtn mtk mlv mbd mgo mge mbk 1 t0_18j hm pm hb sb mfu mdm mla q0 (v_6251b724b8 q1 q23) v_939070ca3f v_1a03ae3655 rfl hk110) rfl rfl rfl (Nat.le_of_ble_eq_true rfl) ⟨(Nat.le_of_ble_eq_true rfl), (Nat.le_of_ble_eq_true rfl)⟩ ⟨(Nat.le_of_ble_eq_true rfl), (Nat.le_of_ble_eq_true rfl)⟩ (fun r h9 hp => ?_)
      obtain ⟨z20, rfl, rfl, h21⟩ := hp
      refine J_nf (nh2 := nh) (ck2 := 0) (sk2 := 0) (st2 := [.int (zI z20), .int (zI 5), .ref 109]) rfl rfl rfl rfl ?_
      have g22 := HouT.col (h := x) (j := 0) q20 q17 q18 (v_2b02420001 q0) (v_b9aca61388 q1) v_939070ca3f (v_3a9c67f9f0 q2 q3 q4 q19) ((congrArg co (by omega)).trans h21)
      refine Y_iast (v := z20) 8 dX12_asksOf_91 rfl rfl (by decide) v_17fcbbe8da v_ae46e08265 (fun f23 ef23 => ?_)
      have h24 : Rg f23 8 (-2147483648) 2147483647 := Rg.ups h19 ef23 (v_c11e42827f g22.2.1) (v_1ea611e897 g22.2.2)
      refine J_aload_n dX12_asksOf_92 rfl rfl ?_
      refine J_get (v := .ref 109) dX12_asksOf_93 fl_X12_52 rfl rfl ?_
      refine Z_bipush (n := 6) dX12_asksOf_96 (by decide +kernel) ?_
      refine J_aload_n dX12_asksOf_98 rfl rfl ?_
      refine J_get (v := .int (zI pm)) dX12_asksOf_99 fl_X12_293 rfl rfl ?_
      refine Y_iast (v := pm) 8 dX12_asksOf_102 rfl rfl (by decide) v_54997b3cd8 v_a39c716f51 (fun f25 ef25 => ?_)
      have h26 : Rg f25 8 (-2147483648) 2147483647 := Rg.ups h24 ef25 (v_c11e42827f q24) (v_f9904d9a45 q25)
      refine J_aload_n dX12_asksOf_103 rfl rfl ?_
      refine J_get (v := .ref 109) dX12_asksOf_104 fl_X12_52 rfl rfl ?_
      refine Z_bipush (n := 7) dX12_asksOf_107 (by decide +kernel) ?_
      refine J_aload_n dX12_asksOf_109 rfl rfl ?_
      refine J_get (v := .ref 100) dX12_asksOf_110 fl_X12_20 rfl rfl ?_
      refine Z_bipush (n := 6) dX12_asksOf_113 (by decide +kernel) ?_
      obtain ⟨z27, ez27⟩ : ∃ z : Int, K 6 = z := ⟨_, rfl⟩
      have h28 := Rg.at q12 v_54997b3cd8 v_f485c0e4be ez27
      refine Y_iald (z := z27) 4870 dX12_asksOf_115 hk100 rfl (by decide) v_54997b3cd8 v_f485c0e4be ez27 ?_
      refine Y_iast (v := z27) 8 dX12_asksOf_116 rfl rfl (by decide) v_9801f0d3f8 v_1f6d31d0c4 (fun f29 ef29 => ?_)
      have h30 : Rg f29 8 (-2147483648) 2147483647 := Rg.ups h26 ef29 (v_d88ddc6924 h28.1) (v_1b64565166 h28.2)
      obtain ⟨w8, gw8e⟩ : ∃ w : Int → Int, wdF pl pr z8 z13 z20 pm z27 = w := ⟨_, rfl⟩
      have gw8 : EqN f29 w8 8 := by rw [← gw8e]; exact wdE_of ef4 ef6 ef11 ef16 ef18 ef23 ef25 ef29 v_bea9724c1b
      have gw9 : Rg w8 8 (-1000000000) 1000000000 := by rw [← gw8e]; exact wdF_rg (v_2b02420001 q2) (v_4de1006024 q3 q4 q25) (v_156421639c q2 q3) (v_21f2fcb1e0 q4 q25) (v_2b02420001 g10.2.1) (v_982da60400 g10.2.2) (v_2b02420001 g15.2.1) (v_982da60400 g15.2.2) (v_2b02420001 g22.2.1) (v_982da60400 g22.2.2) (v_2b02420001 q24) (v_dc59a041dc q25) (v_9af1543160 q15 ez27) (v_a09e2501d0 q16 ez27)
      refine J_aload_n dX12_asksOf_117 rfl rfl ?_
      refine Z_sipush (n := 400) dX12_asksOf_118 (by decide +kernel) ?_
      refine J_aload_n dX12_asksOf_121 rfl rfl ?_
      refine J_get (v := .ref 100) dX12_asksOf_122 fl_X12_20 rfl rfl ?_
      refine Z_bipush (n := 63) dX12_asksOf_125 (by decide +kernel) ?_
      refine Y_iald (z := z1) 4870 dX12_asksOf_127 hk100 rfl (by decide) v_6d68fb9760 v_256388ed94 ez1 ?_
      refine Z_imul (c := 400 * z1) dX12_asksOf_128 rfl ?_
      refine K_put (fs2 := (.int (zI ms) :: .int (zI mv) :: .ref 99 :: .ref 100 :: .ref 101 :: .ref 102 :: .ref 103 :: .ref 104 :: .ref 105 :: .int (zI mt) :: .int (zI mfa) :: .ref 106 :: .ref 107 :: .ref 108 :: .int (zI mtn) :: .int (zI mtk) :: .int (zI mlv) :: .int (zI mbd) :: .int (zI (400 * z1)) :: .int (zI mge) :: .int (zI mbk) :: .ref 109 :: .int (zI 1) :: .int (zI t0_18j) :: .ref 110 :: .ref 111 :: .ref 112 :: .ref 113 :: .ref 114 :: .ref 115 :: .ref 116 :: .ref 117 :: .int (zI hm) :: .int (zI pm) :: .int (zI hb) :: .int (zI sb) :: .ref 118 :: .ref 119 :: .ref 120 :: .ref 121 :: .ref 122 :: .ref 123 :: .ref 124 :: .ref 125 :: .ref 126 :: .ref 127 :: .ref 128 :: .ref 129 :: .int (zI mfu) :: .ref 130 :: .ref 131 :: .ref 132 :: .ref 133 :: .ref 134 :: .int (zI mdm) :: .int (zI mla) :: [])) dX12_asksOf_129 fw_X12_240 rfl (Nat.le_of_ble_eq_true rfl) (fun _ => ⟨rfl, rfl⟩) rfl ?_
      refine J_aload_n dX12_asksOf_132 rfl rfl ?_
      refine J_aload_n dX12_asksOf_133 rfl rfl ?_
      refine J_get (v := .int (zI (400 * z1))) dX12_asksOf_134 fl_X12_240 rfl rfl ?_
      refine J_aload_n dX12_asksOf_137 rfl rfl ?_
      refine J_get (v := .ref 100) dX12_asksOf_138 fl_X12_20 rfl rfl ?_
      refine Z_bipush (n := 64) dX12_asksOf_141 (by decide +kernel) ?_
      refine J_aload_n dX12_asksOf_143 rfl rfl ?_
      refine J_get (v := .ref 100) dX12_asksOf_144 fl_X12_20 rfl rfl ?_
      refine Z_bipush (n := 63) dX12_asksOf_147 (by decide +kernel) ?_
      refine Y_iald (z := z1) 4870 dX12_asksOf_149 hk100 rfl (by decide) v_6d68fb9760 v_256388ed94 ez1 ?_
      refine Z_iadd (c := z1 + 64) dX12_asksOf_150 v_b7639367d2 ?_
      obtain ⟨z31, ez31⟩ : ∃ z : Int, K (z1 + 64) = z := ⟨_, rfl⟩
      have h32 := Rg.at q12 (v_459392c39c q7 ez1) (v_6f12533f70 q8 q10 ez1) ez31
      refine Y_iald (z := z31) 4870 dX12_asksOf_151 hk100 rfl (by decide) (v_459392c39c q7 ez1) (v_6f12533f70 q8 q10 ez1) ez31 ?_
      refine Z_iadd (c := 400 * z1 + z31) dX12_asksOf_152 rfl ?_
      refine K_put (fs2 := (.int (zI ms) :: .int (zI mv) :: .ref 99 :: .ref 100 :: .ref 101 :: .ref 102 :: .ref 103 :: .ref 104 :: .ref 105 :: .int (zI mt) :: .int (zI mfa) :: .ref 106 :: .ref 107 :: .ref 108 :: .int (zI mtn) :: .int (zI mtk) :: .int (zI mlv) :: .int (zI mbd) :: .int (zI (400 * z1)) :: .int (zI (400 * z1 + z31)) :: .int (zI mbk) :: .ref 109 :: .int (zI 1) :: .int (zI t0_18j) :: .ref 110 :: .ref 111 :: .ref 112 :: .ref 113 :: .ref 114 :: .ref 115 :: .ref 116 :: .ref 117 :: .int (zI hm) :: .int (zI pm) :: .int (zI hb) :: .int (zI sb) :: .ref 118 :: .ref 119 :: .ref 120 :: .ref 121 :: .ref 122 :: .ref 123 :: .ref 124 :: .ref 125 :: .ref 126 :: .ref 127 :: .ref 128 :: .ref 129 :: .int (zI mfu) :: .ref 130 :: .ref 131 :: .ref 132 :: .ref 133 :: .ref 134 :: .int (zI mdm) :: .int (zI mla) :: [])) dX12_asksOf_153 fw_X12_237 rfl (Nat.le_of_ble_eq_true rfl) (fun _ => ⟨rfl, rfl⟩) rfl ?_
      have gsz := KLaw.at (t := z1) (g := 400 * z1 + z31) (z := 400 * z1) q11 (v_3820318b25 q7 ez1 h3) (v_f4bfe6b63e q8 ez1) v_9c3818c621 ez31 (by omega) (by omega)
      have glw : LwDa (Cd K (400 * z1 + z31)) (Vd K) (fun t => t = 400 * z1 + z31) (400 * z1) Rv := LwM.y (z := z31) q14 ez1 (v_3820318b25 q7 ez1 h3) v_11654febe9 ((congrArg K (show (64 + z1 : Int) = z1 + 64 from by omega)).trans ez31) (by omega)
      refine Z_iconst (n := 0) dX12_asksOf_156 ?_
      refine J_istore dX12_asksOf_157 (Nat.le_of_ble_eq_true rfl) rfl ?_
      refine J_ls (ls2 := [some (.ref 98), some (.int (zI x)), some (.int (zI pl)), some (.int (zI pr)), some (.int (zI 0)), none, none, none, none, none, none, none]) rfl ?_
      refine Z_iconst (n := 0) dX12_asksOf_159 ?_
      refine J_istore dX12_asksOf_160 (Nat.le_of_ble_eq_true rfl) rfl ?_
      refine J_ls (ls2 := [some (.ref 98), some (.int (zI x)), some (.int (zI pl)), some (.int (zI pr)), some (.int (zI 0)), some (.int (zI 0)), none, none, none, none, none, none]) rfl ?_
      refine Z_iconst (n := 0) dX12_asksOf_162 ?_
      refine J_istore dX12_asksOf_163 (Nat.le_of_ble_eq_true rfl) rfl ?_
      refine J_ls (ls2 := [some (.ref 98), some (.int (zI x)), some (.int (zI pl)), some (.int (zI pr)), some (.int (zI 0)), some (.int (zI 0)), some (.int (zI 0)), none, none, none, none, none]) rfl ?_
      refine J_mask (L2 := [(98, .inr (12, (.int (zI ms) :: .int (zI mv) :: .ref 99 :: .ref 100 :: .ref 101 :: .ref 102 :: .ref 103 :: .ref 104 :: .ref 105 :: .int (zI mt) :: .int (zI mfa) :: .ref 106 :: .ref 107 :: .ref 108 :: .int (zI mtn) :: .int (zI mtk) :: .int (zI mlv) :: .int (zI mbd) :: .int (zI (400 * z1)) :: .int (zI (400 * z1 + z31)) :: .int (zI mbk) :: .ref 109 :: .int (zI 1) :: .int (zI t0_18j) :: .ref 110 :: .ref 111 :: .ref 112 :: .ref 113 :: .ref 114 :: .ref 115 :: .ref 116 :: .ref 117 :: .int (zI hm) :: .int (zI pm) :: .int (zI hb) :: .int (zI sb) :: .ref 118 :: .ref 119 :: .ref 120 :: .ref 121 :: .ref 122 :: .ref 123 :: .ref 124 :: .ref 125 :: .ref 126 :: .ref 127 :: .ref 128 :: .ref 129 :: .int (zI mfu) :: .ref 130 :: .ref 131 :: .ref 132 :: .ref 133 :: .ref 134 :: .int (zI mdm) :: .int (zI mla) :: []))), (109, .inl (0, 8, .inl (zA f29)))]) (ks := [98, 98, 109, 109, 109, 109, 109, 109, 109, 109, 98, 98]) [true, false, true, false, false, false, false, false, false, false, false, false] rfl (by decide +kernel) rfl ?_
      have lp165 : ∀ (N165 : Nat) (lets_165 : Int) (bar_165 : Int) (has_165 : Int) (go_165 : Int) (ge_165 : Int) (bk_165 : Int) (tt_165 : Int), (0 ≤ go_165) → (go_165 ≤ ge_165 + 1) → (ge_165 ≤ 2400) → (0 ≤ ge_165) → (NxI (Cd K ge_165) (Vd K) (fun t => t = ge_165) w8 go_165 has_165 lets_165 bar_165 tt_165 Rv) → (0 ≤ bk_165) → (bk_165 ≤ 1) → (1 ≤ tt_165) → (tt_165 ≤ 99) → (0 ≤ lets_165) → (lets_165 ≤ 1) → (0 ≤ bar_165) → (bar_165 ≤ 1) → (0 ≤ has_165) → (has_165 ≤ 1) → (ge_165 - go_165 + 1).toNat < N165 → J l G MX12_asksOf { frames := 41, cells := 0, slots := 0, locals := 964 } jE (jMQ G { frames := 41, cells := 0, slots := 0, locals := 964 } (fun rr h9 => ∃ go2 : Int, ∃ ge2 : Int, ∃ bk2 : Int, ∃ tt2 : Int, ∃ tl2 : Int, ∃ aq2 : Int → Int, rr = none ∧ h9 = (nh, hc fh [(98, .inr (12, (.int (zI ms) :: .int (zI mv) :: .ref 99 :: .ref 100 :: .ref 101 :: .ref 102 :: .ref 103 :: .ref 104 :: .ref 105 :: .int (zI mt) :: .int (zI mfa) :: .ref 106 :: .ref 107 :: .ref 108 :: .int (zI mtn) :: .int (zI mtk) :: .int (zI mlv) :: .int (zI mbd) :: .int (zI go2) :: .int (zI ge2) :: .int (zI bk2) :: .ref 109 :: .int (zI tt2) :: .int (zI tl2) :: .ref 110 :: .ref 111 :: .ref 112 :: .ref 113 :: .ref 114 :: .ref 115 :: .ref 116 :: .ref 117 :: .int (zI hm) :: .int (zI pm) :: .int (zI hb) :: .int (zI sb) :: .ref 118 :: .ref 119 :: .ref 120 :: .ref 121 :: .ref 122 :: .ref 123 :: .ref 124 :: .ref 125 :: .ref 126 :: .ref 127 :: .ref 128 :: .ref 129 :: .int (zI mfu) :: .ref 130 :: .ref 131 :: .ref 132 :: .ref 133 :: .ref 134 :: .int (zI mdm) :: .int (zI mla) :: []))), (109, .inl (0, 8, .inl (zA aq2)))]) ∧ (1 ≤ tt2) ∧ (tt2 ≤ 99) ∧ (0 ≤ tl2) ∧ (tl2 ≤ 1) ∧ (0 ≤ bk2) ∧ (bk2 ≤ 1) ∧ (Rg aq2 8 (-2147483648) 2147483647) ∧ (VdX Rv (itB K (x).toNat) pm (K 6) pl pr tl2 tt2))) (nh, hc fh [(98, .inr (12, (.int (zI ms) :: .int (zI mv) :: .ref 99 :: .ref 100 :: .ref 101 :: .ref 102 :: .ref 103 :: .ref 104 :: .ref 105 :: .int (zI mt) :: .int (zI mfa) :: .ref 106 :: .ref 107 :: .ref 108 :: .int (zI mtn) :: .int (zI mtk) :: .int (zI mlv) :: .int (zI mbd) :: .int (zI go_165) :: .int (zI ge_165) :: .int (zI bk_165) :: .ref 109 :: .int (zI tt_165) :: .int (zI t0_18j) :: .ref 110 :: .ref 111 :: .ref 112 :: .ref 113 :: .ref 114 :: .ref 115 :: .ref 116 :: .ref 117 :: .int (zI hm) :: .int (zI pm) :: .int (zI hb) :: .int (zI sb) :: .ref 118 :: .ref 119 :: .ref 120 :: .ref 121 :: .ref 122 :: .ref 123 :: .ref 124 :: .ref 125 :: .ref 126 :: .ref 127 :: .ref 128 :: .ref 129 :: .int (zI mfu) :: .ref 130 :: .ref 131 :: .ref 132 :: .ref 133 :: .ref 134 :: .int (zI mdm) :: .int (zI mla) :: []))), (109, .inl (0, 8, .inl (zA f29)))]) 0 0 165 [some (.ref 98), some (.int (zI x)), some (.int (zI pl)), some (.int (zI pr)), some (.int (zI lets_165)), some (.int (zI bar_165)), some (.int (zI has_165)), none, none, none, none, none] [] := by
        intro N165
        induction N165 with
        | zero => intro lets_165 bar_165 has_165 go_165 ge_165 bk_165 tt_165 i165_0 i165_1 i165_2 i165_3 i165_4 i165_5 i165_6 i165_7 i165_8 i165_9 i165_10 i165_11 i165_12 i165_13 i165_14 hm; exact absurd hm (Nat.not_lt_zero _)
        | succ N165 ih165 =>
          intro lets_165 bar_165 has_165 go_165 ge_165 bk_165 tt_165 i165_0 i165_1 i165_2 i165_3 i165_4 i165_5 i165_6 i165_7 i165_8 i165_9 i165_10 i165_11 i165_12 i165_13 i165_14 hm165
          refine J_aload_n dX12_asksOf_165 rfl rfl ?_
          refine J_get (v := .int (zI go_165)) dX12_asksOf_166 fl_X12_240 rfl rfl ?_
          refine J_aload_n dX12_asksOf_169 rfl rfl ?_
          refine J_get (v := .int (zI ge_165)) dX12_asksOf_170 fl_X12_237 rfl rfl ?_
          refine Z_icmp_ge (tgt := 384) dX12_asksOf_173 (by decide) (v_e2eb5ef622 i165_0 i165_1 i165_2) (v_3826f9e583 i165_2 i165_3) (fun h33 => ?_) (fun h33 => ?_)
          · refine J_aload_n dX12_asksOf_384 rfl rfl ?_
            refine J_iload dX12_asksOf_385 rfl ?_
            refine Z_if_eq (tgt := 398) dX12_asksOf_387 (by decide) (v_5f10a759cd i165_13 i165_14) (fun h34 => ?_) (fun h34 => ?_)
            · refine J_aload_n dX12_asksOf_398 rfl rfl ?_
              refine J_get (v := .int (zI t0_18j)) dX12_asksOf_399 fl_X12_287 rfl rfl ?_
              refine Z_if_eq (tgt := 414) dX12_asksOf_402 (by decide) (v_5f10a759cd j18_0 j18_1) (fun h35 => ?_) (fun h35 => ?_)
              · refine Z_iconst (n := 0) dX12_asksOf_414 ?_
                refine K_put (fs2 := (.int (zI ms) :: .int (zI mv) :: .ref 99 :: .ref 100 :: .ref 101 :: .ref 102 :: .ref 103 :: .ref 104 :: .ref 105 :: .int (zI mt) :: .int (zI mfa) :: .ref 106 :: .ref 107 :: .ref 108 :: .int (zI mtn) :: .int (zI mtk) :: .int (zI mlv) :: .int (zI mbd) :: .int (zI go_165) :: .int (zI ge_165) :: .int (zI bk_165) :: .ref 109 :: .int (zI tt_165) :: .int (zI 0) :: .ref 110 :: .ref 111 :: .ref 112 :: .ref 113 :: .ref 114 :: .ref 115 :: .ref 116 :: .ref 117 :: .int (zI hm) :: .int (zI pm) :: .int (zI hb) :: .int (zI sb) :: .ref 118 :: .ref 119 :: .ref 120 :: .ref 121 :: .ref 122 :: .ref 123 :: .ref 124 :: .ref 125 :: .ref 126 :: .ref 127 :: .ref 128 :: .ref 129 :: .int (zI mfu) :: .ref 130 :: .ref 131 :: .ref 132 :: .ref 133 :: .ref 134 :: .int (zI mdm) :: .int (zI mla) :: [])) dX12_asksOf_415 fw_X12_287 rfl (Nat.le_of_ble_eq_true rfl) (jbz v_939070ca3f v_316afd7d0b) rfl ?_
                refine J_mask (L2 := [(98, .inr (12, (.int (zI ms) :: .int (zI mv) :: .ref 99 :: .ref 100 :: .ref 101 :: .ref 102 :: .ref 103 :: .ref 104 :: .ref 105 :: .int (zI mt) :: .int (zI mfa) :: .ref 106 :: .ref 107 :: .ref 108 :: .int (zI mtn) :: .int (zI mtk) :: .int (zI mlv) :: .int (zI mbd) :: .int (zI go_165) :: .int (zI ge_165) :: .int (zI bk_165) :: .ref 109 :: .int (zI tt_165) :: .int (zI 0) :: .ref 110 :: .ref 111 :: .ref 112 :: .ref 113 :: .ref 114 :: .ref 115 :: .ref 116 :: .ref 117 :: .int (zI hm) :: .int (zI pm) :: .int (zI hb) :: .int (zI sb) :: .ref 118 :: .ref 119 :: .ref 120 :: .ref 121 :: .ref 122 :: .ref 123 :: .ref 124 :: .ref 125 :: .ref 126 :: .ref 127 :: .ref 128 :: .ref 129 :: .int (zI mfu) :: .ref 130 :: .ref 131 :: .ref 132 :: .ref 133 :: .ref 134 :: .int (zI mdm) :: .int (zI mla) :: []))), (109, .inl (0, 8, .inl (zA f29)))]) (ks := [98, 98, 109]) [true, false, true] rfl (by decide +kernel) rfl ?_
                exact J_vret dX12_asksOf_418 rfl (Nat.le_of_ble_eq_true rfl) (Nat.le_of_ble_eq_true rfl) ⟨go_165, ge_165, bk_165, tt_165, 0, f29, rfl, rfl, i165_7, i165_8, v_939070ca3f, v_316afd7d0b, i165_5, i165_6, h30, (by rw [ez27]; exact VdX.y (a := z8) (b := z13) (c := z20) (by rw [gw8e]; exact NxI.end i165_4 (Cd_out (v_d464d4c634 h33))) g10.1 g15.1 g22.1 j18_2 (by omega))⟩
              · refine J_iload dX12_asksOf_405 rfl ?_
                refine Z_if_ne (tgt := 414) dX12_asksOf_407 (by decide) (v_5f10a759cd i165_11 i165_12) (fun h36 => ?_) (fun h36 => ?_)
                · refine Z_iconst (n := 0) dX12_asksOf_414 ?_
                  refine K_put (fs2 := (.int (zI ms) :: .int (zI mv) :: .ref 99 :: .ref 100 :: .ref 101 :: .ref 102 :: .ref 103 :: .ref 104 :: .ref 105 :: .int (zI mt) :: .int (zI mfa) :: .ref 106 :: .ref 107 :: .ref 108 :: .int (zI mtn) :: .int (zI mtk) :: .int (zI mlv) :: .int (zI mbd) :: .int (zI go_165) :: .int (zI ge_165) :: .int (zI bk_165) :: .ref 109 :: .int (zI tt_165) :: .int (zI 0) :: .ref 110 :: .ref 111 :: .ref 112 :: .ref 113 :: .ref 114 :: .ref 115 :: .ref 116 :: .ref 117 :: .int (zI hm) :: .int (zI pm) :: .int (zI hb) :: .int (zI sb) :: .ref 118 :: .ref 119 :: .ref 120 :: .ref 121 :: .ref 122 :: .ref 123 :: .ref 124 :: .ref 125 :: .ref 126 :: .ref 127 :: .ref 128 :: .ref 129 :: .int (zI mfu) :: .ref 130 :: .ref 131 :: .ref 132 :: .ref 133 :: .ref 134 :: .int (zI mdm) :: .int (zI mla) :: [])) dX12_asksOf_415 fw_X12_287 rfl (Nat.le_of_ble_eq_true rfl) (jbz v_939070ca3f v_316afd7d0b) rfl ?_
                  refine J_mask (L2 := [(98, .inr (12, (.int (zI ms) :: .int (zI mv) :: .ref 99 :: .ref 100 :: .ref 101 :: .ref 102 :: .ref 103 :: .ref 104 :: .ref 105 :: .int (zI mt) :: .int (zI mfa) :: .ref 106 :: .ref 107 :: .ref 108 :: .int (zI mtn) :: .int (zI mtk) :: .int (zI mlv) :: .int (zI mbd) :: .int (zI go_165) :: .int (zI ge_165) :: .int (zI bk_165) :: .ref 109 :: .int (zI tt_165) :: .int (zI 0) :: .ref 110 :: .ref 111 :: .ref 112 :: .ref 113 :: .ref 114 :: .ref 115 :: .ref 116 :: .ref 117 :: .int (zI hm) :: .int (zI pm) :: .int (zI hb) :: .int (zI sb) :: .ref 118 :: .ref 119 :: .ref 120 :: .ref 121 :: .ref 122 :: .ref 123 :: .ref 124 :: .ref 125 :: .ref 126 :: .ref 127 :: .ref 128 :: .ref 129 :: .int (zI mfu) :: .ref 130 :: .ref 131 :: .ref 132 :: .ref 133 :: .ref 134 :: .int (zI mdm) :: .int (zI mla) :: []))), (109, .inl (0, 8, .inl (zA f29)))]) (ks := [98, 98, 109]) [true, false, true] rfl (by decide +kernel) rfl ?_
                  exact J_vret dX12_asksOf_418 rfl (Nat.le_of_ble_eq_true rfl) (Nat.le_of_ble_eq_true rfl) ⟨go_165, ge_165, bk_165, tt_165, 0, f29, rfl, rfl, i165_7, i165_8, v_939070ca3f, v_316afd7d0b, i165_5, i165_6, h30, (by rw [ez27]; exact VdX.y (a := z8) (b := z13) (c := z20) (by rw [gw8e]; exact NxI.end i165_4 (Cd_out (v_d464d4c634 h33))) g10.1 g15.1 g22.1 j18_2 (by omega))⟩
                · refine Z_iconst (n := 1) dX12_asksOf_410 ?_
                  refine J_goto (tgt := 415) dX12_asksOf_411 (by decide) ?_
                  refine K_put (fs2 := (.int (zI ms) :: .int (zI mv) :: .ref 99 :: .ref 100 :: .ref 101 :: .ref 102 :: .ref 103 :: .ref 104 :: .ref 105 :: .int (zI mt) :: .int (zI mfa) :: .ref 106 :: .ref 107 :: .ref 108 :: .int (zI mtn) :: .int (zI mtk) :: .int (zI mlv) :: .int (zI mbd) :: .int (zI go_165) :: .int (zI ge_165) :: .int (zI bk_165) :: .ref 109 :: .int (zI tt_165) :: .int (zI 1) :: .ref 110 :: .ref 111 :: .ref 112 :: .ref 113 :: .ref 114 :: .ref 115 :: .ref 116 :: .ref 117 :: .int (zI hm) :: .int (zI pm) :: .int (zI hb) :: .int (zI sb) :: .ref 118 :: .ref 119 :: .ref 120 :: .ref 121 :: .ref 122 :: .ref 123 :: .ref 124 :: .ref 125 :: .ref 126 :: .ref 127 :: .ref 128 :: .ref 129 :: .int (zI mfu) :: .ref 130 :: .ref 131 :: .ref 132 :: .ref 133 :: .ref 134 :: .int (zI mdm) :: .int (zI mla) :: [])) dX12_asksOf_415 fw_X12_287 rfl (Nat.le_of_ble_eq_true rfl) (jbz v_316afd7d0b v_bbcfac9b7d) rfl ?_
                  refine J_mask (L2 := [(98, .inr (12, (.int (zI ms) :: .int (zI mv) :: .ref 99 :: .ref 100 :: .ref 101 :: .ref 102 :: .ref 103 :: .ref 104 :: .ref 105 :: .int (zI mt) :: .int (zI mfa) :: .ref 106 :: .ref 107 :: .ref 108 :: .int (zI mtn) :: .int (zI mtk) :: .int (zI mlv) :: .int (zI mbd) :: .int (zI go_165) :: .int (zI ge_165) :: .int (zI bk_165) :: .ref 109 :: .int (zI tt_165) :: .int (zI 1) :: .ref 110 :: .ref 111 :: .ref 112 :: .ref 113 :: .ref 114 :: .ref 115 :: .ref 116 :: .ref 117 :: .int (zI hm) :: .int (zI pm) :: .int (zI hb) :: .int (zI sb) :: .ref 118 :: .ref 119 :: .ref 120 :: .ref 121 :: .ref 122 :: .ref 123 :: .ref 124 :: .ref 125 :: .ref 126 :: .ref 127 :: .ref 128 :: .ref 129 :: .int (zI mfu) :: .ref 130 :: .ref 131 :: .ref 132 :: .ref 133 :: .ref 134 :: .int (zI mdm) :: .int (zI mla) :: []))), (109, .inl (0, 8, .inl (zA f29)))]) (ks := [98, 98, 109]) [true, false, true] rfl (by decide +kernel) rfl ?_
                  exact J_vret dX12_asksOf_418 rfl (Nat.le_of_ble_eq_true rfl) (Nat.le_of_ble_eq_true rfl) ⟨go_165, ge_165, bk_165, tt_165, 1, f29, rfl, rfl, i165_7, i165_8, v_316afd7d0b, v_bbcfac9b7d, i165_5, i165_6, h30, (by rw [ez27]; exact VdX.y (a := z8) (b := z13) (c := z20) (by rw [gw8e]; exact NxI.end i165_4 (Cd_out (v_d464d4c634 h33))) g10.1 g15.1 g22.1 j18_2 (by omega))⟩
            · refine J_iload dX12_asksOf_390 rfl ?_
              refine Z_if_eq (tgt := 414) dX12_asksOf_392 (by decide) (v_5f10a759cd i165_9 i165_10) (fun h37 => ?_) (fun h37 => ?_)
              · refine Z_iconst (n := 0) dX12_asksOf_414 ?_
                refine K_put (fs2 := (.int (zI ms) :: .int (zI mv) :: .ref 99 :: .ref 100 :: .ref 101 :: .ref 102 :: .ref 103 :: .ref 104 :: .ref 105 :: .int (zI mt) :: .int (zI mfa) :: .ref 106 :: .ref 107 :: .ref 108 :: .int (zI mtn) :: .int (zI mtk) :: .int (zI mlv) :: .int (zI mbd) :: .int (zI go_165) :: .int (zI ge_165) :: .int (zI bk_165) :: .ref 109 :: .int (zI tt_165) :: .int (zI 0) :: .ref 110 :: .ref 111 :: .ref 112 :: .ref 113 :: .ref 114 :: .ref 115 :: .ref 116 :: .ref 117 :: .int (zI hm) :: .int (zI pm) :: .int (zI hb) :: .int (zI sb) :: .ref 118 :: .ref 119 :: .ref 120 :: .ref 121 :: .ref 122 :: .ref 123 :: .ref 124 :: .ref 125 :: .ref 126 :: .ref 127 :: .ref 128 :: .ref 129 :: .int (zI mfu) :: .ref 130 :: .ref 131 :: .ref 132 :: .ref 133 :: .ref 134 :: .int (zI mdm) :: .int (zI mla) :: [])) dX12_asksOf_415 fw_X12_287 rfl (Nat.le_of_ble_eq_true rfl) (jbz v_939070ca3f v_316afd7d0b) rfl ?_
                refine J_mask (L2 := [(98, .inr (12, (.int (zI ms) :: .int (zI mv) :: .ref 99 :: .ref 100 :: .ref 101 :: .ref 102 :: .ref 103 :: .ref 104 :: .ref 105 :: .int (zI mt) :: .int (zI mfa) :: .ref 106 :: .ref 107 :: .ref 108 :: .int (zI mtn) :: .int (zI mtk) :: .int (zI mlv) :: .int (zI mbd) :: .int (zI go_165) :: .int (zI ge_165) :: .int (zI bk_165) :: .ref 109 :: .int (zI tt_165) :: .int (zI 0) :: .ref 110 :: .ref 111 :: .ref 112 :: .ref 113 :: .ref 114 :: .ref 115 :: .ref 116 :: .ref 117 :: .int (zI hm) :: .int (zI pm) :: .int (zI hb) :: .int (zI sb) :: .ref 118 :: .ref 119 :: .ref 120 :: .ref 121 :: .ref 122 :: .ref 123 :: .ref 124 :: .ref 125 :: .ref 126 :: .ref 127 :: .ref 128 :: .ref 129 :: .int (zI mfu) :: .ref 130 :: .ref 131 :: .ref 132 :: .ref 133 :: .ref 134 :: .int (zI mdm) :: .int (zI mla) :: []))), (109, .inl (0, 8, .inl (zA f29)))]) (ks := [98, 98, 109]) [true, false, true] rfl (by decide +kernel) rfl ?_
                exact J_vret dX12_asksOf_418 rfl (Nat.le_of_ble_eq_true rfl) (Nat.le_of_ble_eq_true rfl) ⟨go_165, ge_165, bk_165, tt_165, 0, f29, rfl, rfl, i165_7, i165_8, v_939070ca3f, v_316afd7d0b, i165_5, i165_6, h30, (by rw [ez27]; exact VdX.y (a := z8) (b := z13) (c := z20) (by rw [gw8e]; exact NxI.end i165_4 (Cd_out (v_d464d4c634 h33))) g10.1 g15.1 g22.1 j18_2 (by omega))⟩
              · refine J_goto (tgt := 405) dX12_asksOf_395 (by decide) ?_
                refine J_iload dX12_asksOf_405 rfl ?_
                refine Z_if_ne (tgt := 414) dX12_asksOf_407 (by decide) (v_5f10a759cd i165_11 i165_12) (fun h38 => ?_) (fun h38 => ?_)
                · refine Z_iconst (n := 0) dX12_asksOf_414 ?_
                  refine K_put (fs2 := (.int (zI ms) :: .int (zI mv) :: .ref 99 :: .ref 100 :: .ref 101 :: .ref 102 :: .ref 103 :: .ref 104 :: .ref 105 :: .int (zI mt) :: .int (zI mfa) :: .ref 106 :: .ref 107 :: .ref 108 :: .int (zI mtn) :: .int (zI mtk) :: .int (zI mlv) :: .int (zI mbd) :: .int (zI go_165) :: .int (zI ge_165) :: .int (zI bk_165) :: .ref 109 :: .int (zI tt_165) :: .int (zI 0) :: .ref 110 :: .ref 111 :: .ref 112 :: .ref 113 :: .ref 114 :: .ref 115 :: .ref 116 :: .ref 117 :: .int (zI hm) :: .int (zI pm) :: .int (zI hb) :: .int (zI sb) :: .ref 118 :: .ref 119 :: .ref 120 :: .ref 121 :: .ref 122 :: .ref 123 :: .ref 124 :: .ref 125 :: .ref 126 :: .ref 127 :: .ref 128 :: .ref 129 :: .int (zI mfu) :: .ref 130 :: .ref 131 :: .ref 132 :: .ref 133 :: .ref 134 :: .int (zI mdm) :: .int (zI mla) :: [])) dX12_asksOf_415 fw_X12_287 rfl (Nat.le_of_ble_eq_true rfl) (jbz v_939070ca3f v_316afd7d0b) rfl ?_
                  refine J_mask (L2 := [(98, .inr (12, (.int (zI ms) :: .int (zI mv) :: .ref 99 :: .ref 100 :: .ref 101 :: .ref 102 :: .ref 103 :: .ref 104 :: .ref 105 :: .int (zI mt) :: .int (zI mfa) :: .ref 106 :: .ref 107 :: .ref 108 :: .int (zI mtn) :: .int (zI mtk) :: .int (zI mlv) :: .int (zI mbd) :: .int (zI go_165) :: .int (zI ge_165) :: .int (zI bk_165) :: .ref 109 :: .int (zI tt_165) :: .int (zI 0) :: .ref 110 :: .ref 111 :: .ref 112 :: .ref 113 :: .ref 114 :: .ref 115 :: .ref 116 :: .ref 117 :: .int (zI hm) :: .int (zI pm) :: .int (zI hb) :: .int (zI sb) :: .ref 118 :: .ref 119 :: .ref 120 :: .ref 121 :: .ref 122 :: .ref 123 :: .ref 124 :: .ref 125 :: .ref 126 :: .ref 127 :: .ref 128 :: .ref 129 :: .int (zI mfu) :: .ref 130 :: .ref 131 :: .ref 132 :: .ref 133 :: .ref 134 :: .int (zI mdm) :: .int (zI mla) :: []))), (109, .inl (0, 8, .inl (zA f29)))]) (ks := [98, 98, 109]) [true, false, true] rfl (by decide +kernel) rfl ?_
                  exact J_vret dX12_asksOf_418 rfl (Nat.le_of_ble_eq_true rfl) (Nat.le_of_ble_eq_true rfl) ⟨go_165, ge_165, bk_165, tt_165, 0, f29, rfl, rfl, i165_7, i165_8, v_939070ca3f, v_316afd7d0b, i165_5, i165_6, h30, (by rw [ez27]; exact VdX.y (a := z8) (b := z13) (c := z20) (by rw [gw8e]; exact NxI.end i165_4 (Cd_out (v_d464d4c634 h33))) g10.1 g15.1 g22.1 j18_2 (by omega))⟩
                · refine Z_iconst (n := 1) dX12_asksOf_410 ?_
                  refine J_goto (tgt := 415) dX12_asksOf_411 (by decide) ?_
                  refine K_put (fs2 := (.int (zI ms) :: .int (zI mv) :: .ref 99 :: .ref 100 :: .ref 101 :: .ref 102 :: .ref 103 :: .ref 104 :: .ref 105 :: .int (zI mt) :: .int (zI mfa) :: .ref 106 :: .ref 107 :: .ref 108 :: .int (zI mtn) :: .int (zI mtk) :: .int (zI mlv) :: .int (zI mbd) :: .int (zI go_165) :: .int (zI ge_165) :: .int (zI bk_165) :: .ref 109 :: .int (zI tt_165) :: .int (zI 1) :: .ref 110 :: .ref 111 :: .ref 112 :: .ref 113 :: .ref 114 :: .ref 115 :: .ref 116 :: .ref 117 :: .int (zI hm) :: .int (zI pm) :: .int (zI hb) :: .int (zI sb) :: .ref 118 :: .ref 119 :: .ref 120 :: .ref 121 :: .ref 122 :: .ref 123 :: .ref 124 :: .ref 125 :: .ref 126 :: .ref 127 :: .ref 128 :: .ref 129 :: .int (zI mfu) :: .ref 130 :: .ref 131 :: .ref 132 :: .ref 133 :: .ref 134 :: .int (zI mdm) :: .int (zI mla) :: [])) dX12_asksOf_415 fw_X12_287 rfl (Nat.le_of_ble_eq_true rfl) (jbz v_316afd7d0b v_bbcfac9b7d) rfl ?_
                  refine J_mask (L2 := [(98, .inr (12, (.int (zI ms) :: .int (zI mv) :: .ref 99 :: .ref 100 :: .ref 101 :: .ref 102 :: .ref 103 :: .ref 104 :: .ref 105 :: .int (zI mt) :: .int (zI mfa) :: .ref 106 :: .ref 107 :: .ref 108 :: .int (zI mtn) :: .int (zI mtk) :: .int (zI mlv) :: .int (zI mbd) :: .int (zI go_165) :: .int (zI ge_165) :: .int (zI bk_165) :: .ref 109 :: .int (zI tt_165) :: .int (zI 1) :: .ref 110 :: .ref 111 :: .ref 112 :: .ref 113 :: .ref 114 :: .ref 115 :: .ref 116 :: .ref 117 :: .int (zI hm) :: .int (zI pm) :: .int (zI hb) :: .int (zI sb) :: .ref 118 :: .ref 119 :: .ref 120 :: .ref 121 :: .ref 122 :: .ref 123 :: .ref 124 :: .ref 125 :: .ref 126 :: .ref 127 :: .ref 128 :: .ref 129 :: .int (zI mfu) :: .ref 130 :: .ref 131 :: .ref 132 :: .ref 133 :: .ref 134 :: .int (zI mdm) :: .int (zI mla) :: []))), (109, .inl (0, 8, .inl (zA f29)))]) (ks := [98, 98, 109]) [true, false, true] rfl (by decide +kernel) rfl ?_
                  exact J_vret dX12_asksOf_418 rfl (Nat.le_of_ble_eq_true rfl) (Nat.le_of_ble_eq_true rfl) ⟨go_165, ge_165, bk_165, tt_165, 1, f29, rfl, rfl, i165_7, i165_8, v_316afd7d0b, v_bbcfac9b7d, i165_5, i165_6, h30, (by rw [ez27]; exact VdX.y (a := z8) (b := z13) (c := z20) (by rw [gw8e]; exact NxI.end i165_4 (Cd_out (v_d464d4c634 h33))) g10.1 g15.1 g22.1 j18_2 (by omega))⟩
          · refine J_aload_n dX12_asksOf_176 rfl rfl ?_
            refine J_aload_n dX12_asksOf_177 rfl rfl ?_
            refine J_get (v := .int (zI go_165)) dX12_asksOf_178 fl_X12_240 rfl rfl ?_
            refine J_callV (st := []) dX12_asksOf_181 cv_X12_243 (k_codeAt go_165 K ms mv mt mfa mtn mtk mlv mbd go_165 ge_165 bk_165 tt_165 t0_18j hm pm hb sb mfu mdm mla i165_0 (v_d4d32ed67b i165_2 h33) i165_3 i165_2 q12 rfl hk100) rfl rfl rfl (Nat.le_of_ble_eq_true rfl) ⟨(Nat.le_of_ble_eq_true rfl), (Nat.le_of_ble_eq_true rfl)⟩ ⟨(Nat.le_of_ble_eq_true rfl), (Nat.le_of_ble_eq_true rfl)⟩ (fun r h9 hp => ?_)
            obtain ⟨z39, rfl, rfl, h40, h41⟩ := hp
            refine J_nf (nh2 := nh) (ck2 := 0) (sk2 := 0) (st2 := [.int (zI z39)]) rfl rfl rfl rfl ?_
            refine J_istore dX12_asksOf_184 (Nat.le_of_ble_eq_true rfl) rfl ?_
            refine J_ls (ls2 := [some (.ref 98), some (.int (zI x)), some (.int (zI pl)), some (.int (zI pr)), some (.int (zI lets_165)), some (.int (zI bar_165)), some (.int (zI has_165)), some (.int (zI z39)), none, none, none, none]) rfl ?_
            obtain ⟨mb, kd, fa, fb, gc1, gc2, gc3, gc4⟩ := NxI.cl i165_4 (fun q => absurd q (v_a71ed62e8f h33))
            have gc5 : mb ≤ ge_165 := gc3.elim (fun w => by have u := Cd_lt w (by decide); omega) (fun w => Int.le_of_eq w)
            refine J_aload_n dX12_asksOf_186 rfl rfl ?_
            refine Z_iconst (n := 0) dX12_asksOf_187 ?_
            refine K_put (fs2 := (.int (zI ms) :: .int (zI mv) :: .ref 99 :: .ref 100 :: .ref 101 :: .ref 102 :: .ref 103 :: .ref 104 :: .ref 105 :: .int (zI mt) :: .int (zI mfa) :: .ref 106 :: .ref 107 :: .ref 108 :: .int (zI mtn) :: .int (zI mtk) :: .int (zI mlv) :: .int (zI mbd) :: .int (zI go_165) :: .int (zI ge_165) :: .int (zI 0) :: .ref 109 :: .int (zI tt_165) :: .int (zI t0_18j) :: .ref 110 :: .ref 111 :: .ref 112 :: .ref 113 :: .ref 114 :: .ref 115 :: .ref 116 :: .ref 117 :: .int (zI hm) :: .int (zI pm) :: .int (zI hb) :: .int (zI sb) :: .ref 118 :: .ref 119 :: .ref 120 :: .ref 121 :: .ref 122 :: .ref 123 :: .ref 124 :: .ref 125 :: .ref 126 :: .ref 127 :: .ref 128 :: .ref 129 :: .int (zI mfu) :: .ref 130 :: .ref 131 :: .ref 132 :: .ref 133 :: .ref 134 :: .int (zI mdm) :: .int (zI mla) :: [])) dX12_asksOf_188 fw_X12_250 rfl (Nat.le_of_ble_eq_true rfl) (jbz v_939070ca3f v_316afd7d0b) rfl ?_
            refine J_aload_n dX12_asksOf_191 rfl rfl ?_
            refine J_dup dX12_asksOf_192 rfl ?_
            refine J_get (v := .int (zI go_165)) dX12_asksOf_193 fl_X12_240 rfl rfl ?_
            refine Z_iconst (n := 1) dX12_asksOf_196 ?_
            refine Z_iadd (c := go_165 + 1) dX12_asksOf_197 rfl ?_
            refine K_put (fs2 := (.int (zI ms) :: .int (zI mv) :: .ref 99 :: .ref 100 :: .ref 101 :: .ref 102 :: .ref 103 :: .ref 104 :: .ref 105 :: .int (zI mt) :: .int (zI mfa) :: .ref 106 :: .ref 107 :: .ref 108 :: .int (zI mtn) :: .int (zI mtk) :: .int (zI mlv) :: .int (zI mbd) :: .int (zI (go_165 + 1)) :: .int (zI ge_165) :: .int (zI 0) :: .ref 109 :: .int (zI tt_165) :: .int (zI t0_18j) :: .ref 110 :: .ref 111 :: .ref 112 :: .ref 113 :: .ref 114 :: .ref 115 :: .ref 116 :: .ref 117 :: .int (zI hm) :: .int (zI pm) :: .int (zI hb) :: .int (zI sb) :: .ref 118 :: .ref 119 :: .ref 120 :: .ref 121 :: .ref 122 :: .ref 123 :: .ref 124 :: .ref 125 :: .ref 126 :: .ref 127 :: .ref 128 :: .ref 129 :: .int (zI mfu) :: .ref 130 :: .ref 131 :: .ref 132 :: .ref 133 :: .ref 134 :: .int (zI mdm) :: .int (zI mla) :: [])) dX12_asksOf_198 fw_X12_240 rfl (Nat.le_of_ble_eq_true rfl) (fun _ => ⟨rfl, rfl⟩) rfl ?_
            refine J_iload dX12_asksOf_201 rfl ?_
            refine Z_iconst (n := 1) dX12_asksOf_203 ?_
            refine Z_icmp_ne (tgt := 215) dX12_asksOf_204 (by decide) (v_b25fa51a85 h41) v_4dcc24baa7 (fun h42 => ?_) (fun h42 => ?_)
            · obtain ⟨gnf, gif, gml⟩ := ClD.n gc1 (fun w => absurd (h40.symm.trans w) (v_9c549312fa h42))
              have gev : EvS 1 0 w8 fa 0 0 := EvS.c0 gnf
              refine J_lconst (v := zL 0) dX12_asksOf_215 (by decide +kernel) ?_
              refine J_lstore dX12_asksOf_216 (Nat.le_of_ble_eq_true rfl) rfl ?_
              refine J_ls (ls2 := [some (.ref 98), some (.int (zI x)), some (.int (zI pl)), some (.int (zI pr)), some (.int (zI lets_165)), some (.int (zI bar_165)), some (.int (zI has_165)), some (.int (zI z39)), some (.long (zL 0)), none, none, none]) rfl ?_
              refine J_aload_n dX12_asksOf_218 rfl rfl ?_
              refine J_get (v := .int (zI 0)) dX12_asksOf_219 fl_X12_250 rfl rfl ?_
              refine J_istore dX12_asksOf_222 (Nat.le_of_ble_eq_true rfl) rfl ?_
              refine J_ls (ls2 := [some (.ref 98), some (.int (zI x)), some (.int (zI pl)), some (.int (zI pr)), some (.int (zI lets_165)), some (.int (zI bar_165)), some (.int (zI has_165)), some (.int (zI z39)), some (.long (zL 0)), none, some (.int (zI 0)), none]) rfl ?_
              refine J_aload_n dX12_asksOf_224 rfl rfl ?_
              refine Z_iconst (n := 0) dX12_asksOf_225 ?_
              refine K_put (fs2 := (.int (zI ms) :: .int (zI mv) :: .ref 99 :: .ref 100 :: .ref 101 :: .ref 102 :: .ref 103 :: .ref 104 :: .ref 105 :: .int (zI mt) :: .int (zI mfa) :: .ref 106 :: .ref 107 :: .ref 108 :: .int (zI mtn) :: .int (zI mtk) :: .int (zI mlv) :: .int (zI mbd) :: .int (zI (go_165 + 1)) :: .int (zI ge_165) :: .int (zI 0) :: .ref 109 :: .int (zI tt_165) :: .int (zI t0_18j) :: .ref 110 :: .ref 111 :: .ref 112 :: .ref 113 :: .ref 114 :: .ref 115 :: .ref 116 :: .ref 117 :: .int (zI hm) :: .int (zI pm) :: .int (zI hb) :: .int (zI sb) :: .ref 118 :: .ref 119 :: .ref 120 :: .ref 121 :: .ref 122 :: .ref 123 :: .ref 124 :: .ref 125 :: .ref 126 :: .ref 127 :: .ref 128 :: .ref 129 :: .int (zI mfu) :: .ref 130 :: .ref 131 :: .ref 132 :: .ref 133 :: .ref 134 :: .int (zI mdm) :: .int (zI mla) :: [])) dX12_asksOf_226 fw_X12_250 rfl (Nat.le_of_ble_eq_true rfl) (jbz v_939070ca3f v_316afd7d0b) rfl ?_
              refine J_mask (L2 := [(98, .inr (12, (.int (zI ms) :: .int (zI mv) :: .ref 99 :: .ref 100 :: .ref 101 :: .ref 102 :: .ref 103 :: .ref 104 :: .ref 105 :: .int (zI mt) :: .int (zI mfa) :: .ref 106 :: .ref 107 :: .ref 108 :: .int (zI mtn) :: .int (zI mtk) :: .int (zI mlv) :: .int (zI mbd) :: .int (zI (go_165 + 1)) :: .int (zI ge_165) :: .int (zI 0) :: .ref 109 :: .int (zI tt_165) :: .int (zI t0_18j) :: .ref 110 :: .ref 111 :: .ref 112 :: .ref 113 :: .ref 114 :: .ref 115 :: .ref 116 :: .ref 117 :: .int (zI hm) :: .int (zI pm) :: .int (zI hb) :: .int (zI sb) :: .ref 118 :: .ref 119 :: .ref 120 :: .ref 121 :: .ref 122 :: .ref 123 :: .ref 124 :: .ref 125 :: .ref 126 :: .ref 127 :: .ref 128 :: .ref 129 :: .int (zI mfu) :: .ref 130 :: .ref 131 :: .ref 132 :: .ref 133 :: .ref 134 :: .int (zI mdm) :: .int (zI mla) :: []))), (109, .inl (0, 8, .inl (zA f29)))]) (ks := [98, 98, 98, 98, 109]) [true, false, false, false, true] rfl (by decide +kernel) rfl ?_
              have jn262 : ∀ (f98_18_262j : Int) (f98_20_262j : Int) (t0_262j : Int), (f98_18_262j = mb) → (0 ≤ f98_20_262j) → (f98_20_262j ≤ 1) → (0 ≤ t0_262j) → (t0_262j ≤ 1) → (t0_262j = 1 ↔ hld fa fb w8) → J l G MX12_asksOf { frames := 41, cells := 0, slots := 0, locals := 964 } jE (jMQ G { frames := 41, cells := 0, slots := 0, locals := 964 } (fun rr h9 => ∃ go2 : Int, ∃ ge2 : Int, ∃ bk2 : Int, ∃ tt2 : Int, ∃ tl2 : Int, ∃ aq2 : Int → Int, rr = none ∧ h9 = (nh, hc fh [(98, .inr (12, (.int (zI ms) :: .int (zI mv) :: .ref 99 :: .ref 100 :: .ref 101 :: .ref 102 :: .ref 103 :: .ref 104 :: .ref 105 :: .int (zI mt) :: .int (zI mfa) :: .ref 106 :: .ref 107 :: .ref 108 :: .int (zI mtn) :: .int (zI mtk) :: .int (zI mlv) :: .int (zI mbd) :: .int (zI go2) :: .int (zI ge2) :: .int (zI bk2) :: .ref 109 :: .int (zI tt2) :: .int (zI tl2) :: .ref 110 :: .ref 111 :: .ref 112 :: .ref 113 :: .ref 114 :: .ref 115 :: .ref 116 :: .ref 117 :: .int (zI hm) :: .int (zI pm) :: .int (zI hb) :: .int (zI sb) :: .ref 118 :: .ref 119 :: .ref 120 :: .ref 121 :: .ref 122 :: .ref 123 :: .ref 124 :: .ref 125 :: .ref 126 :: .ref 127 :: .ref 128 :: .ref 129 :: .int (zI mfu) :: .ref 130 :: .ref 131 :: .ref 132 :: .ref 133 :: .ref 134 :: .int (zI mdm) :: .int (zI mla) :: []))), (109, .inl (0, 8, .inl (zA aq2)))]) ∧ (1 ≤ tt2) ∧ (tt2 ≤ 99) ∧ (0 ≤ tl2) ∧ (tl2 ≤ 1) ∧ (0 ≤ bk2) ∧ (bk2 ≤ 1) ∧ (Rg aq2 8 (-2147483648) 2147483647) ∧ (VdX Rv (itB K (x).toNat) pm (K 6) pl pr tl2 tt2))) (nh, hc fh [(98, .inr (12, (.int (zI ms) :: .int (zI mv) :: .ref 99 :: .ref 100 :: .ref 101 :: .ref 102 :: .ref 103 :: .ref 104 :: .ref 105 :: .int (zI mt) :: .int (zI mfa) :: .ref 106 :: .ref 107 :: .ref 108 :: .int (zI mtn) :: .int (zI mtk) :: .int (zI mlv) :: .int (zI mbd) :: .int (zI f98_18_262j) :: .int (zI ge_165) :: .int (zI f98_20_262j) :: .ref 109 :: .int (zI tt_165) :: .int (zI t0_18j) :: .ref 110 :: .ref 111 :: .ref 112 :: .ref 113 :: .ref 114 :: .ref 115 :: .ref 116 :: .ref 117 :: .int (zI hm) :: .int (zI pm) :: .int (zI hb) :: .int (zI sb) :: .ref 118 :: .ref 119 :: .ref 120 :: .ref 121 :: .ref 122 :: .ref 123 :: .ref 124 :: .ref 125 :: .ref 126 :: .ref 127 :: .ref 128 :: .ref 129 :: .int (zI mfu) :: .ref 130 :: .ref 131 :: .ref 132 :: .ref 133 :: .ref 134 :: .int (zI mdm) :: .int (zI mla) :: []))), (109, .inl (0, 8, .inl (zA f29)))]) 0 0 262 [some (.ref 98), some (.int (zI x)), some (.int (zI pl)), some (.int (zI pr)), some (.int (zI lets_165)), some (.int (zI bar_165)), some (.int (zI has_165)), some (.int (zI z39)), some (.long (zL 0)), none, some (.int (zI 0)), none] [.int (zI t0_262j)] := by
                intro f98_18_262j f98_20_262j t0_262j j262_0 j262_1 j262_2 j262_3 j262_4 j262_5
                refine J_istore dX12_asksOf_262 (Nat.le_of_ble_eq_true rfl) rfl ?_
                refine J_ls (ls2 := [some (.ref 98), some (.int (zI x)), some (.int (zI pl)), some (.int (zI pr)), some (.int (zI lets_165)), some (.int (zI bar_165)), some (.int (zI has_165)), some (.int (zI z39)), some (.long (zL 0)), none, some (.int (zI 0)), some (.int (zI t0_262j))]) rfl ?_
                have jn280 : ∀ (t0_280j : Int), (0 ≤ t0_280j) → (t0_280j ≤ 1) → ((z39 = 2 → t0_280j = 1) ∧ (¬ z39 = 2 → t0_280j = has_165)) → J l G MX12_asksOf { frames := 41, cells := 0, slots := 0, locals := 964 } jE (jMQ G { frames := 41, cells := 0, slots := 0, locals := 964 } (fun rr h9 => ∃ go2 : Int, ∃ ge2 : Int, ∃ bk2 : Int, ∃ tt2 : Int, ∃ tl2 : Int, ∃ aq2 : Int → Int, rr = none ∧ h9 = (nh, hc fh [(98, .inr (12, (.int (zI ms) :: .int (zI mv) :: .ref 99 :: .ref 100 :: .ref 101 :: .ref 102 :: .ref 103 :: .ref 104 :: .ref 105 :: .int (zI mt) :: .int (zI mfa) :: .ref 106 :: .ref 107 :: .ref 108 :: .int (zI mtn) :: .int (zI mtk) :: .int (zI mlv) :: .int (zI mbd) :: .int (zI go2) :: .int (zI ge2) :: .int (zI bk2) :: .ref 109 :: .int (zI tt2) :: .int (zI tl2) :: .ref 110 :: .ref 111 :: .ref 112 :: .ref 113 :: .ref 114 :: .ref 115 :: .ref 116 :: .ref 117 :: .int (zI hm) :: .int (zI pm) :: .int (zI hb) :: .int (zI sb) :: .ref 118 :: .ref 119 :: .ref 120 :: .ref 121 :: .ref 122 :: .ref 123 :: .ref 124 :: .ref 125 :: .ref 126 :: .ref 127 :: .ref 128 :: .ref 129 :: .int (zI mfu) :: .ref 130 :: .ref 131 :: .ref 132 :: .ref 133 :: .ref 134 :: .int (zI mdm) :: .int (zI mla) :: []))), (109, .inl (0, 8, .inl (zA aq2)))]) ∧ (1 ≤ tt2) ∧ (tt2 ≤ 99) ∧ (0 ≤ tl2) ∧ (tl2 ≤ 1) ∧ (0 ≤ bk2) ∧ (bk2 ≤ 1) ∧ (Rg aq2 8 (-2147483648) 2147483647) ∧ (VdX Rv (itB K (x).toNat) pm (K 6) pl pr tl2 tt2))) (nh, hc fh [(98, .inr (12, (.int (zI ms) :: .int (zI mv) :: .ref 99 :: .ref 100 :: .ref 101 :: .ref 102 :: .ref 103 :: .ref 104 :: .ref 105 :: .int (zI mt) :: .int (zI mfa) :: .ref 106 :: .ref 107 :: .ref 108 :: .int (zI mtn) :: .int (zI mtk) :: .int (zI mlv) :: .int (zI mbd) :: .int (zI f98_18_262j) :: .int (zI ge_165) :: .int (zI f98_20_262j) :: .ref 109 :: .int (zI tt_165) :: .int (zI t0_18j) :: .ref 110 :: .ref 111 :: .ref 112 :: .ref 113 :: .ref 114 :: .ref 115 :: .ref 116 :: .ref 117 :: .int (zI hm) :: .int (zI pm) :: .int (zI hb) :: .int (zI sb) :: .ref 118 :: .ref 119 :: .ref 120 :: .ref 121 :: .ref 122 :: .ref 123 :: .ref 124 :: .ref 125 :: .ref 126 :: .ref 127 :: .ref 128 :: .ref 129 :: .int (zI mfu) :: .ref 130 :: .ref 131 :: .ref 132 :: .ref 133 :: .ref 134 :: .int (zI mdm) :: .int (zI mla) :: []))), (109, .inl (0, 8, .inl (zA f29)))]) 0 0 280 [some (.ref 98), some (.int (zI x)), some (.int (zI pl)), some (.int (zI pr)), some (.int (zI lets_165)), some (.int (zI bar_165)), some (.int (zI has_165)), some (.int (zI z39)), some (.long (zL 0)), none, some (.int (zI 0)), some (.int (zI t0_262j))] [.int (zI t0_280j)] := by
                  intro t0_280j j280_0 j280_1 j280_2
                  refine J_istore dX12_asksOf_280 (Nat.le_of_ble_eq_true rfl) rfl ?_
                  refine J_ls (ls2 := [some (.ref 98), some (.int (zI x)), some (.int (zI pl)), some (.int (zI pr)), some (.int (zI lets_165)), some (.int (zI bar_165)), some (.int (zI t0_280j)), some (.int (zI z39)), some (.long (zL 0)), none, some (.int (zI 0)), some (.int (zI t0_262j))]) rfl ?_
                  have jn303 : ∀ (t0_303j : Int), (0 ≤ t0_303j) → (t0_303j ≤ 1) → ((z39 = 2 → t0_262j = 1 → t0_303j = 1) ∧ (¬ z39 = 2 ∨ ¬ t0_262j = 1 → t0_303j = lets_165)) → J l G MX12_asksOf { frames := 41, cells := 0, slots := 0, locals := 964 } jE (jMQ G { frames := 41, cells := 0, slots := 0, locals := 964 } (fun rr h9 => ∃ go2 : Int, ∃ ge2 : Int, ∃ bk2 : Int, ∃ tt2 : Int, ∃ tl2 : Int, ∃ aq2 : Int → Int, rr = none ∧ h9 = (nh, hc fh [(98, .inr (12, (.int (zI ms) :: .int (zI mv) :: .ref 99 :: .ref 100 :: .ref 101 :: .ref 102 :: .ref 103 :: .ref 104 :: .ref 105 :: .int (zI mt) :: .int (zI mfa) :: .ref 106 :: .ref 107 :: .ref 108 :: .int (zI mtn) :: .int (zI mtk) :: .int (zI mlv) :: .int (zI mbd) :: .int (zI go2) :: .int (zI ge2) :: .int (zI bk2) :: .ref 109 :: .int (zI tt2) :: .int (zI tl2) :: .ref 110 :: .ref 111 :: .ref 112 :: .ref 113 :: .ref 114 :: .ref 115 :: .ref 116 :: .ref 117 :: .int (zI hm) :: .int (zI pm) :: .int (zI hb) :: .int (zI sb) :: .ref 118 :: .ref 119 :: .ref 120 :: .ref 121 :: .ref 122 :: .ref 123 :: .ref 124 :: .ref 125 :: .ref 126 :: .ref 127 :: .ref 128 :: .ref 129 :: .int (zI mfu) :: .ref 130 :: .ref 131 :: .ref 132 :: .ref 133 :: .ref 134 :: .int (zI mdm) :: .int (zI mla) :: []))), (109, .inl (0, 8, .inl (zA aq2)))]) ∧ (1 ≤ tt2) ∧ (tt2 ≤ 99) ∧ (0 ≤ tl2) ∧ (tl2 ≤ 1) ∧ (0 ≤ bk2) ∧ (bk2 ≤ 1) ∧ (Rg aq2 8 (-2147483648) 2147483647) ∧ (VdX Rv (itB K (x).toNat) pm (K 6) pl pr tl2 tt2))) (nh, hc fh [(98, .inr (12, (.int (zI ms) :: .int (zI mv) :: .ref 99 :: .ref 100 :: .ref 101 :: .ref 102 :: .ref 103 :: .ref 104 :: .ref 105 :: .int (zI mt) :: .int (zI mfa) :: .ref 106 :: .ref 107 :: .ref 108 :: .int (zI mtn) :: .int (zI mtk) :: .int (zI mlv) :: .int (zI mbd) :: .int (zI f98_18_262j) :: .int (zI ge_165) :: .int (zI f98_20_262j) :: .ref 109 :: .int (zI tt_165) :: .int (zI t0_18j) :: .ref 110 :: .ref 111 :: .ref 112 :: .ref 113 :: .ref 114 :: .ref 115 :: .ref 116 :: .ref 117 :: .int (zI hm) :: .int (zI pm) :: .int (zI hb) :: .int (zI sb) :: .ref 118 :: .ref 119 :: .ref 120 :: .ref 121 :: .ref 122 :: .ref 123 :: .ref 124 :: .ref 125 :: .ref 126 :: .ref 127 :: .ref 128 :: .ref 129 :: .int (zI mfu) :: .ref 130 :: .ref 131 :: .ref 132 :: .ref 133 :: .ref 134 :: .int (zI mdm) :: .int (zI mla) :: []))), (109, .inl (0, 8, .inl (zA f29)))]) 0 0 303 [some (.ref 98), some (.int (zI x)), some (.int (zI pl)), some (.int (zI pr)), some (.int (zI lets_165)), some (.int (zI bar_165)), some (.int (zI t0_280j)), some (.int (zI z39)), some (.long (zL 0)), none, some (.int (zI 0)), some (.int (zI t0_262j))] [.int (zI t0_303j)] := by
                    intro t0_303j j303_0 j303_1 j303_2
                    refine J_istore dX12_asksOf_303 (Nat.le_of_ble_eq_true rfl) rfl ?_
                    refine J_ls (ls2 := [some (.ref 98), some (.int (zI x)), some (.int (zI pl)), some (.int (zI pr)), some (.int (zI t0_303j)), some (.int (zI bar_165)), some (.int (zI t0_280j)), some (.int (zI z39)), some (.long (zL 0)), none, some (.int (zI 0)), some (.int (zI t0_262j))]) rfl ?_
                    have jn326 : ∀ (t0_326j : Int), (0 ≤ t0_326j) → (t0_326j ≤ 1) → ((z39 = 3 → t0_262j = 1 → t0_326j = 1) ∧ (¬ z39 = 3 ∨ ¬ t0_262j = 1 → t0_326j = bar_165)) → J l G MX12_asksOf { frames := 41, cells := 0, slots := 0, locals := 964 } jE (jMQ G { frames := 41, cells := 0, slots := 0, locals := 964 } (fun rr h9 => ∃ go2 : Int, ∃ ge2 : Int, ∃ bk2 : Int, ∃ tt2 : Int, ∃ tl2 : Int, ∃ aq2 : Int → Int, rr = none ∧ h9 = (nh, hc fh [(98, .inr (12, (.int (zI ms) :: .int (zI mv) :: .ref 99 :: .ref 100 :: .ref 101 :: .ref 102 :: .ref 103 :: .ref 104 :: .ref 105 :: .int (zI mt) :: .int (zI mfa) :: .ref 106 :: .ref 107 :: .ref 108 :: .int (zI mtn) :: .int (zI mtk) :: .int (zI mlv) :: .int (zI mbd) :: .int (zI go2) :: .int (zI ge2) :: .int (zI bk2) :: .ref 109 :: .int (zI tt2) :: .int (zI tl2) :: .ref 110 :: .ref 111 :: .ref 112 :: .ref 113 :: .ref 114 :: .ref 115 :: .ref 116 :: .ref 117 :: .int (zI hm) :: .int (zI pm) :: .int (zI hb) :: .int (zI sb) :: .ref 118 :: .ref 119 :: .ref 120 :: .ref 121 :: .ref 122 :: .ref 123 :: .ref 124 :: .ref 125 :: .ref 126 :: .ref 127 :: .ref 128 :: .ref 129 :: .int (zI mfu) :: .ref 130 :: .ref 131 :: .ref 132 :: .ref 133 :: .ref 134 :: .int (zI mdm) :: .int (zI mla) :: []))), (109, .inl (0, 8, .inl (zA aq2)))]) ∧ (1 ≤ tt2) ∧ (tt2 ≤ 99) ∧ (0 ≤ tl2) ∧ (tl2 ≤ 1) ∧ (0 ≤ bk2) ∧ (bk2 ≤ 1) ∧ (Rg aq2 8 (-2147483648) 2147483647) ∧ (VdX Rv (itB K (x).toNat) pm (K 6) pl pr tl2 tt2))) (nh, hc fh [(98, .inr (12, (.int (zI ms) :: .int (zI mv) :: .ref 99 :: .ref 100 :: .ref 101 :: .ref 102 :: .ref 103 :: .ref 104 :: .ref 105 :: .int (zI mt) :: .int (zI mfa) :: .ref 106 :: .ref 107 :: .ref 108 :: .int (zI mtn) :: .int (zI mtk) :: .int (zI mlv) :: .int (zI mbd) :: .int (zI f98_18_262j) :: .int (zI ge_165) :: .int (zI f98_20_262j) :: .ref 109 :: .int (zI tt_165) :: .int (zI t0_18j) :: .ref 110 :: .ref 111 :: .ref 112 :: .ref 113 :: .ref 114 :: .ref 115 :: .ref 116 :: .ref 117 :: .int (zI hm) :: .int (zI pm) :: .int (zI hb) :: .int (zI sb) :: .ref 118 :: .ref 119 :: .ref 120 :: .ref 121 :: .ref 122 :: .ref 123 :: .ref 124 :: .ref 125 :: .ref 126 :: .ref 127 :: .ref 128 :: .ref 129 :: .int (zI mfu) :: .ref 130 :: .ref 131 :: .ref 132 :: .ref 133 :: .ref 134 :: .int (zI mdm) :: .int (zI mla) :: []))), (109, .inl (0, 8, .inl (zA f29)))]) 0 0 326 [some (.ref 98), some (.int (zI x)), some (.int (zI pl)), some (.int (zI pr)), some (.int (zI t0_303j)), some (.int (zI bar_165)), some (.int (zI t0_280j)), some (.int (zI z39)), some (.long (zL 0)), none, some (.int (zI 0)), some (.int (zI t0_262j))] [.int (zI t0_326j)] := by
                      intro t0_326j j326_0 j326_1 j326_2
                      refine J_istore dX12_asksOf_326 (Nat.le_of_ble_eq_true rfl) rfl ?_
                      refine J_ls (ls2 := [some (.ref 98), some (.int (zI x)), some (.int (zI pl)), some (.int (zI pr)), some (.int (zI t0_303j)), some (.int (zI t0_326j)), some (.int (zI t0_280j)), some (.int (zI z39)), some (.long (zL 0)), none, some (.int (zI 0)), some (.int (zI t0_262j))]) rfl ?_
                      refine J_iload dX12_asksOf_328 rfl ?_
                      refine Z_iconst (n := 1) dX12_asksOf_330 ?_
                      refine Z_icmp_ne (tgt := 371) dX12_asksOf_331 (by decide) (v_b25fa51a85 h41) v_4dcc24baa7 (fun h43 => ?_) (fun h43 => absurd h43 (v_9c549312fa h42))
                      refine J_aload_n dX12_asksOf_371 rfl rfl ?_
                      refine J_dup dX12_asksOf_372 rfl ?_
                      refine J_get (v := .int (zI f98_18_262j)) dX12_asksOf_373 fl_X12_240 rfl rfl ?_
                      refine Z_iconst (n := 1) dX12_asksOf_376 ?_
                      refine Z_iadd (c := f98_18_262j + 1) dX12_asksOf_377 rfl ?_
                      refine K_put (fs2 := (.int (zI ms) :: .int (zI mv) :: .ref 99 :: .ref 100 :: .ref 101 :: .ref 102 :: .ref 103 :: .ref 104 :: .ref 105 :: .int (zI mt) :: .int (zI mfa) :: .ref 106 :: .ref 107 :: .ref 108 :: .int (zI mtn) :: .int (zI mtk) :: .int (zI mlv) :: .int (zI mbd) :: .int (zI (f98_18_262j + 1)) :: .int (zI ge_165) :: .int (zI f98_20_262j) :: .ref 109 :: .int (zI tt_165) :: .int (zI t0_18j) :: .ref 110 :: .ref 111 :: .ref 112 :: .ref 113 :: .ref 114 :: .ref 115 :: .ref 116 :: .ref 117 :: .int (zI hm) :: .int (zI pm) :: .int (zI hb) :: .int (zI sb) :: .ref 118 :: .ref 119 :: .ref 120 :: .ref 121 :: .ref 122 :: .ref 123 :: .ref 124 :: .ref 125 :: .ref 126 :: .ref 127 :: .ref 128 :: .ref 129 :: .int (zI mfu) :: .ref 130 :: .ref 131 :: .ref 132 :: .ref 133 :: .ref 134 :: .int (zI mdm) :: .int (zI mla) :: [])) dX12_asksOf_378 fw_X12_240 rfl (Nat.le_of_ble_eq_true rfl) (fun _ => ⟨rfl, rfl⟩) rfl ?_
                      refine J_goto (tgt := 165) dX12_asksOf_381 (by decide) ?_
                      refine J_mask (L2 := [(98, .inr (12, (.int (zI ms) :: .int (zI mv) :: .ref 99 :: .ref 100 :: .ref 101 :: .ref 102 :: .ref 103 :: .ref 104 :: .ref 105 :: .int (zI mt) :: .int (zI mfa) :: .ref 106 :: .ref 107 :: .ref 108 :: .int (zI mtn) :: .int (zI mtk) :: .int (zI mlv) :: .int (zI mbd) :: .int (zI (f98_18_262j + 1)) :: .int (zI ge_165) :: .int (zI f98_20_262j) :: .ref 109 :: .int (zI tt_165) :: .int (zI t0_18j) :: .ref 110 :: .ref 111 :: .ref 112 :: .ref 113 :: .ref 114 :: .ref 115 :: .ref 116 :: .ref 117 :: .int (zI hm) :: .int (zI pm) :: .int (zI hb) :: .int (zI sb) :: .ref 118 :: .ref 119 :: .ref 120 :: .ref 121 :: .ref 122 :: .ref 123 :: .ref 124 :: .ref 125 :: .ref 126 :: .ref 127 :: .ref 128 :: .ref 129 :: .int (zI mfu) :: .ref 130 :: .ref 131 :: .ref 132 :: .ref 133 :: .ref 134 :: .int (zI mdm) :: .int (zI mla) :: []))), (109, .inl (0, 8, .inl (zA f29)))]) (ks := [98, 98, 109]) [true, false, true] rfl (by decide +kernel) rfl ?_
                      refine J_drop (ls2 := [some (.ref 98), some (.int (zI x)), some (.int (zI pl)), some (.int (zI pr)), some (.int (zI t0_303j)), some (.int (zI t0_326j)), some (.int (zI t0_280j)), none, none, none, none, none]) [true, true, true, true, true, true, true, false, false, false, false, false] rfl ?_
                      exact ih165 t0_303j t0_326j t0_280j (f98_18_262j + 1) ge_165 f98_20_262j tt_165 (v_8f1473a571 i165_0 gc2 j262_0) (v_c71e976cc1 gc5 j262_0) i165_2 i165_3 (by have u : f98_18_262j + 1 = mb + 1 := (v_826844c169 j262_0); rw [u]; exact gc4 _ _ _ _ (clV_of (ClD.kc gc1 h40) j262_5 gev j280_2 j303_2 j326_2 ⟨fun a b => by omega, fun _ => rfl⟩)) j262_1 j262_2 i165_7 i165_8 j303_0 j303_1 j326_0 j326_1 j280_0 j280_1 (meas_lt (v_0721e0afbd gc2 j262_0) (v_030ef49f57 h33) hm165)
                    refine J_iload dX12_asksOf_305 rfl ?_
                    refine Z_if_ne (tgt := 321) dX12_asksOf_307 (by decide) (v_5f10a759cd i165_11 i165_12) (fun h44 => ?_) (fun h44 => ?_)
                    · refine Z_iconst (n := 1) dX12_asksOf_321 ?_
                      refine J_goto (tgt := 326) dX12_asksOf_322 (by decide) ?_
                      exact jn326 1 v_316afd7d0b v_bbcfac9b7d (by omega)
                    · refine J_iload dX12_asksOf_310 rfl ?_
                      refine Z_iconst (n := 3) dX12_asksOf_312 ?_
                      refine Z_icmp_ne (tgt := 325) dX12_asksOf_313 (by decide) (v_b25fa51a85 h41) v_1cc5223c3a (fun h45 => ?_) (fun h45 => ?_)
                      · refine Z_iconst (n := 0) dX12_asksOf_325 ?_
                        exact jn326 0 v_939070ca3f v_316afd7d0b (by omega)
                      · refine J_iload dX12_asksOf_316 rfl ?_
                        refine Z_if_eq (tgt := 325) dX12_asksOf_318 (by decide) (v_5f10a759cd j262_3 j262_4) (fun h46 => ?_) (fun h46 => ?_)
                        · refine Z_iconst (n := 0) dX12_asksOf_325 ?_
                          exact jn326 0 v_939070ca3f v_316afd7d0b (by omega)
                        · refine Z_iconst (n := 1) dX12_asksOf_321 ?_
                          refine J_goto (tgt := 326) dX12_asksOf_322 (by decide) ?_
                          exact jn326 1 v_316afd7d0b v_bbcfac9b7d (by omega)
                  refine J_iload dX12_asksOf_282 rfl ?_
                  refine Z_if_ne (tgt := 298) dX12_asksOf_284 (by decide) (v_5f10a759cd i165_9 i165_10) (fun h47 => ?_) (fun h47 => ?_)
                  · refine Z_iconst (n := 1) dX12_asksOf_298 ?_
                    refine J_goto (tgt := 303) dX12_asksOf_299 (by decide) ?_
                    exact jn303 1 v_316afd7d0b v_bbcfac9b7d (by omega)
                  · refine J_iload dX12_asksOf_287 rfl ?_
                    refine Z_iconst (n := 2) dX12_asksOf_289 ?_
                    refine Z_icmp_ne (tgt := 302) dX12_asksOf_290 (by decide) (v_b25fa51a85 h41) v_9ea63c5f56 (fun h48 => ?_) (fun h48 => ?_)
                    · refine Z_iconst (n := 0) dX12_asksOf_302 ?_
                      exact jn303 0 v_939070ca3f v_316afd7d0b (by omega)
                    · refine J_iload dX12_asksOf_293 rfl ?_
                      refine Z_if_eq (tgt := 302) dX12_asksOf_295 (by decide) (v_5f10a759cd j262_3 j262_4) (fun h49 => ?_) (fun h49 => ?_)
                      · refine Z_iconst (n := 0) dX12_asksOf_302 ?_
                        exact jn303 0 v_939070ca3f v_316afd7d0b (by omega)
                      · refine Z_iconst (n := 1) dX12_asksOf_298 ?_
                        refine J_goto (tgt := 303) dX12_asksOf_299 (by decide) ?_
                        exact jn303 1 v_316afd7d0b v_bbcfac9b7d (by omega)
                refine J_iload dX12_asksOf_264 rfl ?_
                refine Z_if_ne (tgt := 275) dX12_asksOf_266 (by decide) (v_5f10a759cd i165_13 i165_14) (fun h50 => ?_) (fun h50 => ?_)
                · refine Z_iconst (n := 1) dX12_asksOf_275 ?_
                  refine J_goto (tgt := 280) dX12_asksOf_276 (by decide) ?_
                  exact jn280 1 v_316afd7d0b v_bbcfac9b7d (by omega)
                · refine J_iload dX12_asksOf_269 rfl ?_
                  refine Z_iconst (n := 2) dX12_asksOf_271 ?_
                  refine Z_icmp_ne (tgt := 279) dX12_asksOf_272 (by decide) (v_b25fa51a85 h41) v_9ea63c5f56 (fun h51 => ?_) (fun h51 => ?_)
                  · refine Z_iconst (n := 0) dX12_asksOf_279 ?_
                    exact jn280 0 v_939070ca3f v_316afd7d0b (by omega)
                  · refine Z_iconst (n := 1) dX12_asksOf_275 ?_
                    refine J_goto (tgt := 280) dX12_asksOf_276 (by decide) ?_
                    exact jn280 1 v_316afd7d0b v_bbcfac9b7d (by omega)
              refine J_aload_n dX12_asksOf_229 rfl rfl ?_
              refine Z_iconst (n := 4) dX12_asksOf_230 ?_
              refine J_callV (st := []) dX12_asksOf_231 cv_X12_265 (k_passes0 4 K ms mv mt mfa mtn mtk mlv mbd (go_165 + 1) ge_165 0 tt_165 t0_18j hm pm hb sb mfu mdm mla v_ffb526fa28 (v_da458fa48a i165_0) (v_c098d251b2 i165_2 h33) i165_3 i165_2 q12 rfl hk100) rfl rfl rfl (Nat.le_of_ble_eq_true rfl) ⟨(Nat.le_of_ble_eq_true rfl), (Nat.le_of_ble_eq_true rfl)⟩ ⟨(Nat.le_of_ble_eq_true rfl), (Nat.le_of_ble_eq_true rfl)⟩ (fun r h9 hp => ?_)
              rcases hp with ⟨z52, rfl, rfl, h53, h54⟩ | ⟨rfl, rfl, h55⟩
              · refine J_nf (nh2 := nh) (ck2 := 0) (sk2 := 0) (st2 := [.int (zI 1)]) rfl rfl rfl rfl ?_
                refine J_app (L3 := [(98, .inr (12, (.int (zI ms) :: .int (zI mv) :: .ref 99 :: .ref 100 :: .ref 101 :: .ref 102 :: .ref 103 :: .ref 104 :: .ref 105 :: .int (zI mt) :: .int (zI mfa) :: .ref 106 :: .ref 107 :: .ref 108 :: .int (zI mtn) :: .int (zI mtk) :: .int (zI mlv) :: .int (zI mbd) :: .int (zI z52) :: .int (zI ge_165) :: .int (zI 0) :: .ref 109 :: .int (zI tt_165) :: .int (zI t0_18j) :: .ref 110 :: .ref 111 :: .ref 112 :: .ref 113 :: .ref 114 :: .ref 115 :: .ref 116 :: .ref 117 :: .int (zI hm) :: .int (zI pm) :: .int (zI hb) :: .int (zI sb) :: .ref 118 :: .ref 119 :: .ref 120 :: .ref 121 :: .ref 122 :: .ref 123 :: .ref 124 :: .ref 125 :: .ref 126 :: .ref 127 :: .ref 128 :: .ref 129 :: .int (zI mfu) :: .ref 130 :: .ref 131 :: .ref 132 :: .ref 133 :: .ref 134 :: .int (zI mdm) :: .int (zI mla) :: []))), (98, .inr (12, (.int (zI ms) :: .int (zI mv) :: .ref 99 :: .ref 100 :: .ref 101 :: .ref 102 :: .ref 103 :: .ref 104 :: .ref 105 :: .int (zI mt) :: .int (zI mfa) :: .ref 106 :: .ref 107 :: .ref 108 :: .int (zI mtn) :: .int (zI mtk) :: .int (zI mlv) :: .int (zI mbd) :: .int (zI (go_165 + 1)) :: .int (zI ge_165) :: .int (zI 0) :: .ref 109 :: .int (zI tt_165) :: .int (zI t0_18j) :: .ref 110 :: .ref 111 :: .ref 112 :: .ref 113 :: .ref 114 :: .ref 115 :: .ref 116 :: .ref 117 :: .int (zI hm) :: .int (zI pm) :: .int (zI hb) :: .int (zI sb) :: .ref 118 :: .ref 119 :: .ref 120 :: .ref 121 :: .ref 122 :: .ref 123 :: .ref 124 :: .ref 125 :: .ref 126 :: .ref 127 :: .ref 128 :: .ref 129 :: .int (zI mfu) :: .ref 130 :: .ref 131 :: .ref 132 :: .ref 133 :: .ref 134 :: .int (zI mdm) :: .int (zI mla) :: []))), (109, .inl (0, 8, .inl (zA f29)))]) rfl ?_
                refine J_mask (L2 := [(98, .inr (12, (.int (zI ms) :: .int (zI mv) :: .ref 99 :: .ref 100 :: .ref 101 :: .ref 102 :: .ref 103 :: .ref 104 :: .ref 105 :: .int (zI mt) :: .int (zI mfa) :: .ref 106 :: .ref 107 :: .ref 108 :: .int (zI mtn) :: .int (zI mtk) :: .int (zI mlv) :: .int (zI mbd) :: .int (zI z52) :: .int (zI ge_165) :: .int (zI 0) :: .ref 109 :: .int (zI tt_165) :: .int (zI t0_18j) :: .ref 110 :: .ref 111 :: .ref 112 :: .ref 113 :: .ref 114 :: .ref 115 :: .ref 116 :: .ref 117 :: .int (zI hm) :: .int (zI pm) :: .int (zI hb) :: .int (zI sb) :: .ref 118 :: .ref 119 :: .ref 120 :: .ref 121 :: .ref 122 :: .ref 123 :: .ref 124 :: .ref 125 :: .ref 126 :: .ref 127 :: .ref 128 :: .ref 129 :: .int (zI mfu) :: .ref 130 :: .ref 131 :: .ref 132 :: .ref 133 :: .ref 134 :: .int (zI mdm) :: .int (zI mla) :: []))), (109, .inl (0, 8, .inl (zA f29)))]) (ks := [98, 98, 109]) [true, false, true] rfl (by decide +kernel) rfl ?_
                refine Z_if_eq (tgt := 245) dX12_asksOf_234 (by decide) v_4dcc24baa7 (fun h56 => absurd h56 v_3a47bfd896) (fun h56 => ?_)
                obtain ⟨gt1, gt2⟩ := IfD.yy gif h54
                have gtq : TeD (Cd K ge_165) (Vd K) 8 z52 mb fb := by have u : z52 = go_165 + 1 + 1 := (v_6d75361b57 h53); rw [u]; exact gt1
                refine J_aload_n dX12_asksOf_237 rfl rfl ?_
                refine Z_iconst (n := 1) dX12_asksOf_238 ?_
                refine J_callV (st := []) dX12_asksOf_239 cv_X12_281 (k_testOf 8 1 mb fb w8 ms mv mt mfa mtn mtk mlv mbd z52 ge_165 0 tt_165 t0_18j hm pm hb sb mfu mdm mla K f29 gtq (v_6127ba828a h53 gt2) gc5 (v_72b4d9352e i165_0 h53) i165_2 v_316afd7d0b v_bbcfac9b7d v_939070ca3f v_316afd7d0b q12 h30 gw8 gw9 rfl hk100 rfl) rfl rfl rfl (Nat.le_of_ble_eq_true rfl) ⟨(Nat.le_of_ble_eq_true rfl), (Nat.le_of_ble_eq_true rfl)⟩ ⟨(Nat.le_of_ble_eq_true rfl), (Nat.le_of_ble_eq_true rfl)⟩ (fun r h9 hp => ?_)
                obtain ⟨z57, z58, z59, rfl, rfl, h60, h61, h62, h63, h64, h65⟩ := hp
                refine J_nf (nh2 := nh) (ck2 := 0) (sk2 := 0) (st2 := [.int (zI z57)]) rfl rfl rfl rfl ?_
                refine J_app (L3 := [(98, .inr (12, (.int (zI ms) :: .int (zI mv) :: .ref 99 :: .ref 100 :: .ref 101 :: .ref 102 :: .ref 103 :: .ref 104 :: .ref 105 :: .int (zI mt) :: .int (zI mfa) :: .ref 106 :: .ref 107 :: .ref 108 :: .int (zI mtn) :: .int (zI mtk) :: .int (zI mlv) :: .int (zI mbd) :: .int (zI z58) :: .int (zI ge_165) :: .int (zI z59) :: .ref 109 :: .int (zI tt_165) :: .int (zI t0_18j) :: .ref 110 :: .ref 111 :: .ref 112 :: .ref 113 :: .ref 114 :: .ref 115 :: .ref 116 :: .ref 117 :: .int (zI hm) :: .int (zI pm) :: .int (zI hb) :: .int (zI sb) :: .ref 118 :: .ref 119 :: .ref 120 :: .ref 121 :: .ref 122 :: .ref 123 :: .ref 124 :: .ref 125 :: .ref 126 :: .ref 127 :: .ref 128 :: .ref 129 :: .int (zI mfu) :: .ref 130 :: .ref 131 :: .ref 132 :: .ref 133 :: .ref 134 :: .int (zI mdm) :: .int (zI mla) :: []))), (98, .inr (12, (.int (zI ms) :: .int (zI mv) :: .ref 99 :: .ref 100 :: .ref 101 :: .ref 102 :: .ref 103 :: .ref 104 :: .ref 105 :: .int (zI mt) :: .int (zI mfa) :: .ref 106 :: .ref 107 :: .ref 108 :: .int (zI mtn) :: .int (zI mtk) :: .int (zI mlv) :: .int (zI mbd) :: .int (zI z52) :: .int (zI ge_165) :: .int (zI 0) :: .ref 109 :: .int (zI tt_165) :: .int (zI t0_18j) :: .ref 110 :: .ref 111 :: .ref 112 :: .ref 113 :: .ref 114 :: .ref 115 :: .ref 116 :: .ref 117 :: .int (zI hm) :: .int (zI pm) :: .int (zI hb) :: .int (zI sb) :: .ref 118 :: .ref 119 :: .ref 120 :: .ref 121 :: .ref 122 :: .ref 123 :: .ref 124 :: .ref 125 :: .ref 126 :: .ref 127 :: .ref 128 :: .ref 129 :: .int (zI mfu) :: .ref 130 :: .ref 131 :: .ref 132 :: .ref 133 :: .ref 134 :: .int (zI mdm) :: .int (zI mla) :: []))), (109, .inl (0, 8, .inl (zA f29)))]) rfl ?_
                refine J_mask (L2 := [(98, .inr (12, (.int (zI ms) :: .int (zI mv) :: .ref 99 :: .ref 100 :: .ref 101 :: .ref 102 :: .ref 103 :: .ref 104 :: .ref 105 :: .int (zI mt) :: .int (zI mfa) :: .ref 106 :: .ref 107 :: .ref 108 :: .int (zI mtn) :: .int (zI mtk) :: .int (zI mlv) :: .int (zI mbd) :: .int (zI z58) :: .int (zI ge_165) :: .int (zI z59) :: .ref 109 :: .int (zI tt_165) :: .int (zI t0_18j) :: .ref 110 :: .ref 111 :: .ref 112 :: .ref 113 :: .ref 114 :: .ref 115 :: .ref 116 :: .ref 117 :: .int (zI hm) :: .int (zI pm) :: .int (zI hb) :: .int (zI sb) :: .ref 118 :: .ref 119 :: .ref 120 :: .ref 121 :: .ref 122 :: .ref 123 :: .ref 124 :: .ref 125 :: .ref 126 :: .ref 127 :: .ref 128 :: .ref 129 :: .int (zI mfu) :: .ref 130 :: .ref 131 :: .ref 132 :: .ref 133 :: .ref 134 :: .int (zI mdm) :: .int (zI mla) :: []))), (109, .inl (0, 8, .inl (zA f29)))]) (ks := [98, 98, 109]) [true, false, true] rfl (by decide +kernel) rfl ?_
                refine Z_if_eq (tgt := 261) dX12_asksOf_242 (by decide) (v_5f10a759cd h63 h64) (fun h66 => ?_) (fun h66 => ?_)
                · refine Z_iconst (n := 0) dX12_asksOf_261 ?_
                  exact jn262 z58 z59 0 h60 h61 h62 v_939070ca3f v_316afd7d0b (by rw [hld_of gev h65]; omega)
                · refine J_aload_n dX12_asksOf_245 rfl rfl ?_
                  refine J_get (v := .int (zI z59)) dX12_asksOf_246 fl_X12_250 rfl rfl ?_
                  refine Z_if_ne (tgt := 261) dX12_asksOf_249 (by decide) (v_5f10a759cd h61 h62) (fun h67 => ?_) (fun h67 => ?_)
                  · refine Z_iconst (n := 0) dX12_asksOf_261 ?_
                    exact jn262 z58 z59 0 h60 h61 h62 v_939070ca3f v_316afd7d0b (by rw [hld_of gev h65]; omega)
                  · refine J_iload dX12_asksOf_252 rfl ?_
                    refine Z_if_ne (tgt := 261) dX12_asksOf_254 (by decide) v_b17331891f (fun h68 => absurd h68 (fun q => q v_2ca2bbca1f)) (fun h68 => ?_)
                    refine Z_iconst (n := 1) dX12_asksOf_257 ?_
                    refine J_goto (tgt := 262) dX12_asksOf_258 (by decide) ?_
                    exact jn262 z58 z59 1 h60 h61 h62 v_316afd7d0b v_bbcfac9b7d (by rw [hld_of gev h65]; omega)
              · refine J_nf (nh2 := nh) (ck2 := 0) (sk2 := 0) (st2 := [.int (zI 0)]) rfl rfl rfl rfl ?_
                refine Z_if_eq (tgt := 245) dX12_asksOf_234 (by decide) v_b17331891f (fun h69 => ?_) (fun h69 => absurd h69 (fun q => q v_2ca2bbca1f))
                have gnb : mb = go_165 + 1 := (IfD.n (w := w8) gif h55).1
                refine J_aload_n dX12_asksOf_245 rfl rfl ?_
                refine J_get (v := .int (zI 0)) dX12_asksOf_246 fl_X12_250 rfl rfl ?_
                refine Z_if_ne (tgt := 261) dX12_asksOf_249 (by decide) v_b17331891f (fun h70 => absurd h70 (fun q => q v_2ca2bbca1f)) (fun h70 => ?_)
                refine J_iload dX12_asksOf_252 rfl ?_
                refine Z_if_ne (tgt := 261) dX12_asksOf_254 (by decide) v_b17331891f (fun h71 => absurd h71 (fun q => q v_2ca2bbca1f)) (fun h71 => ?_)
                refine Z_iconst (n := 1) dX12_asksOf_257 ?_
                refine J_goto (tgt := 262) dX12_asksOf_258 (by decide) ?_
                exact jn262 (go_165 + 1) 0 1 (v_23a97348cc gc2 gnb) v_939070ca3f v_316afd7d0b v_316afd7d0b v_bbcfac9b7d (by rw [hld_of gev (IfD.n (w := w8) gif h55).2]; omega)
            · obtain ⟨ma, gsu, gsl, gif, gml⟩ := ClD.tk gc1 (h40.trans (v_b757d97f93 h42))
              refine J_aload_n dX12_asksOf_207 rfl rfl ?_
              refine Z_iconst (n := 1) dX12_asksOf_208 ?_
              refine J_callV (st := []) dX12_asksOf_209 cv_X12_268 (k_sumOf 8 1 ma fa w8 ms mv mt mfa mtn mtk mlv mbd (go_165 + 1) ge_165 0 tt_165 t0_18j hm pm hb sb mfu mdm mla K f29 gsu gsl (v_f57be7c965 gc5 gml) (v_da458fa48a i165_0) i165_2 v_316afd7d0b v_bbcfac9b7d v_939070ca3f v_316afd7d0b q12 h30 gw8 gw9 rfl hk100 rfl) rfl rfl rfl (Nat.le_of_ble_eq_true rfl) ⟨(Nat.le_of_ble_eq_true rfl), (Nat.le_of_ble_eq_true rfl)⟩ ⟨(Nat.le_of_ble_eq_true rfl), (Nat.le_of_ble_eq_true rfl)⟩ (fun r h9 hp => ?_)
              obtain ⟨z72, z73, z74, rfl, rfl, h75, h76, h77, h78, h79, h80⟩ := hp
              refine J_nf (nh2 := nh) (ck2 := 0) (sk2 := 0) (st2 := [.long (zL z72)]) rfl rfl rfl rfl ?_
              refine J_app (L3 := [(98, .inr (12, (.int (zI ms) :: .int (zI mv) :: .ref 99 :: .ref 100 :: .ref 101 :: .ref 102 :: .ref 103 :: .ref 104 :: .ref 105 :: .int (zI mt) :: .int (zI mfa) :: .ref 106 :: .ref 107 :: .ref 108 :: .int (zI mtn) :: .int (zI mtk) :: .int (zI mlv) :: .int (zI mbd) :: .int (zI z73) :: .int (zI ge_165) :: .int (zI z74) :: .ref 109 :: .int (zI tt_165) :: .int (zI t0_18j) :: .ref 110 :: .ref 111 :: .ref 112 :: .ref 113 :: .ref 114 :: .ref 115 :: .ref 116 :: .ref 117 :: .int (zI hm) :: .int (zI pm) :: .int (zI hb) :: .int (zI sb) :: .ref 118 :: .ref 119 :: .ref 120 :: .ref 121 :: .ref 122 :: .ref 123 :: .ref 124 :: .ref 125 :: .ref 126 :: .ref 127 :: .ref 128 :: .ref 129 :: .int (zI mfu) :: .ref 130 :: .ref 131 :: .ref 132 :: .ref 133 :: .ref 134 :: .int (zI mdm) :: .int (zI mla) :: []))), (98, .inr (12, (.int (zI ms) :: .int (zI mv) :: .ref 99 :: .ref 100 :: .ref 101 :: .ref 102 :: .ref 103 :: .ref 104 :: .ref 105 :: .int (zI mt) :: .int (zI mfa) :: .ref 106 :: .ref 107 :: .ref 108 :: .int (zI mtn) :: .int (zI mtk) :: .int (zI mlv) :: .int (zI mbd) :: .int (zI (go_165 + 1)) :: .int (zI ge_165) :: .int (zI 0) :: .ref 109 :: .int (zI tt_165) :: .int (zI t0_18j) :: .ref 110 :: .ref 111 :: .ref 112 :: .ref 113 :: .ref 114 :: .ref 115 :: .ref 116 :: .ref 117 :: .int (zI hm) :: .int (zI pm) :: .int (zI hb) :: .int (zI sb) :: .ref 118 :: .ref 119 :: .ref 120 :: .ref 121 :: .ref 122 :: .ref 123 :: .ref 124 :: .ref 125 :: .ref 126 :: .ref 127 :: .ref 128 :: .ref 129 :: .int (zI mfu) :: .ref 130 :: .ref 131 :: .ref 132 :: .ref 133 :: .ref 134 :: .int (zI mdm) :: .int (zI mla) :: []))), (98, .inr (12, (.int (zI ms) :: .int (zI mv) :: .ref 99 :: .ref 100 :: .ref 101 :: .ref 102 :: .ref 103 :: .ref 104 :: .ref 105 :: .int (zI mt) :: .int (zI mfa) :: .ref 106 :: .ref 107 :: .ref 108 :: .int (zI mtn) :: .int (zI mtk) :: .int (zI mlv) :: .int (zI mbd) :: .int (zI go_165) :: .int (zI ge_165) :: .int (zI 0) :: .ref 109 :: .int (zI tt_165) :: .int (zI t0_18j) :: .ref 110 :: .ref 111 :: .ref 112 :: .ref 113 :: .ref 114 :: .ref 115 :: .ref 116 :: .ref 117 :: .int (zI hm) :: .int (zI pm) :: .int (zI hb) :: .int (zI sb) :: .ref 118 :: .ref 119 :: .ref 120 :: .ref 121 :: .ref 122 :: .ref 123 :: .ref 124 :: .ref 125 :: .ref 126 :: .ref 127 :: .ref 128 :: .ref 129 :: .int (zI mfu) :: .ref 130 :: .ref 131 :: .ref 132 :: .ref 133 :: .ref 134 :: .int (zI mdm) :: .int (zI mla) :: []))), (98, .inr (12, (.int (zI ms) :: .int (zI mv) :: .ref 99 :: .ref 100 :: .ref 101 :: .ref 102 :: .ref 103 :: .ref 104 :: .ref 105 :: .int (zI mt) :: .int (zI mfa) :: .ref 106 :: .ref 107 :: .ref 108 :: .int (zI mtn) :: .int (zI mtk) :: .int (zI mlv) :: .int (zI mbd) :: .int (zI go_165) :: .int (zI ge_165) :: .int (zI bk_165) :: .ref 109 :: .int (zI tt_165) :: .int (zI t0_18j) :: .ref 110 :: .ref 111 :: .ref 112 :: .ref 113 :: .ref 114 :: .ref 115 :: .ref 116 :: .ref 117 :: .int (zI hm) :: .int (zI pm) :: .int (zI hb) :: .int (zI sb) :: .ref 118 :: .ref 119 :: .ref 120 :: .ref 121 :: .ref 122 :: .ref 123 :: .ref 124 :: .ref 125 :: .ref 126 :: .ref 127 :: .ref 128 :: .ref 129 :: .int (zI mfu) :: .ref 130 :: .ref 131 :: .ref 132 :: .ref 133 :: .ref 134 :: .int (zI mdm) :: .int (zI mla) :: []))), (109, .inl (0, 8, .inl (zA f29)))]) rfl ?_
              refine J_mask (L2 := [(98, .inr (12, (.int (zI ms) :: .int (zI mv) :: .ref 99 :: .ref 100 :: .ref 101 :: .ref 102 :: .ref 103 :: .ref 104 :: .ref 105 :: .int (zI mt) :: .int (zI mfa) :: .ref 106 :: .ref 107 :: .ref 108 :: .int (zI mtn) :: .int (zI mtk) :: .int (zI mlv) :: .int (zI mbd) :: .int (zI z73) :: .int (zI ge_165) :: .int (zI z74) :: .ref 109 :: .int (zI tt_165) :: .int (zI t0_18j) :: .ref 110 :: .ref 111 :: .ref 112 :: .ref 113 :: .ref 114 :: .ref 115 :: .ref 116 :: .ref 117 :: .int (zI hm) :: .int (zI pm) :: .int (zI hb) :: .int (zI sb) :: .ref 118 :: .ref 119 :: .ref 120 :: .ref 121 :: .ref 122 :: .ref 123 :: .ref 124 :: .ref 125 :: .ref 126 :: .ref 127 :: .ref 128 :: .ref 129 :: .int (zI mfu) :: .ref 130 :: .ref 131 :: .ref 132 :: .ref 133 :: .ref 134 :: .int (zI mdm) :: .int (zI mla) :: []))), (109, .inl (0, 8, .inl (zA f29)))]) (ks := [98, 98, 98, 98, 109]) [true, false, false, false, true] rfl (by decide +kernel) rfl ?_
              refine J_goto (tgt := 216) dX12_asksOf_212 (by decide) ?_
              refine J_lstore dX12_asksOf_216 (Nat.le_of_ble_eq_true rfl) rfl ?_
              refine J_ls (ls2 := [some (.ref 98), some (.int (zI x)), some (.int (zI pl)), some (.int (zI pr)), some (.int (zI lets_165)), some (.int (zI bar_165)), some (.int (zI has_165)), some (.int (zI z39)), some (.long (zL z72)), none, none, none]) rfl ?_
              refine J_aload_n dX12_asksOf_218 rfl rfl ?_
              refine J_get (v := .int (zI z74)) dX12_asksOf_219 fl_X12_250 rfl rfl ?_
              refine J_istore dX12_asksOf_222 (Nat.le_of_ble_eq_true rfl) rfl ?_
              refine J_ls (ls2 := [some (.ref 98), some (.int (zI x)), some (.int (zI pl)), some (.int (zI pr)), some (.int (zI lets_165)), some (.int (zI bar_165)), some (.int (zI has_165)), some (.int (zI z39)), some (.long (zL z72)), none, some (.int (zI z74)), none]) rfl ?_
              refine J_aload_n dX12_asksOf_224 rfl rfl ?_
              refine Z_iconst (n := 0) dX12_asksOf_225 ?_
              refine K_put (fs2 := (.int (zI ms) :: .int (zI mv) :: .ref 99 :: .ref 100 :: .ref 101 :: .ref 102 :: .ref 103 :: .ref 104 :: .ref 105 :: .int (zI mt) :: .int (zI mfa) :: .ref 106 :: .ref 107 :: .ref 108 :: .int (zI mtn) :: .int (zI mtk) :: .int (zI mlv) :: .int (zI mbd) :: .int (zI z73) :: .int (zI ge_165) :: .int (zI 0) :: .ref 109 :: .int (zI tt_165) :: .int (zI t0_18j) :: .ref 110 :: .ref 111 :: .ref 112 :: .ref 113 :: .ref 114 :: .ref 115 :: .ref 116 :: .ref 117 :: .int (zI hm) :: .int (zI pm) :: .int (zI hb) :: .int (zI sb) :: .ref 118 :: .ref 119 :: .ref 120 :: .ref 121 :: .ref 122 :: .ref 123 :: .ref 124 :: .ref 125 :: .ref 126 :: .ref 127 :: .ref 128 :: .ref 129 :: .int (zI mfu) :: .ref 130 :: .ref 131 :: .ref 132 :: .ref 133 :: .ref 134 :: .int (zI mdm) :: .int (zI mla) :: [])) dX12_asksOf_226 fw_X12_250 rfl (Nat.le_of_ble_eq_true rfl) (jbz v_939070ca3f v_316afd7d0b) rfl ?_
              refine J_mask (L2 := [(98, .inr (12, (.int (zI ms) :: .int (zI mv) :: .ref 99 :: .ref 100 :: .ref 101 :: .ref 102 :: .ref 103 :: .ref 104 :: .ref 105 :: .int (zI mt) :: .int (zI mfa) :: .ref 106 :: .ref 107 :: .ref 108 :: .int (zI mtn) :: .int (zI mtk) :: .int (zI mlv) :: .int (zI mbd) :: .int (zI z73) :: .int (zI ge_165) :: .int (zI 0) :: .ref 109 :: .int (zI tt_165) :: .int (zI t0_18j) :: .ref 110 :: .ref 111 :: .ref 112 :: .ref 113 :: .ref 114 :: .ref 115 :: .ref 116 :: .ref 117 :: .int (zI hm) :: .int (zI pm) :: .int (zI hb) :: .int (zI sb) :: .ref 118 :: .ref 119 :: .ref 120 :: .ref 121 :: .ref 122 :: .ref 123 :: .ref 124 :: .ref 125 :: .ref 126 :: .ref 127 :: .ref 128 :: .ref 129 :: .int (zI mfu) :: .ref 130 :: .ref 131 :: .ref 132 :: .ref 133 :: .ref 134 :: .int (zI mdm) :: .int (zI mla) :: []))), (109, .inl (0, 8, .inl (zA f29)))]) (ks := [98, 98, 109]) [true, false, true] rfl (by decide +kernel) rfl ?_
              have jn262 : ∀ (f98_18_262j : Int) (f98_20_262j : Int) (t0_262j : Int), (f98_18_262j = mb) → (0 ≤ f98_20_262j) → (f98_20_262j ≤ 1) → (0 ≤ t0_262j) → (t0_262j ≤ 1) → (t0_262j = 1 ↔ hld fa fb w8) → J l G MX12_asksOf { frames := 41, cells := 0, slots := 0, locals := 964 } jE (jMQ G { frames := 41, cells := 0, slots := 0, locals := 964 } (fun rr h9 => ∃ go2 : Int, ∃ ge2 : Int, ∃ bk2 : Int, ∃ tt2 : Int, ∃ tl2 : Int, ∃ aq2 : Int → Int, rr = none ∧ h9 = (nh, hc fh [(98, .inr (12, (.int (zI ms) :: .int (zI mv) :: .ref 99 :: .ref 100 :: .ref 101 :: .ref 102 :: .ref 103 :: .ref 104 :: .ref 105 :: .int (zI mt) :: .int (zI mfa) :: .ref 106 :: .ref 107 :: .ref 108 :: .int (zI mtn) :: .int (zI mtk) :: .int (zI mlv) :: .int (zI mbd) :: .int (zI go2) :: .int (zI ge2) :: .int (zI bk2) :: .ref 109 :: .int (zI tt2) :: .int (zI tl2) :: .ref 110 :: .ref 111 :: .ref 112 :: .ref 113 :: .ref 114 :: .ref 115 :: .ref 116 :: .ref 117 :: .int (zI hm) :: .int (zI pm) :: .int (zI hb) :: .int (zI sb) :: .ref 118 :: .ref 119 :: .ref 120 :: .ref 121 :: .ref 122 :: .ref 123 :: .ref 124 :: .ref 125 :: .ref 126 :: .ref 127 :: .ref 128 :: .ref 129 :: .int (zI mfu) :: .ref 130 :: .ref 131 :: .ref 132 :: .ref 133 :: .ref 134 :: .int (zI mdm) :: .int (zI mla) :: []))), (109, .inl (0, 8, .inl (zA aq2)))]) ∧ (1 ≤ tt2) ∧ (tt2 ≤ 99) ∧ (0 ≤ tl2) ∧ (tl2 ≤ 1) ∧ (0 ≤ bk2) ∧ (bk2 ≤ 1) ∧ (Rg aq2 8 (-2147483648) 2147483647) ∧ (VdX Rv (itB K (x).toNat) pm (K 6) pl pr tl2 tt2))) (nh, hc fh [(98, .inr (12, (.int (zI ms) :: .int (zI mv) :: .ref 99 :: .ref 100 :: .ref 101 :: .ref 102 :: .ref 103 :: .ref 104 :: .ref 105 :: .int (zI mt) :: .int (zI mfa) :: .ref 106 :: .ref 107 :: .ref 108 :: .int (zI mtn) :: .int (zI mtk) :: .int (zI mlv) :: .int (zI mbd) :: .int (zI f98_18_262j) :: .int (zI ge_165) :: .int (zI f98_20_262j) :: .ref 109 :: .int (zI tt_165) :: .int (zI t0_18j) :: .ref 110 :: .ref 111 :: .ref 112 :: .ref 113 :: .ref 114 :: .ref 115 :: .ref 116 :: .ref 117 :: .int (zI hm) :: .int (zI pm) :: .int (zI hb) :: .int (zI sb) :: .ref 118 :: .ref 119 :: .ref 120 :: .ref 121 :: .ref 122 :: .ref 123 :: .ref 124 :: .ref 125 :: .ref 126 :: .ref 127 :: .ref 128 :: .ref 129 :: .int (zI mfu) :: .ref 130 :: .ref 131 :: .ref 132 :: .ref 133 :: .ref 134 :: .int (zI mdm) :: .int (zI mla) :: []))), (109, .inl (0, 8, .inl (zA f29)))]) 0 0 262 [some (.ref 98), some (.int (zI x)), some (.int (zI pl)), some (.int (zI pr)), some (.int (zI lets_165)), some (.int (zI bar_165)), some (.int (zI has_165)), some (.int (zI z39)), some (.long (zL z72)), none, some (.int (zI z74)), none] [.int (zI t0_262j)] := by
                intro f98_18_262j f98_20_262j t0_262j j262_0 j262_1 j262_2 j262_3 j262_4 j262_5
                refine J_istore dX12_asksOf_262 (Nat.le_of_ble_eq_true rfl) rfl ?_
                refine J_ls (ls2 := [some (.ref 98), some (.int (zI x)), some (.int (zI pl)), some (.int (zI pr)), some (.int (zI lets_165)), some (.int (zI bar_165)), some (.int (zI has_165)), some (.int (zI z39)), some (.long (zL z72)), none, some (.int (zI z74)), some (.int (zI t0_262j))]) rfl ?_
                have jn280 : ∀ (t0_280j : Int), (0 ≤ t0_280j) → (t0_280j ≤ 1) → ((z39 = 2 → t0_280j = 1) ∧ (¬ z39 = 2 → t0_280j = has_165)) → J l G MX12_asksOf { frames := 41, cells := 0, slots := 0, locals := 964 } jE (jMQ G { frames := 41, cells := 0, slots := 0, locals := 964 } (fun rr h9 => ∃ go2 : Int, ∃ ge2 : Int, ∃ bk2 : Int, ∃ tt2 : Int, ∃ tl2 : Int, ∃ aq2 : Int → Int, rr = none ∧ h9 = (nh, hc fh [(98, .inr (12, (.int (zI ms) :: .int (zI mv) :: .ref 99 :: .ref 100 :: .ref 101 :: .ref 102 :: .ref 103 :: .ref 104 :: .ref 105 :: .int (zI mt) :: .int (zI mfa) :: .ref 106 :: .ref 107 :: .ref 108 :: .int (zI mtn) :: .int (zI mtk) :: .int (zI mlv) :: .int (zI mbd) :: .int (zI go2) :: .int (zI ge2) :: .int (zI bk2) :: .ref 109 :: .int (zI tt2) :: .int (zI tl2) :: .ref 110 :: .ref 111 :: .ref 112 :: .ref 113 :: .ref 114 :: .ref 115 :: .ref 116 :: .ref 117 :: .int (zI hm) :: .int (zI pm) :: .int (zI hb) :: .int (zI sb) :: .ref 118 :: .ref 119 :: .ref 120 :: .ref 121 :: .ref 122 :: .ref 123 :: .ref 124 :: .ref 125 :: .ref 126 :: .ref 127 :: .ref 128 :: .ref 129 :: .int (zI mfu) :: .ref 130 :: .ref 131 :: .ref 132 :: .ref 133 :: .ref 134 :: .int (zI mdm) :: .int (zI mla) :: []))), (109, .inl (0, 8, .inl (zA aq2)))]) ∧ (1 ≤ tt2) ∧ (tt2 ≤ 99) ∧ (0 ≤ tl2) ∧ (tl2 ≤ 1) ∧ (0 ≤ bk2) ∧ (bk2 ≤ 1) ∧ (Rg aq2 8 (-2147483648) 2147483647) ∧ (VdX Rv (itB K (x).toNat) pm (K 6) pl pr tl2 tt2))) (nh, hc fh [(98, .inr (12, (.int (zI ms) :: .int (zI mv) :: .ref 99 :: .ref 100 :: .ref 101 :: .ref 102 :: .ref 103 :: .ref 104 :: .ref 105 :: .int (zI mt) :: .int (zI mfa) :: .ref 106 :: .ref 107 :: .ref 108 :: .int (zI mtn) :: .int (zI mtk) :: .int (zI mlv) :: .int (zI mbd) :: .int (zI f98_18_262j) :: .int (zI ge_165) :: .int (zI f98_20_262j) :: .ref 109 :: .int (zI tt_165) :: .int (zI t0_18j) :: .ref 110 :: .ref 111 :: .ref 112 :: .ref 113 :: .ref 114 :: .ref 115 :: .ref 116 :: .ref 117 :: .int (zI hm) :: .int (zI pm) :: .int (zI hb) :: .int (zI sb) :: .ref 118 :: .ref 119 :: .ref 120 :: .ref 121 :: .ref 122 :: .ref 123 :: .ref 124 :: .ref 125 :: .ref 126 :: .ref 127 :: .ref 128 :: .ref 129 :: .int (zI mfu) :: .ref 130 :: .ref 131 :: .ref 132 :: .ref 133 :: .ref 134 :: .int (zI mdm) :: .int (zI mla) :: []))), (109, .inl (0, 8, .inl (zA f29)))]) 0 0 280 [some (.ref 98), some (.int (zI x)), some (.int (zI pl)), some (.int (zI pr)), some (.int (zI lets_165)), some (.int (zI bar_165)), some (.int (zI has_165)), some (.int (zI z39)), some (.long (zL z72)), none, some (.int (zI z74)), some (.int (zI t0_262j))] [.int (zI t0_280j)] := by
                  intro t0_280j j280_0 j280_1 j280_2
                  refine J_istore dX12_asksOf_280 (Nat.le_of_ble_eq_true rfl) rfl ?_
                  refine J_ls (ls2 := [some (.ref 98), some (.int (zI x)), some (.int (zI pl)), some (.int (zI pr)), some (.int (zI lets_165)), some (.int (zI bar_165)), some (.int (zI t0_280j)), some (.int (zI z39)), some (.long (zL z72)), none, some (.int (zI z74)), some (.int (zI t0_262j))]) rfl ?_
                  have jn303 : ∀ (t0_303j : Int), (0 ≤ t0_303j) → (t0_303j ≤ 1) → ((z39 = 2 → t0_262j = 1 → t0_303j = 1) ∧ (¬ z39 = 2 ∨ ¬ t0_262j = 1 → t0_303j = lets_165)) → J l G MX12_asksOf { frames := 41, cells := 0, slots := 0, locals := 964 } jE (jMQ G { frames := 41, cells := 0, slots := 0, locals := 964 } (fun rr h9 => ∃ go2 : Int, ∃ ge2 : Int, ∃ bk2 : Int, ∃ tt2 : Int, ∃ tl2 : Int, ∃ aq2 : Int → Int, rr = none ∧ h9 = (nh, hc fh [(98, .inr (12, (.int (zI ms) :: .int (zI mv) :: .ref 99 :: .ref 100 :: .ref 101 :: .ref 102 :: .ref 103 :: .ref 104 :: .ref 105 :: .int (zI mt) :: .int (zI mfa) :: .ref 106 :: .ref 107 :: .ref 108 :: .int (zI mtn) :: .int (zI mtk) :: .int (zI mlv) :: .int (zI mbd) :: .int (zI go2) :: .int (zI ge2) :: .int (zI bk2) :: .ref 109 :: .int (zI tt2) :: .int (zI tl2) :: .ref 110 :: .ref 111 :: .ref 112 :: .ref 113 :: .ref 114 :: .ref 115 :: .ref 116 :: .ref 117 :: .int (zI hm) :: .int (zI pm) :: .int (zI hb) :: .int (zI sb) :: .ref 118 :: .ref 119 :: .ref 120 :: .ref 121 :: .ref 122 :: .ref 123 :: .ref 124 :: .ref 125 :: .ref 126 :: .ref 127 :: .ref 128 :: .ref 129 :: .int (zI mfu) :: .ref 130 :: .ref 131 :: .ref 132 :: .ref 133 :: .ref 134 :: .int (zI mdm) :: .int (zI mla) :: []))), (109, .inl (0, 8, .inl (zA aq2)))]) ∧ (1 ≤ tt2) ∧ (tt2 ≤ 99) ∧ (0 ≤ tl2) ∧ (tl2 ≤ 1) ∧ (0 ≤ bk2) ∧ (bk2 ≤ 1) ∧ (Rg aq2 8 (-2147483648) 2147483647) ∧ (VdX Rv (itB K (x).toNat) pm (K 6) pl pr tl2 tt2))) (nh, hc fh [(98, .inr (12, (.int (zI ms) :: .int (zI mv) :: .ref 99 :: .ref 100 :: .ref 101 :: .ref 102 :: .ref 103 :: .ref 104 :: .ref 105 :: .int (zI mt) :: .int (zI mfa) :: .ref 106 :: .ref 107 :: .ref 108 :: .int (zI mtn) :: .int (zI mtk) :: .int (zI mlv) :: .int (zI mbd) :: .int (zI f98_18_262j) :: .int (zI ge_165) :: .int (zI f98_20_262j) :: .ref 109 :: .int (zI tt_165) :: .int (zI t0_18j) :: .ref 110 :: .ref 111 :: .ref 112 :: .ref 113 :: .ref 114 :: .ref 115 :: .ref 116 :: .ref 117 :: .int (zI hm) :: .int (zI pm) :: .int (zI hb) :: .int (zI sb) :: .ref 118 :: .ref 119 :: .ref 120 :: .ref 121 :: .ref 122 :: .ref 123 :: .ref 124 :: .ref 125 :: .ref 126 :: .ref 127 :: .ref 128 :: .ref 129 :: .int (zI mfu) :: .ref 130 :: .ref 131 :: .ref 132 :: .ref 133 :: .ref 134 :: .int (zI mdm) :: .int (zI mla) :: []))), (109, .inl (0, 8, .inl (zA f29)))]) 0 0 303 [some (.ref 98), some (.int (zI x)), some (.int (zI pl)), some (.int (zI pr)), some (.int (zI lets_165)), some (.int (zI bar_165)), some (.int (zI t0_280j)), some (.int (zI z39)), some (.long (zL z72)), none, some (.int (zI z74)), some (.int (zI t0_262j))] [.int (zI t0_303j)] := by
                    intro t0_303j j303_0 j303_1 j303_2
                    refine J_istore dX12_asksOf_303 (Nat.le_of_ble_eq_true rfl) rfl ?_
                    refine J_ls (ls2 := [some (.ref 98), some (.int (zI x)), some (.int (zI pl)), some (.int (zI pr)), some (.int (zI t0_303j)), some (.int (zI bar_165)), some (.int (zI t0_280j)), some (.int (zI z39)), some (.long (zL z72)), none, some (.int (zI z74)), some (.int (zI t0_262j))]) rfl ?_
                    have jn326 : ∀ (t0_326j : Int), (0 ≤ t0_326j) → (t0_326j ≤ 1) → ((z39 = 3 → t0_262j = 1 → t0_326j = 1) ∧ (¬ z39 = 3 ∨ ¬ t0_262j = 1 → t0_326j = bar_165)) → J l G MX12_asksOf { frames := 41, cells := 0, slots := 0, locals := 964 } jE (jMQ G { frames := 41, cells := 0, slots := 0, locals := 964 } (fun rr h9 => ∃ go2 : Int, ∃ ge2 : Int, ∃ bk2 : Int, ∃ tt2 : Int, ∃ tl2 : Int, ∃ aq2 : Int → Int, rr = none ∧ h9 = (nh, hc fh [(98, .inr (12, (.int (zI ms) :: .int (zI mv) :: .ref 99 :: .ref 100 :: .ref 101 :: .ref 102 :: .ref 103 :: .ref 104 :: .ref 105 :: .int (zI mt) :: .int (zI mfa) :: .ref 106 :: .ref 107 :: .ref 108 :: .int (zI mtn) :: .int (zI mtk) :: .int (zI mlv) :: .int (zI mbd) :: .int (zI go2) :: .int (zI ge2) :: .int (zI bk2) :: .ref 109 :: .int (zI tt2) :: .int (zI tl2) :: .ref 110 :: .ref 111 :: .ref 112 :: .ref 113 :: .ref 114 :: .ref 115 :: .ref 116 :: .ref 117 :: .int (zI hm) :: .int (zI pm) :: .int (zI hb) :: .int (zI sb) :: .ref 118 :: .ref 119 :: .ref 120 :: .ref 121 :: .ref 122 :: .ref 123 :: .ref 124 :: .ref 125 :: .ref 126 :: .ref 127 :: .ref 128 :: .ref 129 :: .int (zI mfu) :: .ref 130 :: .ref 131 :: .ref 132 :: .ref 133 :: .ref 134 :: .int (zI mdm) :: .int (zI mla) :: []))), (109, .inl (0, 8, .inl (zA aq2)))]) ∧ (1 ≤ tt2) ∧ (tt2 ≤ 99) ∧ (0 ≤ tl2) ∧ (tl2 ≤ 1) ∧ (0 ≤ bk2) ∧ (bk2 ≤ 1) ∧ (Rg aq2 8 (-2147483648) 2147483647) ∧ (VdX Rv (itB K (x).toNat) pm (K 6) pl pr tl2 tt2))) (nh, hc fh [(98, .inr (12, (.int (zI ms) :: .int (zI mv) :: .ref 99 :: .ref 100 :: .ref 101 :: .ref 102 :: .ref 103 :: .ref 104 :: .ref 105 :: .int (zI mt) :: .int (zI mfa) :: .ref 106 :: .ref 107 :: .ref 108 :: .int (zI mtn) :: .int (zI mtk) :: .int (zI mlv) :: .int (zI mbd) :: .int (zI f98_18_262j) :: .int (zI ge_165) :: .int (zI f98_20_262j) :: .ref 109 :: .int (zI tt_165) :: .int (zI t0_18j) :: .ref 110 :: .ref 111 :: .ref 112 :: .ref 113 :: .ref 114 :: .ref 115 :: .ref 116 :: .ref 117 :: .int (zI hm) :: .int (zI pm) :: .int (zI hb) :: .int (zI sb) :: .ref 118 :: .ref 119 :: .ref 120 :: .ref 121 :: .ref 122 :: .ref 123 :: .ref 124 :: .ref 125 :: .ref 126 :: .ref 127 :: .ref 128 :: .ref 129 :: .int (zI mfu) :: .ref 130 :: .ref 131 :: .ref 132 :: .ref 133 :: .ref 134 :: .int (zI mdm) :: .int (zI mla) :: []))), (109, .inl (0, 8, .inl (zA f29)))]) 0 0 326 [some (.ref 98), some (.int (zI x)), some (.int (zI pl)), some (.int (zI pr)), some (.int (zI t0_303j)), some (.int (zI bar_165)), some (.int (zI t0_280j)), some (.int (zI z39)), some (.long (zL z72)), none, some (.int (zI z74)), some (.int (zI t0_262j))] [.int (zI t0_326j)] := by
                      intro t0_326j j326_0 j326_1 j326_2
                      refine J_istore dX12_asksOf_326 (Nat.le_of_ble_eq_true rfl) rfl ?_
                      refine J_ls (ls2 := [some (.ref 98), some (.int (zI x)), some (.int (zI pl)), some (.int (zI pr)), some (.int (zI t0_303j)), some (.int (zI t0_326j)), some (.int (zI t0_280j)), some (.int (zI z39)), some (.long (zL z72)), none, some (.int (zI z74)), some (.int (zI t0_262j))]) rfl ?_
                      refine J_iload dX12_asksOf_328 rfl ?_
                      refine Z_iconst (n := 1) dX12_asksOf_330 ?_
                      refine Z_icmp_ne (tgt := 371) dX12_asksOf_331 (by decide) (v_1a3a51a3ac h42) v_4dcc24baa7 (fun h81 => absurd h81 (fun q => q (v_b757d97f93 h42))) (fun h81 => ?_)
                      refine J_iload dX12_asksOf_334 rfl ?_
                      refine Z_if_eq (tgt := 371) dX12_asksOf_336 (by decide) (v_5f10a759cd j262_3 j262_4) (fun h82 => ?_) (fun h82 => ?_)
                      · refine J_aload_n dX12_asksOf_371 rfl rfl ?_
                        refine J_dup dX12_asksOf_372 rfl ?_
                        refine J_get (v := .int (zI f98_18_262j)) dX12_asksOf_373 fl_X12_240 rfl rfl ?_
                        refine Z_iconst (n := 1) dX12_asksOf_376 ?_
                        refine Z_iadd (c := f98_18_262j + 1) dX12_asksOf_377 rfl ?_
                        refine K_put (fs2 := (.int (zI ms) :: .int (zI mv) :: .ref 99 :: .ref 100 :: .ref 101 :: .ref 102 :: .ref 103 :: .ref 104 :: .ref 105 :: .int (zI mt) :: .int (zI mfa) :: .ref 106 :: .ref 107 :: .ref 108 :: .int (zI mtn) :: .int (zI mtk) :: .int (zI mlv) :: .int (zI mbd) :: .int (zI (f98_18_262j + 1)) :: .int (zI ge_165) :: .int (zI f98_20_262j) :: .ref 109 :: .int (zI tt_165) :: .int (zI t0_18j) :: .ref 110 :: .ref 111 :: .ref 112 :: .ref 113 :: .ref 114 :: .ref 115 :: .ref 116 :: .ref 117 :: .int (zI hm) :: .int (zI pm) :: .int (zI hb) :: .int (zI sb) :: .ref 118 :: .ref 119 :: .ref 120 :: .ref 121 :: .ref 122 :: .ref 123 :: .ref 124 :: .ref 125 :: .ref 126 :: .ref 127 :: .ref 128 :: .ref 129 :: .int (zI mfu) :: .ref 130 :: .ref 131 :: .ref 132 :: .ref 133 :: .ref 134 :: .int (zI mdm) :: .int (zI mla) :: [])) dX12_asksOf_378 fw_X12_240 rfl (Nat.le_of_ble_eq_true rfl) (fun _ => ⟨rfl, rfl⟩) rfl ?_
                        refine J_goto (tgt := 165) dX12_asksOf_381 (by decide) ?_
                        refine J_mask (L2 := [(98, .inr (12, (.int (zI ms) :: .int (zI mv) :: .ref 99 :: .ref 100 :: .ref 101 :: .ref 102 :: .ref 103 :: .ref 104 :: .ref 105 :: .int (zI mt) :: .int (zI mfa) :: .ref 106 :: .ref 107 :: .ref 108 :: .int (zI mtn) :: .int (zI mtk) :: .int (zI mlv) :: .int (zI mbd) :: .int (zI (f98_18_262j + 1)) :: .int (zI ge_165) :: .int (zI f98_20_262j) :: .ref 109 :: .int (zI tt_165) :: .int (zI t0_18j) :: .ref 110 :: .ref 111 :: .ref 112 :: .ref 113 :: .ref 114 :: .ref 115 :: .ref 116 :: .ref 117 :: .int (zI hm) :: .int (zI pm) :: .int (zI hb) :: .int (zI sb) :: .ref 118 :: .ref 119 :: .ref 120 :: .ref 121 :: .ref 122 :: .ref 123 :: .ref 124 :: .ref 125 :: .ref 126 :: .ref 127 :: .ref 128 :: .ref 129 :: .int (zI mfu) :: .ref 130 :: .ref 131 :: .ref 132 :: .ref 133 :: .ref 134 :: .int (zI mdm) :: .int (zI mla) :: []))), (109, .inl (0, 8, .inl (zA f29)))]) (ks := [98, 98, 109]) [true, false, true] rfl (by decide +kernel) rfl ?_
                        refine J_drop (ls2 := [some (.ref 98), some (.int (zI x)), some (.int (zI pl)), some (.int (zI pr)), some (.int (zI t0_303j)), some (.int (zI t0_326j)), some (.int (zI t0_280j)), none, none, none, none, none]) [true, true, true, true, true, true, true, false, false, false, false, false] rfl ?_
                        exact ih165 t0_303j t0_326j t0_280j (f98_18_262j + 1) ge_165 f98_20_262j tt_165 (v_8f1473a571 i165_0 gc2 j262_0) (v_c71e976cc1 gc5 j262_0) i165_2 i165_3 (by have u : f98_18_262j + 1 = mb + 1 := (v_826844c169 j262_0); rw [u]; exact gc4 _ _ _ _ (clV_of (ClD.kc gc1 h40) j262_5 h80 j280_2 j303_2 j326_2 ⟨fun a b => by omega, fun _ => rfl⟩)) j262_1 j262_2 i165_7 i165_8 j303_0 j303_1 j326_0 j326_1 j280_0 j280_1 (meas_lt (v_0721e0afbd gc2 j262_0) (v_030ef49f57 h33) hm165)
                      · refine J_aload_n dX12_asksOf_339 rfl rfl ?_
                        refine J_lload dX12_asksOf_340 rfl ?_
                        refine J_lconst (v := zL 1) dX12_asksOf_342 (by decide +kernel) ?_
                        refine Y_lcmp dX12_asksOf_343 (v_ce139c3fca h78 h79) v_c87c4d349e (fun z83 z83a z83b z83c z83d => ?_)
                        refine Z_if_ge (tgt := 351) dX12_asksOf_344 (by decide) (v_51ccf7ebfa z83a z83b) (fun h84 => ?_) (fun h84 => ?_)
                        · have h85 : 1 ≤ z72 := by omega
                          refine J_lload dX12_asksOf_351 rfl ?_
                          refine J_ldc2 (v := zL 99) dX12_asksOf_353 (jt7 234 rfl rfl) ?_
                          refine Y_lcmp dX12_asksOf_356 (v_3b86973250 h79 h85) v_a436dc5554 (fun z86 z86a z86b z86c z86d => ?_)
                          refine Z_if_le (tgt := 365) dX12_asksOf_357 (by decide) (v_51ccf7ebfa z86a z86b) (fun h87 => ?_) (fun h87 => ?_)
                          · have h88 : z72 ≤ 99 := by omega
                            refine J_lload dX12_asksOf_365 rfl ?_
                            refine Y_l2i dX12_asksOf_367 (v_436b5826f5 h85 h88) ?_
                            refine K_put (fs2 := (.int (zI ms) :: .int (zI mv) :: .ref 99 :: .ref 100 :: .ref 101 :: .ref 102 :: .ref 103 :: .ref 104 :: .ref 105 :: .int (zI mt) :: .int (zI mfa) :: .ref 106 :: .ref 107 :: .ref 108 :: .int (zI mtn) :: .int (zI mtk) :: .int (zI mlv) :: .int (zI mbd) :: .int (zI f98_18_262j) :: .int (zI ge_165) :: .int (zI f98_20_262j) :: .ref 109 :: .int (zI z72) :: .int (zI t0_18j) :: .ref 110 :: .ref 111 :: .ref 112 :: .ref 113 :: .ref 114 :: .ref 115 :: .ref 116 :: .ref 117 :: .int (zI hm) :: .int (zI pm) :: .int (zI hb) :: .int (zI sb) :: .ref 118 :: .ref 119 :: .ref 120 :: .ref 121 :: .ref 122 :: .ref 123 :: .ref 124 :: .ref 125 :: .ref 126 :: .ref 127 :: .ref 128 :: .ref 129 :: .int (zI mfu) :: .ref 130 :: .ref 131 :: .ref 132 :: .ref 133 :: .ref 134 :: .int (zI mdm) :: .int (zI mla) :: [])) dX12_asksOf_368 fw_X12_284 rfl (Nat.le_of_ble_eq_true rfl) (fun _ => ⟨rfl, rfl⟩) rfl ?_
                            refine J_aload_n dX12_asksOf_371 rfl rfl ?_
                            refine J_dup dX12_asksOf_372 rfl ?_
                            refine J_get (v := .int (zI f98_18_262j)) dX12_asksOf_373 fl_X12_240 rfl rfl ?_
                            refine Z_iconst (n := 1) dX12_asksOf_376 ?_
                            refine Z_iadd (c := f98_18_262j + 1) dX12_asksOf_377 rfl ?_
                            refine K_put (fs2 := (.int (zI ms) :: .int (zI mv) :: .ref 99 :: .ref 100 :: .ref 101 :: .ref 102 :: .ref 103 :: .ref 104 :: .ref 105 :: .int (zI mt) :: .int (zI mfa) :: .ref 106 :: .ref 107 :: .ref 108 :: .int (zI mtn) :: .int (zI mtk) :: .int (zI mlv) :: .int (zI mbd) :: .int (zI (f98_18_262j + 1)) :: .int (zI ge_165) :: .int (zI f98_20_262j) :: .ref 109 :: .int (zI z72) :: .int (zI t0_18j) :: .ref 110 :: .ref 111 :: .ref 112 :: .ref 113 :: .ref 114 :: .ref 115 :: .ref 116 :: .ref 117 :: .int (zI hm) :: .int (zI pm) :: .int (zI hb) :: .int (zI sb) :: .ref 118 :: .ref 119 :: .ref 120 :: .ref 121 :: .ref 122 :: .ref 123 :: .ref 124 :: .ref 125 :: .ref 126 :: .ref 127 :: .ref 128 :: .ref 129 :: .int (zI mfu) :: .ref 130 :: .ref 131 :: .ref 132 :: .ref 133 :: .ref 134 :: .int (zI mdm) :: .int (zI mla) :: [])) dX12_asksOf_378 fw_X12_240 rfl (Nat.le_of_ble_eq_true rfl) (fun _ => ⟨rfl, rfl⟩) rfl ?_
                            refine J_goto (tgt := 165) dX12_asksOf_381 (by decide) ?_
                            refine J_mask (L2 := [(98, .inr (12, (.int (zI ms) :: .int (zI mv) :: .ref 99 :: .ref 100 :: .ref 101 :: .ref 102 :: .ref 103 :: .ref 104 :: .ref 105 :: .int (zI mt) :: .int (zI mfa) :: .ref 106 :: .ref 107 :: .ref 108 :: .int (zI mtn) :: .int (zI mtk) :: .int (zI mlv) :: .int (zI mbd) :: .int (zI (f98_18_262j + 1)) :: .int (zI ge_165) :: .int (zI f98_20_262j) :: .ref 109 :: .int (zI z72) :: .int (zI t0_18j) :: .ref 110 :: .ref 111 :: .ref 112 :: .ref 113 :: .ref 114 :: .ref 115 :: .ref 116 :: .ref 117 :: .int (zI hm) :: .int (zI pm) :: .int (zI hb) :: .int (zI sb) :: .ref 118 :: .ref 119 :: .ref 120 :: .ref 121 :: .ref 122 :: .ref 123 :: .ref 124 :: .ref 125 :: .ref 126 :: .ref 127 :: .ref 128 :: .ref 129 :: .int (zI mfu) :: .ref 130 :: .ref 131 :: .ref 132 :: .ref 133 :: .ref 134 :: .int (zI mdm) :: .int (zI mla) :: []))), (109, .inl (0, 8, .inl (zA f29)))]) (ks := [98, 98, 98, 109]) [true, false, false, true] rfl (by decide +kernel) rfl ?_
                            refine J_drop (ls2 := [some (.ref 98), some (.int (zI x)), some (.int (zI pl)), some (.int (zI pr)), some (.int (zI t0_303j)), some (.int (zI t0_326j)), some (.int (zI t0_280j)), none, none, none, none, none]) [true, true, true, true, true, true, true, false, false, false, false, false] rfl ?_
                            exact ih165 t0_303j t0_326j t0_280j (f98_18_262j + 1) ge_165 f98_20_262j z72 (v_8f1473a571 i165_0 gc2 j262_0) (v_c71e976cc1 gc5 j262_0) i165_2 i165_3 (by have u : f98_18_262j + 1 = mb + 1 := (v_826844c169 j262_0); rw [u]; exact gc4 _ _ _ _ (clV_of (ClD.kc gc1 h40) j262_5 h80 j280_2 j303_2 j326_2 ⟨fun _ _ => clmp_m (v_5dfb8272e3 h85) (v_ec44273dfa h88), fun q => by omega⟩)) j262_1 j262_2 h85 h88 j303_0 j303_1 j326_0 j326_1 j280_0 j280_1 (meas_lt (v_0721e0afbd gc2 j262_0) (v_030ef49f57 h33) hm165)
                          · have h89 : 99 < z72 := by omega
                            refine Z_bipush (n := 99) dX12_asksOf_360 (by decide +kernel) ?_
                            refine J_goto (tgt := 368) dX12_asksOf_362 (by decide) ?_
                            refine K_put (fs2 := (.int (zI ms) :: .int (zI mv) :: .ref 99 :: .ref 100 :: .ref 101 :: .ref 102 :: .ref 103 :: .ref 104 :: .ref 105 :: .int (zI mt) :: .int (zI mfa) :: .ref 106 :: .ref 107 :: .ref 108 :: .int (zI mtn) :: .int (zI mtk) :: .int (zI mlv) :: .int (zI mbd) :: .int (zI f98_18_262j) :: .int (zI ge_165) :: .int (zI f98_20_262j) :: .ref 109 :: .int (zI 99) :: .int (zI t0_18j) :: .ref 110 :: .ref 111 :: .ref 112 :: .ref 113 :: .ref 114 :: .ref 115 :: .ref 116 :: .ref 117 :: .int (zI hm) :: .int (zI pm) :: .int (zI hb) :: .int (zI sb) :: .ref 118 :: .ref 119 :: .ref 120 :: .ref 121 :: .ref 122 :: .ref 123 :: .ref 124 :: .ref 125 :: .ref 126 :: .ref 127 :: .ref 128 :: .ref 129 :: .int (zI mfu) :: .ref 130 :: .ref 131 :: .ref 132 :: .ref 133 :: .ref 134 :: .int (zI mdm) :: .int (zI mla) :: [])) dX12_asksOf_368 fw_X12_284 rfl (Nat.le_of_ble_eq_true rfl) (fun _ => ⟨rfl, rfl⟩) rfl ?_
                            refine J_aload_n dX12_asksOf_371 rfl rfl ?_
                            refine J_dup dX12_asksOf_372 rfl ?_
                            refine J_get (v := .int (zI f98_18_262j)) dX12_asksOf_373 fl_X12_240 rfl rfl ?_
                            refine Z_iconst (n := 1) dX12_asksOf_376 ?_
                            refine Z_iadd (c := f98_18_262j + 1) dX12_asksOf_377 rfl ?_
                            refine K_put (fs2 := (.int (zI ms) :: .int (zI mv) :: .ref 99 :: .ref 100 :: .ref 101 :: .ref 102 :: .ref 103 :: .ref 104 :: .ref 105 :: .int (zI mt) :: .int (zI mfa) :: .ref 106 :: .ref 107 :: .ref 108 :: .int (zI mtn) :: .int (zI mtk) :: .int (zI mlv) :: .int (zI mbd) :: .int (zI (f98_18_262j + 1)) :: .int (zI ge_165) :: .int (zI f98_20_262j) :: .ref 109 :: .int (zI 99) :: .int (zI t0_18j) :: .ref 110 :: .ref 111 :: .ref 112 :: .ref 113 :: .ref 114 :: .ref 115 :: .ref 116 :: .ref 117 :: .int (zI hm) :: .int (zI pm) :: .int (zI hb) :: .int (zI sb) :: .ref 118 :: .ref 119 :: .ref 120 :: .ref 121 :: .ref 122 :: .ref 123 :: .ref 124 :: .ref 125 :: .ref 126 :: .ref 127 :: .ref 128 :: .ref 129 :: .int (zI mfu) :: .ref 130 :: .ref 131 :: .ref 132 :: .ref 133 :: .ref 134 :: .int (zI mdm) :: .int (zI mla) :: [])) dX12_asksOf_378 fw_X12_240 rfl (Nat.le_of_ble_eq_true rfl) (fun _ => ⟨rfl, rfl⟩) rfl ?_
                            refine J_goto (tgt := 165) dX12_asksOf_381 (by decide) ?_
                            refine J_mask (L2 := [(98, .inr (12, (.int (zI ms) :: .int (zI mv) :: .ref 99 :: .ref 100 :: .ref 101 :: .ref 102 :: .ref 103 :: .ref 104 :: .ref 105 :: .int (zI mt) :: .int (zI mfa) :: .ref 106 :: .ref 107 :: .ref 108 :: .int (zI mtn) :: .int (zI mtk) :: .int (zI mlv) :: .int (zI mbd) :: .int (zI (f98_18_262j + 1)) :: .int (zI ge_165) :: .int (zI f98_20_262j) :: .ref 109 :: .int (zI 99) :: .int (zI t0_18j) :: .ref 110 :: .ref 111 :: .ref 112 :: .ref 113 :: .ref 114 :: .ref 115 :: .ref 116 :: .ref 117 :: .int (zI hm) :: .int (zI pm) :: .int (zI hb) :: .int (zI sb) :: .ref 118 :: .ref 119 :: .ref 120 :: .ref 121 :: .ref 122 :: .ref 123 :: .ref 124 :: .ref 125 :: .ref 126 :: .ref 127 :: .ref 128 :: .ref 129 :: .int (zI mfu) :: .ref 130 :: .ref 131 :: .ref 132 :: .ref 133 :: .ref 134 :: .int (zI mdm) :: .int (zI mla) :: []))), (109, .inl (0, 8, .inl (zA f29)))]) (ks := [98, 98, 98, 109]) [true, false, false, true] rfl (by decide +kernel) rfl ?_
                            refine J_drop (ls2 := [some (.ref 98), some (.int (zI x)), some (.int (zI pl)), some (.int (zI pr)), some (.int (zI t0_303j)), some (.int (zI t0_326j)), some (.int (zI t0_280j)), none, none, none, none, none]) [true, true, true, true, true, true, true, false, false, false, false, false] rfl ?_
                            exact ih165 t0_303j t0_326j t0_280j (f98_18_262j + 1) ge_165 f98_20_262j 99 (v_8f1473a571 i165_0 gc2 j262_0) (v_c71e976cc1 gc5 j262_0) i165_2 i165_3 (by have u : f98_18_262j + 1 = mb + 1 := (v_826844c169 j262_0); rw [u]; exact gc4 _ _ _ _ (clV_of (ClD.kc gc1 h40) j262_5 h80 j280_2 j303_2 j326_2 ⟨fun _ _ => clmp_99 (v_e8afa7c0f8 h89), fun q => by omega⟩)) j262_1 j262_2 v_561ce076da v_1933f8c33e j303_0 j303_1 j326_0 j326_1 j280_0 j280_1 (meas_lt (v_0721e0afbd gc2 j262_0) (v_030ef49f57 h33) hm165)
                        · have h90 : z72 < 1 := by omega
                          refine Z_iconst (n := 1) dX12_asksOf_347 ?_
                          refine J_goto (tgt := 368) dX12_asksOf_348 (by decide) ?_
                          refine K_put (fs2 := (.int (zI ms) :: .int (zI mv) :: .ref 99 :: .ref 100 :: .ref 101 :: .ref 102 :: .ref 103 :: .ref 104 :: .ref 105 :: .int (zI mt) :: .int (zI mfa) :: .ref 106 :: .ref 107 :: .ref 108 :: .int (zI mtn) :: .int (zI mtk) :: .int (zI mlv) :: .int (zI mbd) :: .int (zI f98_18_262j) :: .int (zI ge_165) :: .int (zI f98_20_262j) :: .ref 109 :: .int (zI 1) :: .int (zI t0_18j) :: .ref 110 :: .ref 111 :: .ref 112 :: .ref 113 :: .ref 114 :: .ref 115 :: .ref 116 :: .ref 117 :: .int (zI hm) :: .int (zI pm) :: .int (zI hb) :: .int (zI sb) :: .ref 118 :: .ref 119 :: .ref 120 :: .ref 121 :: .ref 122 :: .ref 123 :: .ref 124 :: .ref 125 :: .ref 126 :: .ref 127 :: .ref 128 :: .ref 129 :: .int (zI mfu) :: .ref 130 :: .ref 131 :: .ref 132 :: .ref 133 :: .ref 134 :: .int (zI mdm) :: .int (zI mla) :: [])) dX12_asksOf_368 fw_X12_284 rfl (Nat.le_of_ble_eq_true rfl) (fun _ => ⟨rfl, rfl⟩) rfl ?_
                          refine J_aload_n dX12_asksOf_371 rfl rfl ?_
                          refine J_dup dX12_asksOf_372 rfl ?_
                          refine J_get (v := .int (zI f98_18_262j)) dX12_asksOf_373 fl_X12_240 rfl rfl ?_
                          refine Z_iconst (n := 1) dX12_asksOf_376 ?_
                          refine Z_iadd (c := f98_18_262j + 1) dX12_asksOf_377 rfl ?_
                          refine K_put (fs2 := (.int (zI ms) :: .int (zI mv) :: .ref 99 :: .ref 100 :: .ref 101 :: .ref 102 :: .ref 103 :: .ref 104 :: .ref 105 :: .int (zI mt) :: .int (zI mfa) :: .ref 106 :: .ref 107 :: .ref 108 :: .int (zI mtn) :: .int (zI mtk) :: .int (zI mlv) :: .int (zI mbd) :: .int (zI (f98_18_262j + 1)) :: .int (zI ge_165) :: .int (zI f98_20_262j) :: .ref 109 :: .int (zI 1) :: .int (zI t0_18j) :: .ref 110 :: .ref 111 :: .ref 112 :: .ref 113 :: .ref 114 :: .ref 115 :: .ref 116 :: .ref 117 :: .int (zI hm) :: .int (zI pm) :: .int (zI hb) :: .int (zI sb) :: .ref 118 :: .ref 119 :: .ref 120 :: .ref 121 :: .ref 122 :: .ref 123 :: .ref 124 :: .ref 125 :: .ref 126 :: .ref 127 :: .ref 128 :: .ref 129 :: .int (zI mfu) :: .ref 130 :: .ref 131 :: .ref 132 :: .ref 133 :: .ref 134 :: .int (zI mdm) :: .int (zI mla) :: [])) dX12_asksOf_378 fw_X12_240 rfl (Nat.le_of_ble_eq_true rfl) (fun _ => ⟨rfl, rfl⟩) rfl ?_
                          refine J_goto (tgt := 165) dX12_asksOf_381 (by decide) ?_
                          refine J_mask (L2 := [(98, .inr (12, (.int (zI ms) :: .int (zI mv) :: .ref 99 :: .ref 100 :: .ref 101 :: .ref 102 :: .ref 103 :: .ref 104 :: .ref 105 :: .int (zI mt) :: .int (zI mfa) :: .ref 106 :: .ref 107 :: .ref 108 :: .int (zI mtn) :: .int (zI mtk) :: .int (zI mlv) :: .int (zI mbd) :: .int (zI (f98_18_262j + 1)) :: .int (zI ge_165) :: .int (zI f98_20_262j) :: .ref 109 :: .int (zI 1) :: .int (zI t0_18j) :: .ref 110 :: .ref 111 :: .ref 112 :: .ref 113 :: .ref 114 :: .ref 115 :: .ref 116 :: .ref 117 :: .int (zI hm) :: .int (zI pm) :: .int (zI hb) :: .int (zI sb) :: .ref 118 :: .ref 119 :: .ref 120 :: .ref 121 :: .ref 122 :: .ref 123 :: .ref 124 :: .ref 125 :: .ref 126 :: .ref 127 :: .ref 128 :: .ref 129 :: .int (zI mfu) :: .ref 130 :: .ref 131 :: .ref 132 :: .ref 133 :: .ref 134 :: .int (zI mdm) :: .int (zI mla) :: []))), (109, .inl (0, 8, .inl (zA f29)))]) (ks := [98, 98, 98, 109]) [true, false, false, true] rfl (by decide +kernel) rfl ?_
                          refine J_drop (ls2 := [some (.ref 98), some (.int (zI x)), some (.int (zI pl)), some (.int (zI pr)), some (.int (zI t0_303j)), some (.int (zI t0_326j)), some (.int (zI t0_280j)), none, none, none, none, none]) [true, true, true, true, true, true, true, false, false, false, false, false] rfl ?_
                          exact ih165 t0_303j t0_326j t0_280j (f98_18_262j + 1) ge_165 f98_20_262j 1 (v_8f1473a571 i165_0 gc2 j262_0) (v_c71e976cc1 gc5 j262_0) i165_2 i165_3 (by have u : f98_18_262j + 1 = mb + 1 := (v_826844c169 j262_0); rw [u]; exact gc4 _ _ _ _ (clV_of (ClD.kc gc1 h40) j262_5 h80 j280_2 j303_2 j326_2 ⟨fun _ _ => clmp_1 (v_663a05fb09 h90), fun q => by omega⟩)) j262_1 j262_2 v_bbcfac9b7d v_561ce076da j303_0 j303_1 j326_0 j326_1 j280_0 j280_1 (meas_lt (v_0721e0afbd gc2 j262_0) (v_030ef49f57 h33) hm165)
                    refine J_iload dX12_asksOf_305 rfl ?_
                    refine Z_if_ne (tgt := 321) dX12_asksOf_307 (by decide) (v_5f10a759cd i165_11 i165_12) (fun h91 => ?_) (fun h91 => ?_)
                    · refine Z_iconst (n := 1) dX12_asksOf_321 ?_
                      refine J_goto (tgt := 326) dX12_asksOf_322 (by decide) ?_
                      exact jn326 1 v_316afd7d0b v_bbcfac9b7d (by omega)
                    · refine J_iload dX12_asksOf_310 rfl ?_
                      refine Z_iconst (n := 3) dX12_asksOf_312 ?_
                      refine Z_icmp_ne (tgt := 325) dX12_asksOf_313 (by decide) (v_1a3a51a3ac h42) v_1cc5223c3a (fun h92 => ?_) (fun h92 => absurd h92 (v_1ffc68eaa0 h42))
                      refine Z_iconst (n := 0) dX12_asksOf_325 ?_
                      exact jn326 0 v_939070ca3f v_316afd7d0b (by omega)
                  refine J_iload dX12_asksOf_282 rfl ?_
                  refine Z_if_ne (tgt := 298) dX12_asksOf_284 (by decide) (v_5f10a759cd i165_9 i165_10) (fun h93 => ?_) (fun h93 => ?_)
                  · refine Z_iconst (n := 1) dX12_asksOf_298 ?_
                    refine J_goto (tgt := 303) dX12_asksOf_299 (by decide) ?_
                    exact jn303 1 v_316afd7d0b v_bbcfac9b7d (by omega)
                  · refine J_iload dX12_asksOf_287 rfl ?_
                    refine Z_iconst (n := 2) dX12_asksOf_289 ?_
                    refine Z_icmp_ne (tgt := 302) dX12_asksOf_290 (by decide) (v_1a3a51a3ac h42) v_9ea63c5f56 (fun h94 => ?_) (fun h94 => absurd h94 (v_2eb8e35f95 h42))
                    refine Z_iconst (n := 0) dX12_asksOf_302 ?_
                    exact jn303 0 v_939070ca3f v_316afd7d0b (by omega)
                refine J_iload dX12_asksOf_264 rfl ?_
                refine Z_if_ne (tgt := 275) dX12_asksOf_266 (by decide) (v_5f10a759cd i165_13 i165_14) (fun h95 => ?_) (fun h95 => ?_)
                · refine Z_iconst (n := 1) dX12_asksOf_275 ?_
                  refine J_goto (tgt := 280) dX12_asksOf_276 (by decide) ?_
                  exact jn280 1 v_316afd7d0b v_bbcfac9b7d (by omega)
                · refine J_iload dX12_asksOf_269 rfl ?_
                  refine Z_iconst (n := 2) dX12_asksOf_271 ?_
                  refine Z_icmp_ne (tgt := 279) dX12_asksOf_272 (by decide) (v_1a3a51a3ac h42) v_9ea63c5f56 (fun h96 => ?_) (fun h96 => absurd h96 (v_2eb8e35f95 h42))
                  refine Z_iconst (n := 0) dX12_asksOf_279 ?_
                  exact jn280 0 v_939070ca3f v_316afd7d0b (by omega)
              refine J_aload_n dX12_asksOf_229 rfl rfl ?_
              refine Z_iconst (n := 4) dX12_asksOf_230 ?_
              refine J_callV (st := []) dX12_asksOf_231 cv_X12_265 (k_passes0 4 K ms mv mt mfa mtn mtk mlv mbd z73 ge_165 0 tt_165 t0_18j hm pm hb sb mfu mdm mla v_ffb526fa28 (v_ec671fffcf i165_0 gsl h75) (v_82f4fb1d7a i165_2 gc5 gml h75) i165_3 i165_2 q12 rfl hk100) rfl rfl rfl (Nat.le_of_ble_eq_true rfl) ⟨(Nat.le_of_ble_eq_true rfl), (Nat.le_of_ble_eq_true rfl)⟩ ⟨(Nat.le_of_ble_eq_true rfl), (Nat.le_of_ble_eq_true rfl)⟩ (fun r h9 hp => ?_)
              rcases hp with ⟨z97, rfl, rfl, h98, h99⟩ | ⟨rfl, rfl, h100⟩
              · refine J_nf (nh2 := nh) (ck2 := 0) (sk2 := 0) (st2 := [.int (zI 1)]) rfl rfl rfl rfl ?_
                refine J_app (L3 := [(98, .inr (12, (.int (zI ms) :: .int (zI mv) :: .ref 99 :: .ref 100 :: .ref 101 :: .ref 102 :: .ref 103 :: .ref 104 :: .ref 105 :: .int (zI mt) :: .int (zI mfa) :: .ref 106 :: .ref 107 :: .ref 108 :: .int (zI mtn) :: .int (zI mtk) :: .int (zI mlv) :: .int (zI mbd) :: .int (zI z97) :: .int (zI ge_165) :: .int (zI 0) :: .ref 109 :: .int (zI tt_165) :: .int (zI t0_18j) :: .ref 110 :: .ref 111 :: .ref 112 :: .ref 113 :: .ref 114 :: .ref 115 :: .ref 116 :: .ref 117 :: .int (zI hm) :: .int (zI pm) :: .int (zI hb) :: .int (zI sb) :: .ref 118 :: .ref 119 :: .ref 120 :: .ref 121 :: .ref 122 :: .ref 123 :: .ref 124 :: .ref 125 :: .ref 126 :: .ref 127 :: .ref 128 :: .ref 129 :: .int (zI mfu) :: .ref 130 :: .ref 131 :: .ref 132 :: .ref 133 :: .ref 134 :: .int (zI mdm) :: .int (zI mla) :: []))), (98, .inr (12, (.int (zI ms) :: .int (zI mv) :: .ref 99 :: .ref 100 :: .ref 101 :: .ref 102 :: .ref 103 :: .ref 104 :: .ref 105 :: .int (zI mt) :: .int (zI mfa) :: .ref 106 :: .ref 107 :: .ref 108 :: .int (zI mtn) :: .int (zI mtk) :: .int (zI mlv) :: .int (zI mbd) :: .int (zI z73) :: .int (zI ge_165) :: .int (zI 0) :: .ref 109 :: .int (zI tt_165) :: .int (zI t0_18j) :: .ref 110 :: .ref 111 :: .ref 112 :: .ref 113 :: .ref 114 :: .ref 115 :: .ref 116 :: .ref 117 :: .int (zI hm) :: .int (zI pm) :: .int (zI hb) :: .int (zI sb) :: .ref 118 :: .ref 119 :: .ref 120 :: .ref 121 :: .ref 122 :: .ref 123 :: .ref 124 :: .ref 125 :: .ref 126 :: .ref 127 :: .ref 128 :: .ref 129 :: .int (zI mfu) :: .ref 130 :: .ref 131 :: .ref 132 :: .ref 133 :: .ref 134 :: .int (zI mdm) :: .int (zI mla) :: []))), (109, .inl (0, 8, .inl (zA f29)))]) rfl ?_
                refine J_mask (L2 := [(98, .inr (12, (.int (zI ms) :: .int (zI mv) :: .ref 99 :: .ref 100 :: .ref 101 :: .ref 102 :: .ref 103 :: .ref 104 :: .ref 105 :: .int (zI mt) :: .int (zI mfa) :: .ref 106 :: .ref 107 :: .ref 108 :: .int (zI mtn) :: .int (zI mtk) :: .int (zI mlv) :: .int (zI mbd) :: .int (zI z97) :: .int (zI ge_165) :: .int (zI 0) :: .ref 109 :: .int (zI tt_165) :: .int (zI t0_18j) :: .ref 110 :: .ref 111 :: .ref 112 :: .ref 113 :: .ref 114 :: .ref 115 :: .ref 116 :: .ref 117 :: .int (zI hm) :: .int (zI pm) :: .int (zI hb) :: .int (zI sb) :: .ref 118 :: .ref 119 :: .ref 120 :: .ref 121 :: .ref 122 :: .ref 123 :: .ref 124 :: .ref 125 :: .ref 126 :: .ref 127 :: .ref 128 :: .ref 129 :: .int (zI mfu) :: .ref 130 :: .ref 131 :: .ref 132 :: .ref 133 :: .ref 134 :: .int (zI mdm) :: .int (zI mla) :: []))), (109, .inl (0, 8, .inl (zA f29)))]) (ks := [98, 98, 109]) [true, false, true] rfl (by decide +kernel) rfl ?_
                refine Z_if_eq (tgt := 245) dX12_asksOf_234 (by decide) v_4dcc24baa7 (fun h101 => absurd h101 v_3a47bfd896) (fun h101 => ?_)
                obtain ⟨gt1, gt2⟩ := IfD.yy gif (cd_at (v_84b7a242c7 h75) h99)
                have gtq : TeD (Cd K ge_165) (Vd K) 8 z97 mb fb := by have u : z97 = ma + 1 := (v_0a2f46dc45 h75 h98); rw [u]; exact gt1
                refine J_aload_n dX12_asksOf_237 rfl rfl ?_
                refine Z_iconst (n := 1) dX12_asksOf_238 ?_
                refine J_callV (st := []) dX12_asksOf_239 cv_X12_281 (k_testOf 8 1 mb fb w8 ms mv mt mfa mtn mtk mlv mbd z97 ge_165 0 tt_165 t0_18j hm pm hb sb mfu mdm mla K f29 gtq (v_663e2e171d h75 h98 gt2) gc5 (v_0fbd221e3c i165_0 gsl h75 h98) i165_2 v_316afd7d0b v_bbcfac9b7d v_939070ca3f v_316afd7d0b q12 h30 gw8 gw9 rfl hk100 rfl) rfl rfl rfl (Nat.le_of_ble_eq_true rfl) ⟨(Nat.le_of_ble_eq_true rfl), (Nat.le_of_ble_eq_true rfl)⟩ ⟨(Nat.le_of_ble_eq_true rfl), (Nat.le_of_ble_eq_true rfl)⟩ (fun r h9 hp => ?_)
                obtain ⟨z102, z103, z104, rfl, rfl, h105, h106, h107, h108, h109, h110⟩ := hp
                refine J_nf (nh2 := nh) (ck2 := 0) (sk2 := 0) (st2 := [.int (zI z102)]) rfl rfl rfl rfl ?_
                refine J_app (L3 := [(98, .inr (12, (.int (zI ms) :: .int (zI mv) :: .ref 99 :: .ref 100 :: .ref 101 :: .ref 102 :: .ref 103 :: .ref 104 :: .ref 105 :: .int (zI mt) :: .int (zI mfa) :: .ref 106 :: .ref 107 :: .ref 108 :: .int (zI mtn) :: .int (zI mtk) :: .int (zI mlv) :: .int (zI mbd) :: .int (zI z103) :: .int (zI ge_165) :: .int (zI z104) :: .ref 109 :: .int (zI tt_165) :: .int (zI t0_18j) :: .ref 110 :: .ref 111 :: .ref 112 :: .ref 113 :: .ref 114 :: .ref 115 :: .ref 116 :: .ref 117 :: .int (zI hm) :: .int (zI pm) :: .int (zI hb) :: .int (zI sb) :: .ref 118 :: .ref 119 :: .ref 120 :: .ref 121 :: .ref 122 :: .ref 123 :: .ref 124 :: .ref 125 :: .ref 126 :: .ref 127 :: .ref 128 :: .ref 129 :: .int (zI mfu) :: .ref 130 :: .ref 131 :: .ref 132 :: .ref 133 :: .ref 134 :: .int (zI mdm) :: .int (zI mla) :: []))), (98, .inr (12, (.int (zI ms) :: .int (zI mv) :: .ref 99 :: .ref 100 :: .ref 101 :: .ref 102 :: .ref 103 :: .ref 104 :: .ref 105 :: .int (zI mt) :: .int (zI mfa) :: .ref 106 :: .ref 107 :: .ref 108 :: .int (zI mtn) :: .int (zI mtk) :: .int (zI mlv) :: .int (zI mbd) :: .int (zI z97) :: .int (zI ge_165) :: .int (zI 0) :: .ref 109 :: .int (zI tt_165) :: .int (zI t0_18j) :: .ref 110 :: .ref 111 :: .ref 112 :: .ref 113 :: .ref 114 :: .ref 115 :: .ref 116 :: .ref 117 :: .int (zI hm) :: .int (zI pm) :: .int (zI hb) :: .int (zI sb) :: .ref 118 :: .ref 119 :: .ref 120 :: .ref 121 :: .ref 122 :: .ref 123 :: .ref 124 :: .ref 125 :: .ref 126 :: .ref 127 :: .ref 128 :: .ref 129 :: .int (zI mfu) :: .ref 130 :: .ref 131 :: .ref 132 :: .ref 133 :: .ref 134 :: .int (zI mdm) :: .int (zI mla) :: []))), (109, .inl (0, 8, .inl (zA f29)))]) rfl ?_
                refine J_mask (L2 := [(98, .inr (12, (.int (zI ms) :: .int (zI mv) :: .ref 99 :: .ref 100 :: .ref 101 :: .ref 102 :: .ref 103 :: .ref 104 :: .ref 105 :: .int (zI mt) :: .int (zI mfa) :: .ref 106 :: .ref 107 :: .ref 108 :: .int (zI mtn) :: .int (zI mtk) :: .int (zI mlv) :: .int (zI mbd) :: .int (zI z103) :: .int (zI ge_165) :: .int (zI z104) :: .ref 109 :: .int (zI tt_165) :: .int (zI t0_18j) :: .ref 110 :: .ref 111 :: .ref 112 :: .ref 113 :: .ref 114 :: .ref 115 :: .ref 116 :: .ref 117 :: .int (zI hm) :: .int (zI pm) :: .int (zI hb) :: .int (zI sb) :: .ref 118 :: .ref 119 :: .ref 120 :: .ref 121 :: .ref 122 :: .ref 123 :: .ref 124 :: .ref 125 :: .ref 126 :: .ref 127 :: .ref 128 :: .ref 129 :: .int (zI mfu) :: .ref 130 :: .ref 131 :: .ref 132 :: .ref 133 :: .ref 134 :: .int (zI mdm) :: .int (zI mla) :: []))), (109, .inl (0, 8, .inl (zA f29)))]) (ks := [98, 98, 109]) [true, false, true] rfl (by decide +kernel) rfl ?_
                refine Z_if_eq (tgt := 261) dX12_asksOf_242 (by decide) (v_5f10a759cd h108 h109) (fun h111 => ?_) (fun h111 => ?_)
                · refine Z_iconst (n := 0) dX12_asksOf_261 ?_
                  exact jn262 z103 z104 0 h105 h106 h107 v_939070ca3f v_316afd7d0b (by rw [hld_of h80 h110]; omega)
                · refine J_aload_n dX12_asksOf_245 rfl rfl ?_
                  refine J_get (v := .int (zI z104)) dX12_asksOf_246 fl_X12_250 rfl rfl ?_
                  refine Z_if_ne (tgt := 261) dX12_asksOf_249 (by decide) (v_5f10a759cd h106 h107) (fun h112 => ?_) (fun h112 => ?_)
                  · refine Z_iconst (n := 0) dX12_asksOf_261 ?_
                    exact jn262 z103 z104 0 h105 h106 h107 v_939070ca3f v_316afd7d0b (by rw [hld_of h80 h110]; omega)
                  · refine J_iload dX12_asksOf_252 rfl ?_
                    refine Z_if_ne (tgt := 261) dX12_asksOf_254 (by decide) (v_5f10a759cd h76 h77) (fun h113 => ?_) (fun h113 => ?_)
                    · refine Z_iconst (n := 0) dX12_asksOf_261 ?_
                      exact jn262 z103 z104 0 h105 h106 h107 v_939070ca3f v_316afd7d0b (by rw [hld_of h80 h110]; omega)
                    · refine Z_iconst (n := 1) dX12_asksOf_257 ?_
                      refine J_goto (tgt := 262) dX12_asksOf_258 (by decide) ?_
                      exact jn262 z103 z104 1 h105 h106 h107 v_316afd7d0b v_bbcfac9b7d (by rw [hld_of h80 h110]; omega)
              · refine J_nf (nh2 := nh) (ck2 := 0) (sk2 := 0) (st2 := [.int (zI 0)]) rfl rfl rfl rfl ?_
                refine Z_if_eq (tgt := 245) dX12_asksOf_234 (by decide) v_b17331891f (fun h114 => ?_) (fun h114 => absurd h114 (fun q => q v_2ca2bbca1f))
                have gnb : mb = ma := (IfD.n (w := w8) gif (fun w => h100 (cd_at (v_cd91a95e4e h75) w))).1
                refine J_aload_n dX12_asksOf_245 rfl rfl ?_
                refine J_get (v := .int (zI 0)) dX12_asksOf_246 fl_X12_250 rfl rfl ?_
                refine Z_if_ne (tgt := 261) dX12_asksOf_249 (by decide) v_b17331891f (fun h115 => absurd h115 (fun q => q v_2ca2bbca1f)) (fun h115 => ?_)
                refine J_iload dX12_asksOf_252 rfl ?_
                refine Z_if_ne (tgt := 261) dX12_asksOf_254 (by decide) (v_5f10a759cd h76 h77) (fun h116 => ?_) (fun h116 => ?_)
                · refine Z_iconst (n := 0) dX12_asksOf_261 ?_
                  exact jn262 z73 0 0 (v_4795b6a771 gml h75 gnb) v_939070ca3f v_316afd7d0b v_939070ca3f v_316afd7d0b (by rw [hld_of h80 (IfD.n (w := w8) gif (fun w => h100 (cd_at (v_cd91a95e4e h75) w))).2]; omega)
                · refine Z_iconst (n := 1) dX12_asksOf_257 ?_
                  refine J_goto (tgt := 262) dX12_asksOf_258 (by decide) ?_
                  exact jn262 z73 0 1 (v_4795b6a771 gml h75 gnb) v_939070ca3f v_316afd7d0b v_316afd7d0b v_bbcfac9b7d (by rw [hld_of h80 (IfD.n (w := w8) gif (fun w => h100 (cd_at (v_cd91a95e4e h75) w))).2]; omega)
      exact lp165 _ 0 0 0 (400 * z1) (400 * z1 + z31) mbk 1 (v_b853ef0c53 q7 ez1 h3) (v_fd61b4f9d2 gsz.1) (v_c1ae360aff q8 q10 ez1 gsz.2.1) (v_2911570e54 q7 ez1 h3 gsz.1) (NxI.of glw) q5 q6 v_bbcfac9b7d v_561ce076da v_939070ca3f v_316afd7d0b v_939070ca3f v_316afd7d0b v_939070ca3f v_316afd7d0b (Nat.lt_succ_self _)
    · refine J_mask (L2 := [(98, .inr (12, (.int (zI ms) :: .int (zI mv) :: .ref 99 :: .ref 100 :: .ref 101 :: .ref 102 :: .ref 103 :: .ref 104 :: .ref 105 :: .int (zI mt) :: .int (zI mfa) :: .ref 106 :: .ref 107 :: .ref 108 :: .int (zI mtn) :: .int (zI mtk) :: .int (zI mlv) :: .int (zI mbd) :: .int (zI mgo) :: .int (zI mge) :: .int (zI mbk) :: .ref 109 :: .int (zI 1) :: .int (zI t0_18j) :: .ref 110 :: .ref 111 :: .ref 112 :: .ref 113 :: .ref 114 :: .ref 115 :: .ref 116 :: .ref 117 :: .int (zI hm) :: .int (zI pm) :: .int (zI hb) :: .int (zI sb) :: .ref 118 :: .ref 119 :: .ref 120 :: .ref 121 :: .ref 122 :: .ref 123 :: .ref 124 :: .ref 125 :: .ref 126 :: .ref 127 :: .ref 128 :: .ref 129 :: .int (zI mfu) :: .ref 130 :: .ref 131 :: .ref 132 :: .ref 133 :: .ref 134 :: .int (zI mdm) :: .int (zI mla) :: [])))]) (ks := [98, 98]) [true, false] rfl (by decide +kernel) rfl ?_
      refine J_touch (k := 109) (e := .inl (0, 8, .inl (zA aq))) hk109 ?_
      refine J_touch (k := 98) (e := .inr (12, (.int (zI ms) :: .int (zI mv) :: .ref 99 :: .ref 100 :: .ref 101 :: .ref 102 :: .ref 103 :: .ref 104 :: .ref 105 :: .int (zI mt) :: .int (zI mfa) :: .ref 106 :: .ref 107 :: .ref 108 :: .int (zI mtn) :: .int (zI mtk) :: .int (zI mlv) :: .int (zI mbd) :: .int (zI mgo) :: .int (zI mge) :: .int (zI mbk) :: .ref 109 :: .int (zI 1) :: .int (zI t0_18j) :: .ref 110 :: .ref 111 :: .ref 112 :: .ref 113 :: .ref 114 :: .ref 115 :: .ref 116 :: .ref 117 :: .int (zI hm) :: .int (zI pm) :: .int (zI hb) :: .int (zI sb) :: .ref 118 :: .ref 119 :: .ref 120 :: .ref 121 :: .ref 122 :: .ref 123 :: .ref 124 :: .ref 125 :: .ref 126 :: .ref 127 :: .ref 128 :: .ref 129 :: .int (zI mfu) :: .ref 130 :: .ref 131 :: .ref 132 :: .ref 133 :: .ref 134 :: .int (zI mdm) :: .int (zI mla) :: []))) rfl ?_
      refine J_mask (L2 := [(98, .inr (12, (.int (zI ms) :: .int (zI mv) :: .ref 99 :: .ref 100 :: .ref 101 :: .ref 102 :: .ref 103 :: .ref 104 :: .ref 105 :: .int (zI mt) :: .int (zI mfa) :: .ref 106 :: .ref 107 :: .ref 108 :: .int (zI mtn) :: .int (zI mtk) :: .int (zI mlv) :: .int (zI mbd) :: .int (zI mgo) :: .int (zI mge) :: .int (zI mbk) :: .ref 109 :: .int (zI 1) :: .int (zI t0_18j) :: .ref 110 :: .ref 111 :: .ref 112 :: .ref 113 :: .ref 114 :: .ref 115 :: .ref 116 :: .ref 117 :: .int (zI hm) :: .int (zI pm) :: .int (zI hb) :: .int (zI sb) :: .ref 118 :: .ref 119 :: .ref 120 :: .ref 121 :: .ref 122 :: .ref 123 :: .ref 124 :: .ref 125 :: .ref 126 :: .ref 127 :: .ref 128 :: .ref 129 :: .int (zI mfu) :: .ref 130 :: .ref 131 :: .ref 132 :: .ref 133 :: .ref 134 :: .int (zI mdm) :: .int (zI mla) :: []))), (109, .inl (0, 8, .inl (zA aq)))]) (ks := [98, 109, 98]) [true, true, false] rfl (by decide +kernel) rfl ?_
      exact J_vret dX12_asksOf_32 rfl (Nat.le_of_ble_eq_true rfl) (Nat.le_of_ble_eq_true rfl) ⟨mgo, mge, mbk, 1, t0_18j, aq, rfl, rfl, v_bbcfac9b7d, v_561ce076da, j18_0, j18_1, q5, q6, q13, (VdX.n (LwM.n q14 (ez1.trans (v_347a7c9478 h3))) (by have u := j18_2; omega) rfl)⟩
  refine J_iload_n dX12_asksOf_6 rfl rfl ?_
  refine J_iload_n dX12_asksOf_7 rfl rfl ?_
  refine Z_iconst (n := 1) dX12_asksOf_8 ?_
  refine Z_iadd (c := pl + 1) dX12_asksOf_9 rfl ?_
  refine Z_icmp_ne (tgt := 17) dX12_asksOf_10 (by decide) (v_fd9be779c7 q2 q3 q4 q25) (v_46df51d402 q2 q3 q4 q25) (fun h117 => ?_) (fun h117 => ?_)
  · refine Z_iconst (n := 0) dX12_asksOf_17 ?_
    exact jn18 0 v_939070ca3f v_316afd7d0b (by omega)
  · refine Z_iconst (n := 1) dX12_asksOf_13 ?_
    refine J_goto (tgt := 18) dX12_asksOf_14 (by decide) ?_
    exact jn18 1 v_316afd7d0b v_bbcfac9b7d (by omega)
