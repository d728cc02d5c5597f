abbrev MX12_addsStep : jM := (RX12, cX12_addsStep, 5, none, false)
theorem cv_X12_308 : jCV RX12 308 12 yX12_hasWall MX12_hasWall 2 := ⟨_, _, rfl, (jt7 171 rfl rfl), (jt7 170 rfl rfl), (jtp (q := (⟨"BeanStreetModel", "hasWall", "(II)Z"⟩, 56)) (List.mem_of_getElem? (i := 78) rfl)), (jt1 13 rfl rfl), ⟨by decide, by decide, by decide +kernel⟩, Or.inl (jt7 168 rfl rfl)⟩
theorem fl_X12_73 : jFL RX12 73 12 30 := ⟨_, _, _, rfl, iX12, by decide, Or.inl (jt6 104 rfl rfl)⟩
theorem fl_X12_70 : jFL RX12 70 12 29 := ⟨_, _, _, rfl, iX12, by decide, Or.inl (jt6 103 rfl rfl)⟩
abbrev MX12_looks : jM := (RX12, cX12_looks, 4, none, false)
theorem fl_X12_82 : jFL RX12 82 12 35 := ⟨_, _, _, rfl, iX12, by decide, Or.inl (jt6 109 rfl rfl)⟩
theorem fw_X12_82 : jFW RX12 82 12 35 (.int) false := ⟨_, _, _, tyX12, rfl, iX12, tyX12_ok, nmX12, by decide, rfl, rfl, (fun h => by cases h), Or.inl (jt6 109 rfl rfl)⟩
theorem cv_X12_319 : jCV RX12 319 12 yX12_orderCode MX12_orderCode 0 := ⟨_, _, rfl, (jt8 2 rfl rfl), (jt8 1 rfl rfl), (jtp (q := (⟨"BeanStreetModel", "orderCode", "()I"⟩, 56)) (List.mem_of_getElem? (i := 93) rfl)), (jt1 13 rfl rfl), ⟨by decide, by decide, by decide +kernel⟩, Or.inl (jt7 239 rfl rfl)⟩
theorem cv_X12_162 : jCV RX12 162 12 yX12_houseOf MX12_houseOf 1 := ⟨_, _, rfl, (jt7 57 rfl rfl), (jt7 56 rfl rfl), (jtp (q := (⟨"BeanStreetModel", "houseOf", "(I)I"⟩, 56)) (List.mem_of_getElem? (i := 61) rfl)), (jt1 13 rfl rfl), ⟨by decide, by decide, by decide +kernel⟩, Or.inl (jt7 54 rfl rfl)⟩
theorem cv_X12_322 : jCV RX12 322 12 yX12_addsStep MX12_addsStep 3 := ⟨_, _, rfl, (jt8 6 rfl rfl), (jt8 5 rfl rfl), (jtp (q := (⟨"BeanStreetModel", "addsStep", "(III)V"⟩, 56)) (List.mem_of_getElem? (i := 94) rfl)), (jt1 13 rfl rfl), ⟨by decide, by decide, by decide +kernel⟩, Or.inl (jt8 3 rfl rfl)⟩
theorem cv_X12_312 : jCV RX12 312 12 yX12_asksOf MX12_asksOf 3 := ⟨_, _, rfl, (jt7 191 rfl rfl), (jt7 190 rfl rfl), (jtp (q := (⟨"BeanStreetModel", "asksOf", "(III)V"⟩, 56)) (List.mem_of_getElem? (i := 81) rfl)), (jt1 13 rfl rfl), ⟨by decide, by decide, by decide +kernel⟩, Or.inl (jt7 188 rfl rfl)⟩
theorem cv_X12_316 : jCV RX12 316 12 yX12_takesOrder MX12_takesOrder 1 := ⟨_, _, rfl, (jt7 238 rfl rfl), (jt7 237 rfl rfl), (jtp (q := (⟨"BeanStreetModel", "takesOrder", "(I)V"⟩, 56)) (List.mem_of_getElem? (i := 92) rfl)), (jt1 13 rfl rfl), ⟨by decide, by decide, by decide +kernel⟩, Or.inl (jt7 235 rfl rfl)⟩
theorem fl_X12_284 : jFL RX12 284 12 22 := ⟨_, _, _, rfl, iX12, by decide, Or.inl (jt6 96 rfl rfl)⟩
theorem dX12_addsStep_0 : decode cX12_addsStep 0 = .ok (.iload_n 2, 1) := by decide +kernel
theorem dX12_addsStep_1 : decode cX12_addsStep 1 = .ok (.iload_n 1, 1) := by decide +kernel
theorem dX12_addsStep_2 : decode cX12_addsStep 2 = .ok (.if_icmp .eq 12, 3) := by decide +kernel
theorem dX12_addsStep_14 : decode cX12_addsStep 14 = .ok (.return_, 1) := by decide +kernel
theorem dX12_addsStep_5 : decode cX12_addsStep 5 = .ok (.aload_n 0, 1) := by decide +kernel
theorem dX12_addsStep_6 : decode cX12_addsStep 6 = .ok (.iload_n 1, 1) := by decide +kernel
theorem dX12_addsStep_7 : decode cX12_addsStep 7 = .ok (.iload_n 2, 1) := by decide +kernel
theorem dX12_addsStep_8 : decode cX12_addsStep 8 = .ok (.invokevirtual 308, 3) := by decide +kernel
theorem dX12_addsStep_11 : decode cX12_addsStep 11 = .ok (.ifCond .eq 4, 3) := by decide +kernel
theorem dX12_addsStep_15 : decode cX12_addsStep 15 = .ok (.aload_n 0, 1) := by decide +kernel
theorem dX12_addsStep_16 : decode cX12_addsStep 16 = .ok (.getfield 61, 3) := by decide +kernel
theorem dX12_addsStep_19 : decode cX12_addsStep 19 = .ok (.bipush 22, 2) := by decide +kernel
theorem dX12_addsStep_21 : decode cX12_addsStep 21 = .ok (.iload_n 1, 1) := by decide +kernel
theorem dX12_addsStep_22 : decode cX12_addsStep 22 = .ok (.imul, 1) := by decide +kernel
theorem dX12_addsStep_23 : decode cX12_addsStep 23 = .ok (.aload_n 0, 1) := by decide +kernel
theorem dX12_addsStep_24 : decode cX12_addsStep 24 = .ok (.getfield 67, 3) := by decide +kernel
theorem dX12_addsStep_27 : decode cX12_addsStep 27 = .ok (.iload_n 1, 1) := by decide +kernel
theorem dX12_addsStep_28 : decode cX12_addsStep 28 = .ok (.iaload, 1) := by decide +kernel
theorem dX12_addsStep_29 : decode cX12_addsStep 29 = .ok (.iadd, 1) := by decide +kernel
theorem dX12_addsStep_30 : decode cX12_addsStep 30 = .ok (.iload_n 2, 1) := by decide +kernel
theorem dX12_addsStep_31 : decode cX12_addsStep 31 = .ok (.iastore, 1) := by decide +kernel
theorem dX12_addsStep_32 : decode cX12_addsStep 32 = .ok (.aload_n 0, 1) := by decide +kernel
theorem dX12_addsStep_33 : decode cX12_addsStep 33 = .ok (.getfield 64, 3) := by decide +kernel
theorem dX12_addsStep_36 : decode cX12_addsStep 36 = .ok (.bipush 22, 2) := by decide +kernel
theorem dX12_addsStep_38 : decode cX12_addsStep 38 = .ok (.iload_n 1, 1) := by decide +kernel
theorem dX12_addsStep_39 : decode cX12_addsStep 39 = .ok (.imul, 1) := by decide +kernel
theorem dX12_addsStep_40 : decode cX12_addsStep 40 = .ok (.aload_n 0, 1) := by decide +kernel
theorem dX12_addsStep_41 : decode cX12_addsStep 41 = .ok (.getfield 67, 3) := by decide +kernel
theorem dX12_addsStep_44 : decode cX12_addsStep 44 = .ok (.iload_n 1, 1) := by decide +kernel
theorem dX12_addsStep_45 : decode cX12_addsStep 45 = .ok (.iaload, 1) := by decide +kernel
theorem dX12_addsStep_46 : decode cX12_addsStep 46 = .ok (.iadd, 1) := by decide +kernel
theorem dX12_addsStep_47 : decode cX12_addsStep 47 = .ok (.iload_n 3, 1) := by decide +kernel
theorem dX12_addsStep_48 : decode cX12_addsStep 48 = .ok (.iastore, 1) := by decide +kernel
theorem dX12_addsStep_49 : decode cX12_addsStep 49 = .ok (.aload_n 0, 1) := by decide +kernel
theorem dX12_addsStep_50 : decode cX12_addsStep 50 = .ok (.getfield 67, 3) := by decide +kernel
theorem dX12_addsStep_53 : decode cX12_addsStep 53 = .ok (.iload_n 1, 1) := by decide +kernel
theorem dX12_addsStep_54 : decode cX12_addsStep 54 = .ok (.dup2, 1) := by decide +kernel
theorem dX12_addsStep_55 : decode cX12_addsStep 55 = .ok (.iaload, 1) := by decide +kernel
theorem dX12_addsStep_56 : decode cX12_addsStep 56 = .ok (.iconst 1, 1) := by decide +kernel
theorem dX12_addsStep_57 : decode cX12_addsStep 57 = .ok (.iadd, 1) := by decide +kernel
theorem dX12_addsStep_58 : decode cX12_addsStep 58 = .ok (.iastore, 1) := by decide +kernel
theorem dX12_addsStep_59 : decode cX12_addsStep 59 = .ok (.aload_n 0, 1) := by decide +kernel
theorem dX12_addsStep_60 : decode cX12_addsStep 60 = .ok (.getfield 73, 3) := by decide +kernel
theorem dX12_addsStep_63 : decode cX12_addsStep 63 = .ok (.iload_n 2, 1) := by decide +kernel
theorem dX12_addsStep_64 : decode cX12_addsStep 64 = .ok (.iaload, 1) := by decide +kernel
theorem dX12_addsStep_65 : decode cX12_addsStep 65 = .ok (.istore 4, 2) := by decide +kernel
theorem dX12_addsStep_67 : decode cX12_addsStep 67 = .ok (.iload 4, 2) := by decide +kernel
theorem dX12_addsStep_69 : decode cX12_addsStep 69 = .ok (.ifCond .le 22, 3) := by decide +kernel
theorem dX12_addsStep_91 : decode cX12_addsStep 91 = .ok (.aload_n 0, 1) := by decide +kernel
theorem dX12_addsStep_92 : decode cX12_addsStep 92 = .ok (.getfield 70, 3) := by decide +kernel
theorem dX12_addsStep_95 : decode cX12_addsStep 95 = .ok (.bipush 22, 2) := by decide +kernel
theorem dX12_addsStep_97 : decode cX12_addsStep 97 = .ok (.iload_n 2, 1) := by decide +kernel
theorem dX12_addsStep_98 : decode cX12_addsStep 98 = .ok (.imul, 1) := by decide +kernel
theorem dX12_addsStep_99 : decode cX12_addsStep 99 = .ok (.iload 4, 2) := by decide +kernel
theorem dX12_addsStep_101 : decode cX12_addsStep 101 = .ok (.iadd, 1) := by decide +kernel
theorem dX12_addsStep_102 : decode cX12_addsStep 102 = .ok (.iload_n 1, 1) := by decide +kernel
theorem dX12_addsStep_103 : decode cX12_addsStep 103 = .ok (.iastore, 1) := by decide +kernel
theorem dX12_addsStep_104 : decode cX12_addsStep 104 = .ok (.aload_n 0, 1) := by decide +kernel
theorem dX12_addsStep_105 : decode cX12_addsStep 105 = .ok (.getfield 73, 3) := by decide +kernel
theorem dX12_addsStep_108 : decode cX12_addsStep 108 = .ok (.iload_n 2, 1) := by decide +kernel
theorem dX12_addsStep_109 : decode cX12_addsStep 109 = .ok (.dup2, 1) := by decide +kernel
theorem dX12_addsStep_110 : decode cX12_addsStep 110 = .ok (.iaload, 1) := by decide +kernel
theorem dX12_addsStep_111 : decode cX12_addsStep 111 = .ok (.iconst 1, 1) := by decide +kernel
theorem dX12_addsStep_112 : decode cX12_addsStep 112 = .ok (.iadd, 1) := by decide +kernel
theorem dX12_addsStep_113 : decode cX12_addsStep 113 = .ok (.iastore, 1) := by decide +kernel
theorem dX12_addsStep_114 : decode cX12_addsStep 114 = .ok (.return_, 1) := by decide +kernel
theorem dX12_addsStep_72 : decode cX12_addsStep 72 = .ok (.aload_n 0, 1) := by decide +kernel
theorem dX12_addsStep_73 : decode cX12_addsStep 73 = .ok (.getfield 70, 3) := by decide +kernel
theorem dX12_addsStep_76 : decode cX12_addsStep 76 = .ok (.bipush 22, 2) := by decide +kernel
theorem dX12_addsStep_78 : decode cX12_addsStep 78 = .ok (.iload_n 2, 1) := by decide +kernel
theorem dX12_addsStep_79 : decode cX12_addsStep 79 = .ok (.imul, 1) := by decide +kernel
theorem dX12_addsStep_80 : decode cX12_addsStep 80 = .ok (.iload 4, 2) := by decide +kernel
theorem dX12_addsStep_82 : decode cX12_addsStep 82 = .ok (.iadd, 1) := by decide +kernel
theorem dX12_addsStep_83 : decode cX12_addsStep 83 = .ok (.iconst 1, 1) := by decide +kernel
theorem dX12_addsStep_84 : decode cX12_addsStep 84 = .ok (.isub, 1) := by decide +kernel
theorem dX12_addsStep_85 : decode cX12_addsStep 85 = .ok (.iaload, 1) := by decide +kernel
theorem dX12_addsStep_86 : decode cX12_addsStep 86 = .ok (.iload_n 1, 1) := by decide +kernel
theorem dX12_addsStep_87 : decode cX12_addsStep 87 = .ok (.if_icmp .ne 4, 3) := by decide +kernel
theorem dX12_addsStep_90 : decode cX12_addsStep 90 = .ok (.return_, 1) := by decide +kernel
theorem dX12_looks_0 : decode cX12_looks 0 = .ok (.aload_n 0, 1) := by decide +kernel
theorem dX12_looks_1 : decode cX12_looks 1 = .ok (.invokevirtual 159, 3) := by decide +kernel
theorem dX12_looks_4 : decode cX12_looks 4 = .ok (.aload_n 0, 1) := by decide +kernel
theorem dX12_looks_5 : decode cX12_looks 5 = .ok (.getfield 82, 3) := by decide +kernel
theorem dX12_looks_8 : decode cX12_looks 8 = .ok (.aload_n 0, 1) := by decide +kernel
theorem dX12_looks_9 : decode cX12_looks 9 = .ok (.getfield 11, 3) := by decide +kernel
theorem dX12_looks_12 : decode cX12_looks 12 = .ok (.if_icmp .ne 4, 3) := by decide +kernel
theorem dX12_looks_16 : decode cX12_looks 16 = .ok (.aload_n 0, 1) := by decide +kernel
theorem dX12_looks_17 : decode cX12_looks 17 = .ok (.aload_n 0, 1) := by decide +kernel
theorem dX12_looks_18 : decode cX12_looks 18 = .ok (.getfield 11, 3) := by decide +kernel
theorem dX12_looks_21 : decode cX12_looks 21 = .ok (.putfield 82, 3) := by decide +kernel
theorem dX12_looks_24 : decode cX12_looks 24 = .ok (.iconst 0, 1) := by decide +kernel
theorem dX12_looks_25 : decode cX12_looks 25 = .ok (.istore_n 1, 1) := by decide +kernel
theorem dX12_looks_26 : decode cX12_looks 26 = .ok (.iload_n 1, 1) := by decide +kernel
theorem dX12_looks_27 : decode cX12_looks 27 = .ok (.aload_n 0, 1) := by decide +kernel
theorem dX12_looks_28 : decode cX12_looks 28 = .ok (.getfield 298, 3) := by decide +kernel
theorem dX12_looks_31 : decode cX12_looks 31 = .ok (.if_icmp .ge 16, 3) := by decide +kernel
theorem dX12_looks_47 : decode cX12_looks 47 = .ok (.iconst 0, 1) := by decide +kernel
theorem dX12_looks_48 : decode cX12_looks 48 = .ok (.istore_n 1, 1) := by decide +kernel
theorem dX12_looks_49 : decode cX12_looks 49 = .ok (.iload_n 1, 1) := by decide +kernel
theorem dX12_looks_50 : decode cX12_looks 50 = .ok (.aload_n 0, 1) := by decide +kernel
theorem dX12_looks_51 : decode cX12_looks 51 = .ok (.getfield 298, 3) := by decide +kernel
theorem dX12_looks_54 : decode cX12_looks 54 = .ok (.if_icmp .ge 181, 3) := by decide +kernel
theorem dX12_looks_235 : decode cX12_looks 235 = .ok (.return_, 1) := by decide +kernel
theorem dX12_looks_57 : decode cX12_looks 57 = .ok (.aload_n 0, 1) := by decide +kernel
theorem dX12_looks_58 : decode cX12_looks 58 = .ok (.getfield 67, 3) := by decide +kernel
theorem dX12_looks_61 : decode cX12_looks 61 = .ok (.iload_n 1, 1) := by decide +kernel
theorem dX12_looks_62 : decode cX12_looks 62 = .ok (.iconst 0, 1) := by decide +kernel
theorem dX12_looks_63 : decode cX12_looks 63 = .ok (.iastore, 1) := by decide +kernel
theorem dX12_looks_64 : decode cX12_looks 64 = .ok (.iconst 0, 1) := by decide +kernel
theorem dX12_looks_65 : decode cX12_looks 65 = .ok (.istore_n 2, 1) := by decide +kernel
theorem dX12_looks_66 : decode cX12_looks 66 = .ok (.iload_n 2, 1) := by decide +kernel
theorem dX12_looks_67 : decode cX12_looks 67 = .ok (.aload_n 0, 1) := by decide +kernel
theorem dX12_looks_68 : decode cX12_looks 68 = .ok (.getfield 293, 3) := by decide +kernel
theorem dX12_looks_71 : decode cX12_looks 71 = .ok (.if_icmp .ge 90, 3) := by decide +kernel
theorem dX12_looks_161 : decode cX12_looks 161 = .ok (.aload_n 0, 1) := by decide +kernel
theorem dX12_looks_162 : decode cX12_looks 162 = .ok (.getfield 20, 3) := by decide +kernel
theorem dX12_looks_165 : decode cX12_looks 165 = .ok (.iconst 5, 1) := by decide +kernel
theorem dX12_looks_166 : decode cX12_looks 166 = .ok (.iaload, 1) := by decide +kernel
theorem dX12_looks_167 : decode cX12_looks 167 = .ok (.ifCond .eq 62, 3) := by decide +kernel
theorem dX12_looks_229 : decode cX12_looks 229 = .ok (.iinc 1 1, 3) := by decide +kernel
theorem dX12_looks_232 : decode cX12_looks 232 = .ok (.goto (-183), 3) := by decide +kernel
theorem dX12_looks_170 : decode cX12_looks 170 = .ok (.aload_n 0, 1) := by decide +kernel
theorem dX12_looks_171 : decode cX12_looks 171 = .ok (.getfield 293, 3) := by decide +kernel
theorem dX12_looks_174 : decode cX12_looks 174 = .ok (.ifCond .ne 6, 3) := by decide +kernel
theorem dX12_looks_180 : decode cX12_looks 180 = .ok (.iconst 0, 1) := by decide +kernel
theorem dX12_looks_181 : decode cX12_looks 181 = .ok (.istore_n 2, 1) := by decide +kernel
theorem dX12_looks_182 : decode cX12_looks 182 = .ok (.iload_n 2, 1) := by decide +kernel
theorem dX12_looks_183 : decode cX12_looks 183 = .ok (.aload_n 0, 1) := by decide +kernel
theorem dX12_looks_184 : decode cX12_looks 184 = .ok (.getfield 293, 3) := by decide +kernel
theorem dX12_looks_187 : decode cX12_looks 187 = .ok (.if_icmp .ge 28, 3) := by decide +kernel
theorem dX12_looks_215 : decode cX12_looks 215 = .ok (.aload_n 0, 1) := by decide +kernel
theorem dX12_looks_216 : decode cX12_looks 216 = .ok (.iload_n 1, 1) := by decide +kernel
theorem dX12_looks_217 : decode cX12_looks 217 = .ok (.aload_n 0, 1) := by decide +kernel
theorem dX12_looks_218 : decode cX12_looks 218 = .ok (.aload_n 0, 1) := by decide +kernel
theorem dX12_looks_219 : decode cX12_looks 219 = .ok (.invokevirtual 319, 3) := by decide +kernel
theorem dX12_looks_222 : decode cX12_looks 222 = .ok (.invokevirtual 162, 3) := by decide +kernel
theorem dX12_looks_225 : decode cX12_looks 225 = .ok (.iconst 1, 1) := by decide +kernel
theorem dX12_looks_226 : decode cX12_looks 226 = .ok (.invokevirtual 322, 3) := by decide +kernel
theorem dX12_looks_190 : decode cX12_looks 190 = .ok (.aload_n 0, 1) := by decide +kernel
theorem dX12_looks_191 : decode cX12_looks 191 = .ok (.getfield 76, 3) := by decide +kernel
theorem dX12_looks_194 : decode cX12_looks 194 = .ok (.iload_n 2, 1) := by decide +kernel
theorem dX12_looks_195 : decode cX12_looks 195 = .ok (.aload_n 0, 1) := by decide +kernel
theorem dX12_looks_196 : decode cX12_looks 196 = .ok (.iload_n 1, 1) := by decide +kernel
theorem dX12_looks_197 : decode cX12_looks 197 = .ok (.iload_n 2, 1) := by decide +kernel
theorem dX12_looks_198 : decode cX12_looks 198 = .ok (.iconst 1, 1) := by decide +kernel
theorem dX12_looks_199 : decode cX12_looks 199 = .ok (.iadd, 1) := by decide +kernel
theorem dX12_looks_200 : decode cX12_looks 200 = .ok (.aload_n 0, 1) := by decide +kernel
theorem dX12_looks_201 : decode cX12_looks 201 = .ok (.getfield 293, 3) := by decide +kernel
theorem dX12_looks_204 : decode cX12_looks 204 = .ok (.irem, 1) := by decide +kernel
theorem dX12_looks_205 : decode cX12_looks 205 = .ok (.invokevirtual 290, 3) := by decide +kernel
theorem dX12_looks_208 : decode cX12_looks 208 = .ok (.iastore, 1) := by decide +kernel
theorem dX12_looks_209 : decode cX12_looks 209 = .ok (.iinc 2 1, 3) := by decide +kernel
theorem dX12_looks_212 : decode cX12_looks 212 = .ok (.goto (-30), 3) := by decide +kernel
theorem dX12_looks_177 : decode cX12_looks 177 = .ok (.goto 52, 3) := by decide +kernel
theorem dX12_looks_74 : decode cX12_looks 74 = .ok (.iload_n 2, 1) := by decide +kernel
theorem dX12_looks_75 : decode cX12_looks 75 = .ok (.iconst 1, 1) := by decide +kernel
theorem dX12_looks_76 : decode cX12_looks 76 = .ok (.iadd, 1) := by decide +kernel
theorem dX12_looks_77 : decode cX12_looks 77 = .ok (.istore_n 3, 1) := by decide +kernel
theorem dX12_looks_78 : decode cX12_looks 78 = .ok (.iload_n 3, 1) := by decide +kernel
theorem dX12_looks_79 : decode cX12_looks 79 = .ok (.aload_n 0, 1) := by decide +kernel
theorem dX12_looks_80 : decode cX12_looks 80 = .ok (.getfield 293, 3) := by decide +kernel
theorem dX12_looks_83 : decode cX12_looks 83 = .ok (.if_icmp .ge 72, 3) := by decide +kernel
theorem dX12_looks_155 : decode cX12_looks 155 = .ok (.iinc 2 1, 3) := by decide +kernel
theorem dX12_looks_158 : decode cX12_looks 158 = .ok (.goto (-92), 3) := by decide +kernel
theorem dX12_looks_86 : decode cX12_looks 86 = .ok (.aload_n 0, 1) := by decide +kernel
theorem dX12_looks_87 : decode cX12_looks 87 = .ok (.iload_n 1, 1) := by decide +kernel
theorem dX12_looks_88 : decode cX12_looks 88 = .ok (.iload_n 2, 1) := by decide +kernel
theorem dX12_looks_89 : decode cX12_looks 89 = .ok (.invokevirtual 290, 3) := by decide +kernel
theorem dX12_looks_92 : decode cX12_looks 92 = .ok (.aload_n 0, 1) := by decide +kernel
theorem dX12_looks_93 : decode cX12_looks 93 = .ok (.iload_n 1, 1) := by decide +kernel
theorem dX12_looks_94 : decode cX12_looks 94 = .ok (.iload_n 3, 1) := by decide +kernel
theorem dX12_looks_95 : decode cX12_looks 95 = .ok (.invokevirtual 290, 3) := by decide +kernel
theorem dX12_looks_98 : decode cX12_looks 98 = .ok (.if_icmp .ne 6, 3) := by decide +kernel
theorem dX12_looks_104 : decode cX12_looks 104 = .ok (.aload_n 0, 1) := by decide +kernel
theorem dX12_looks_105 : decode cX12_looks 105 = .ok (.iload_n 1, 1) := by decide +kernel
theorem dX12_looks_106 : decode cX12_looks 106 = .ok (.iload_n 2, 1) := by decide +kernel
theorem dX12_looks_107 : decode cX12_looks 107 = .ok (.iload_n 3, 1) := by decide +kernel
theorem dX12_looks_108 : decode cX12_looks 108 = .ok (.invokevirtual 312, 3) := by decide +kernel
theorem dX12_looks_111 : decode cX12_looks 111 = .ok (.aload_n 0, 1) := by decide +kernel
theorem dX12_looks_112 : decode cX12_looks 112 = .ok (.getfield 287, 3) := by decide +kernel
theorem dX12_looks_115 : decode cX12_looks 115 = .ok (.ifCond .ne 6, 3) := by decide +kernel
theorem dX12_looks_121 : decode cX12_looks 121 = .ok (.aload_n 0, 1) := by decide +kernel
theorem dX12_looks_122 : decode cX12_looks 122 = .ok (.iload_n 1, 1) := by decide +kernel
theorem dX12_looks_123 : decode cX12_looks 123 = .ok (.invokevirtual 316, 3) := by decide +kernel
theorem dX12_looks_126 : decode cX12_looks 126 = .ok (.aload_n 0, 1) := by decide +kernel
theorem dX12_looks_127 : decode cX12_looks 127 = .ok (.iload_n 2, 1) := by decide +kernel
theorem dX12_looks_128 : decode cX12_looks 128 = .ok (.iload_n 3, 1) := by decide +kernel
theorem dX12_looks_129 : decode cX12_looks 129 = .ok (.invokevirtual 304, 3) := by decide +kernel
theorem dX12_looks_132 : decode cX12_looks 132 = .ok (.aload_n 0, 1) := by decide +kernel
theorem dX12_looks_133 : decode cX12_looks 133 = .ok (.iload_n 1, 1) := by decide +kernel
theorem dX12_looks_134 : decode cX12_looks 134 = .ok (.aload_n 0, 1) := by decide +kernel
theorem dX12_looks_135 : decode cX12_looks 135 = .ok (.aload_n 0, 1) := by decide +kernel
theorem dX12_looks_136 : decode cX12_looks 136 = .ok (.invokevirtual 319, 3) := by decide +kernel
theorem dX12_looks_139 : decode cX12_looks 139 = .ok (.invokevirtual 162, 3) := by decide +kernel
theorem dX12_looks_142 : decode cX12_looks 142 = .ok (.aload_n 0, 1) := by decide +kernel
theorem dX12_looks_143 : decode cX12_looks 143 = .ok (.getfield 284, 3) := by decide +kernel
theorem dX12_looks_146 : decode cX12_looks 146 = .ok (.invokevirtual 322, 3) := by decide +kernel
theorem dX12_looks_149 : decode cX12_looks 149 = .ok (.iinc 3 1, 3) := by decide +kernel
theorem dX12_looks_152 : decode cX12_looks 152 = .ok (.goto (-74), 3) := by decide +kernel
theorem dX12_looks_118 : decode cX12_looks 118 = .ok (.goto 31, 3) := by decide +kernel
theorem dX12_looks_101 : decode cX12_looks 101 = .ok (.goto 48, 3) := by decide +kernel
theorem dX12_looks_34 : decode cX12_looks 34 = .ok (.aload_n 0, 1) := by decide +kernel
theorem dX12_looks_35 : decode cX12_looks 35 = .ok (.getfield 73, 3) := by decide +kernel
theorem dX12_looks_38 : decode cX12_looks 38 = .ok (.iload_n 1, 1) := by decide +kernel
theorem dX12_looks_39 : decode cX12_looks 39 = .ok (.iconst 0, 1) := by decide +kernel
theorem dX12_looks_40 : decode cX12_looks 40 = .ok (.iastore, 1) := by decide +kernel
theorem dX12_looks_41 : decode cX12_looks 41 = .ok (.iinc 1 1, 3) := by decide +kernel
theorem dX12_looks_44 : decode cX12_looks 44 = .ok (.goto (-18), 3) := by decide +kernel
theorem dX12_looks_15 : decode cX12_looks 15 = .ok (.return_, 1) := by decide +kernel
theorem v_0868b9b4fe {a0 : Int} : a0 < a0 + 1 := by omega
theorem v_3d93cb4cb3 {a0 a1 a2 a3 : Int} (h0 : a0 < a1) (h1 : a2 ≤ 21) (h2 : a1 ≤ 1260) (h3 : a2 = a3) : 22 * a0 + a3 < 27720 := by omega
theorem v_efd43f1a1d {a0 a1 : Int} (h0 : a0 ≤ 21) (h1 : a0 = a1) : a1 ≤ 21 := by omega
theorem v_fe93de6226 {a0 : Int} (h0 : a0 ≤ 0) : a0 ≤ 0 := by omega
theorem v_ffe26badc5 {a0 a1 a2 : Int} (h0 : a0 < a1) (h1 : a1 ≤ 1260) (h2 : a2 ≤ 0) : 22 * a0 + a2 < 27720 := by omega
theorem v_b99b1f4d31 {a0 : Int} : a0 + 1 ≤ a0 + 1 := by omega
theorem v_7d37885ee9 {a0 a1 : Int} (h0 : 0 ≤ a0) (h1 : ¬ a1 ≤ 0) : 0 ≤ 22 * a0 + a1 - 1 := by omega
theorem v_27cf3fadfa {a0 a1 a2 : Int} (h0 : a0 < a1) (h1 : a1 ≤ 1260) (h2 : a2 ≤ 22) : 22 * a0 + a2 - 1 < 27720 := by omega
theorem v_6af59d45c1 {a0 a1 : Int} : 22 * a0 + a1 - 1 = 22 * a0 + (a1 - 1) := by omega
theorem v_c8c616cf00 {a0 a1 a2 : Int} (h0 : a0 < a1) (h1 : a1 ≤ 1260) (h2 : 0 ≤ a2) (h3 : a2 < a0 + 1) : zr a2 := by omega
theorem v_2ca421256e {a0 a1 : Int} (h0 : a0 < a1 + 1) (h1 : ¬ a0 = a1) : ¬ a0 = a1 := by omega
theorem v_b18a1bd7b4 {a0 a1 : Int} (h0 : 0 ≤ a0) (h1 : ¬ a1 ≤ 0) : 0 ≤ 22 * a0 + a1 := by omega
theorem v_d80307f1d8 {a0 a1 a2 : Int} (h0 : a0 < a1) (h1 : a1 ≤ 1260) (h2 : a2 ≤ 21) : 22 * a0 + a2 < 27720 := by omega
theorem v_9f5614cb98 : (5 : Int) < 4870 := by omega
theorem v_30d6f5ec46 {a0 : Int} (h0 : 0 ≤ a0) (h1 : ¬ a0 = 0) : 1 ≤ a0 := by omega
theorem v_c7eebfa409 {a0 a1 : Int} (h0 : a0 ≤ a1) (h1 : a1 ≤ 21) : a0 ≤ 21 := by omega
theorem v_22414a4ebf {a0 a1 : Int} (h0 : a0 ≤ 7) (h1 : 0 ≤ a1) (h2 : ¬ a0 ≤ a1) : zr ((a1 + 1)) := by omega
theorem v_06937fa40d {a0 : Int} (h0 : 0 ≤ a0) (h1 : ¬ a0 = 0) : 0 < a0 := by omega
theorem v_26b4cfe68b {a0 a1 a2 : Int} (h0 : a0 ≤ 7) (h1 : 0 ≤ a1) (h2 : a1 < a2) (h3 : a2 ≤ a0) : zr a2 := by omega
theorem v_6ac4eebecf {a0 a1 a2 a3 : Int} (h0 : a0 ≤ a1 + (a2 - a3 - 1)) (h1 : a1 + (a2 - a3 - 1) ≤ 20) : a0 ≤ 21 := by omega
theorem v_6b24684dc2 {a0 a1 : Int} (h0 : a0 ≤ a1) (h1 : a0 = a1) : a0 = a1 := by omega
set_option maxHeartbeats 4000000 in
set_option maxRecDepth 100000 in
theorem k_addsStep {l : Launch} {G : jG} {nh : Nat} {fh : Nat → Option va_E} (h : Int) (t : Int) (v : Int) (K : Int → Int) (co : Int → Int) (cd : Int → Int) (ms : Int) (mv : Int) (mt : Int) (mfa : Int) (mtn : Int) (mtk : Int) (mlv : Int) (mbd : Int) (mgo : Int) (mge : Int) (mbk : Int) (mtt : Int) (mtl : Int) (hm : Int) (pm : Int) (hb : Int) (sb : Int) (mfu : Int) (mdm : Int) (mla : Int) (st : Int → Int) (tk : Int → Int) (sm : Int → Int) (cf : Int → Int) (cm : Int → Int) (q0 : 0 ≤ h) (q1 : h < hm) (q2 : 0 ≤ t) (q3 : t < hm) (q4 : 1 ≤ v) (q5 : v ≤ 99) (q6 : SrcC K t h) (q7 : LkI K st tk sm cf cm (h + 1) hm) (q8 : sm h ≤ 21) (q9 : 0 ≤ K 59) (q10 : K 59 ≤ 8) (q11 : Rg K 4870 (-2147483648) 2147483647) (q12 : okF K) (q13 : hm = Hi K) (q14 : HouT co cd K hm) (q15 : 1 ≤ hm) (q16 : hm ≤ 1260) (hk98 : fh 98 = some (.inr (12, (.int (zI ms) :: .int (zI mv) :: .ref 99 :: .ref 100 :: .ref 101 :: .ref 102 :: .ref 103 :: .ref 104 :: .ref 105 :: .int (zI mt) :: .int (zI mfa) :: .ref 106 :: .ref 107 :: .ref 108 :: .int (zI mtn) :: .int (zI mtk) :: .int (zI mlv) :: .int (zI mbd) :: .int (zI mgo) :: .int (zI mge) :: .int (zI mbk) :: .ref 109 :: .int (zI mtt) :: .int (zI mtl) :: .ref 110 :: .ref 111 :: .ref 112 :: .ref 113 :: .ref 114 :: .ref 115 :: .ref 116 :: .ref 117 :: .int (zI hm) :: .int (zI pm) :: .int (zI hb) :: .int (zI sb) :: .ref 118 :: .ref 119 :: .ref 120 :: .ref 121 :: .ref 122 :: .ref 123 :: .ref 124 :: .ref 125 :: .ref 126 :: .ref 127 :: .ref 128 :: .ref 129 :: .int (zI mfu) :: .ref 130 :: .ref 131 :: .ref 132 :: .ref 133 :: .ref 134 :: .int (zI mdm) :: .int (zI mla) :: [])))) (hk100 : fh 100 = some (.inl (0, 4870, .inl (zA K)))) (hk110 : fh 110 = some (.inl (0, 8820, .inl (zA co)))) (hk111 : fh 111 = some (.inl (0, 1260, .inl (zA cd)))) (hk112 : fh 112 = some (.inl (0, 27720, .inl (zA st)))) (hk113 : fh 113 = some (.inl (0, 27720, .inl (zA tk)))) (hk114 : fh 114 = some (.inl (0, 1260, .inl (zA sm)))) (hk115 : fh 115 = some (.inl (0, 27720, .inl (zA cf)))) (hk116 : fh 116 = some (.inl (0, 1260, .inl (zA cm)))) : JM l G yX12_addsStep MX12_addsStep { frames := 1, cells := 0, slots := 0, locals := 25 } [.ref 98, .int (zI h), .int (zI t), .int (zI v)] (nh, fh) (fun rr h9 => ∃ st2 : Int → Int, ∃ tk2 : Int → Int, ∃ sm2 : Int → Int, ∃ cf2 : Int → Int, ∃ cm2 : Int → Int, rr = none ∧ h9 = (nh, hc fh [(112, .inl (0, 27720, .inl (zA st2))), (113, .inl (0, 27720, .inl (zA tk2))), (114, .inl (0, 1260, .inl (zA sm2))), (115, .inl (0, 27720, .inl (zA cf2))), (116, .inl (0, 1260, .inl (zA cm2)))]) ∧ (LkI K st2 tk2 sm2 cf2 cm2 (h + 1) hm) ∧ (sm2 h ≤ sm h + 1)) := by
  refine JM.of (by decide) rfl (fun h => by cases h) (Nat.le_of_ble_eq_true rfl) ⟨1, rfl⟩ ?_
  refine J_hc0 (J_ls (ls2 := [some (.ref 98), some (.int (zI h)), some (.int (zI t)), some (.int (zI v)), none]) rfl ?_)
  refine J_iload_n dX12_addsStep_0 rfl rfl ?_
  refine J_iload_n dX12_addsStep_1 rfl rfl ?_
  refine Z_icmp_eq (tgt := 14) dX12_addsStep_2 (by decide) (v_23d004c61f q2 q3 q16) (v_23d004c61f q0 q1 q16) (fun h1 => ?_) (fun h1 => ?_)
  · refine J_touch (k := 116) (e := .inl (0, 1260, .inl (zA cm))) hk116 ?_
    refine J_touch (k := 115) (e := .inl (0, 27720, .inl (zA cf))) hk115 ?_
    refine J_touch (k := 114) (e := .inl (0, 1260, .inl (zA sm))) hk114 ?_
    refine J_touch (k := 113) (e := .inl (0, 27720, .inl (zA tk))) hk113 ?_
    refine J_touch (k := 112) (e := .inl (0, 27720, .inl (zA st))) hk112 ?_
    exact J_vret dX12_addsStep_14 rfl (Nat.le_of_ble_eq_true rfl) (Nat.le_of_ble_eq_true rfl) ⟨st, tk, sm, cf, cm, rfl, rfl, (q7), (by omega)⟩
  · refine J_aload_n dX12_addsStep_5 rfl rfl ?_
    refine J_iload_n dX12_addsStep_6 rfl rfl ?_
    refine J_iload_n dX12_addsStep_7 rfl rfl ?_
    refine J_callV (st := []) dX12_addsStep_8 cv_X12_308 (k_hasWall h t K ms mv mt mfa mtn mtk mlv mbd mgo mge mbk mtt mtl hm pm hb sb mfu mdm mla (v_23d004c61f q0 q1 q16) (v_23d004c61f q2 q3 q16) q9 q10 q11 hk98 hk100) hk98 rfl rfl (Nat.le_of_ble_eq_true rfl) ⟨(Nat.le_of_ble_eq_true rfl), (Nat.le_of_ble_eq_true rfl)⟩ ⟨(Nat.le_of_ble_eq_true rfl), (Nat.le_of_ble_eq_true rfl)⟩ (fun r h9 hp => ?_)
    rcases hp with ⟨rfl, rfl, h2⟩ | ⟨rfl, rfl, h3⟩
    · refine J_nf (nh2 := nh) (ck2 := 0) (sk2 := 0) (st2 := [.int (zI 1)]) rfl rfl rfl rfl ?_
      refine Z_if_eq (tgt := 15) dX12_addsStep_11 (by decide) v_4dcc24baa7 (fun h4 => absurd h4 v_3a47bfd896) (fun h4 => ?_)
      refine J_touch (k := 116) (e := .inl (0, 1260, .inl (zA cm))) hk116 ?_
      refine J_touch (k := 115) (e := .inl (0, 27720, .inl (zA cf))) hk115 ?_
      refine J_touch (k := 114) (e := .inl (0, 1260, .inl (zA sm))) hk114 ?_
      refine J_touch (k := 113) (e := .inl (0, 27720, .inl (zA tk))) hk113 ?_
      refine J_touch (k := 112) (e := .inl (0, 27720, .inl (zA st))) hk112 ?_
      exact J_vret dX12_addsStep_14 rfl (Nat.le_of_ble_eq_true rfl) (Nat.le_of_ble_eq_true rfl) ⟨st, tk, sm, cf, cm, rfl, rfl, (q7), (by omega)⟩
    · refine J_nf (nh2 := nh) (ck2 := 0) (sk2 := 0) (st2 := [.int (zI 0)]) rfl rfl rfl rfl ?_
      refine Z_if_eq (tgt := 15) dX12_addsStep_11 (by decide) v_b17331891f (fun h5 => ?_) (fun h5 => absurd h5 (fun q => q v_2ca2bbca1f))
      refine J_aload_n dX12_addsStep_15 rfl rfl ?_
      refine J_get (v := .ref 112) dX12_addsStep_16 fl_X12_61 hk98 rfl ?_
      refine Z_bipush (n := 22) dX12_addsStep_19 (by decide +kernel) ?_
      refine J_iload_n dX12_addsStep_21 rfl rfl ?_
      refine Z_imul (c := 22 * h) dX12_addsStep_22 rfl ?_
      refine J_aload_n dX12_addsStep_23 rfl rfl ?_
      refine J_get (v := .ref 114) dX12_addsStep_24 fl_X12_67 hk98 rfl ?_
      refine J_iload_n dX12_addsStep_27 rfl rfl ?_
      obtain ⟨z6, ez6⟩ : ∃ z : Int, sm h = z := ⟨_, rfl⟩
      have h7 := LkI.deg q7 (v_2b02420001 q0) v_0868b9b4fe ez6
      refine Y_iald (z := z6) 1260 dX12_addsStep_28 hk114 rfl (by decide) (v_2b02420001 q0) (v_6251b724b8 q1 q16) ez6 ?_
      refine Z_iadd (c := 22 * h + z6) dX12_addsStep_29 rfl ?_
      refine J_iload_n dX12_addsStep_30 rfl rfl ?_
      refine Y_iast (v := t) 27720 dX12_addsStep_31 hk112 rfl (by decide) (v_c3b7d2d1ca q0 h7.1) (v_3d93cb4cb3 q1 q8 q16 ez6) (fun f8 ef8 => ?_)
      refine J_aload_n dX12_addsStep_32 rfl rfl ?_
      refine J_get (v := .ref 113) dX12_addsStep_33 fl_X12_64 hk98 rfl ?_
      refine Z_bipush (n := 22) dX12_addsStep_36 (by decide +kernel) ?_
      refine J_iload_n dX12_addsStep_38 rfl rfl ?_
      refine Z_imul (c := 22 * h) dX12_addsStep_39 rfl ?_
      refine J_aload_n dX12_addsStep_40 rfl rfl ?_
      refine J_get (v := .ref 114) dX12_addsStep_41 fl_X12_67 hk98 rfl ?_
      refine J_iload_n dX12_addsStep_44 rfl rfl ?_
      refine Y_iald (z := z6) 1260 dX12_addsStep_45 hk114 rfl (by decide) (v_2b02420001 q0) (v_6251b724b8 q1 q16) ez6 ?_
      refine Z_iadd (c := 22 * h + z6) dX12_addsStep_46 rfl ?_
      refine J_iload_n dX12_addsStep_47 rfl rfl ?_
      refine Y_iast (v := v) 27720 dX12_addsStep_48 hk113 rfl (by decide) (v_c3b7d2d1ca q0 h7.1) (v_3d93cb4cb3 q1 q8 q16 ez6) (fun f9 ef9 => ?_)
      refine J_aload_n dX12_addsStep_49 rfl rfl ?_
      refine J_get (v := .ref 114) dX12_addsStep_50 fl_X12_67 hk98 rfl ?_
      refine J_iload_n dX12_addsStep_53 rfl rfl ?_
      refine J_dup2_11 dX12_addsStep_54 rfl rfl ?_
      refine Y_iald (z := z6) 1260 dX12_addsStep_55 hk114 rfl (by decide) (v_2b02420001 q0) (v_6251b724b8 q1 q16) ez6 ?_
      refine Z_iconst (n := 1) dX12_addsStep_56 ?_
      refine Z_iadd (c := z6 + 1) dX12_addsStep_57 rfl ?_
      refine Y_iast (v := z6 + 1) 1260 dX12_addsStep_58 hk114 rfl (by decide) (v_2b02420001 q0) (v_6251b724b8 q1 q16) (fun f10 ef10 => ?_)
      refine J_aload_n dX12_addsStep_59 rfl rfl ?_
      refine J_get (v := .ref 116) dX12_addsStep_60 fl_X12_73 hk98 rfl ?_
      refine J_iload_n dX12_addsStep_63 rfl rfl ?_
      obtain ⟨z11, ez11⟩ : ∃ z : Int, cm t = z := ⟨_, rfl⟩
      have h12 := LkI.come q7 (v_2b02420001 q2) (v_b9aca61388 q3) ez11
      refine Y_iald (z := z11) 1260 dX12_addsStep_64 hk116 rfl (by decide) (v_2b02420001 q2) (v_6251b724b8 q3 q16) ez11 ?_
      refine J_istore dX12_addsStep_65 (Nat.le_of_ble_eq_true rfl) rfl ?_
      refine J_ls (ls2 := [some (.ref 98), some (.int (zI h)), some (.int (zI t)), some (.int (zI v)), some (.int (zI z11))]) rfl ?_
      have gst := LkI.step (h := h) q7 (v_2b02420001 q0) rfl ez6 (v_efd43f1a1d q8 ez6) v_bbccdd60f5 v_bbccdd60f5 ef8 ef9 ef10 v_7157e5c4fa (v_2b02420001 q2) (v_b9aca61388 q3) (v_5dfb8272e3 q4) (v_ec44273dfa q5)
      refine J_iload dX12_addsStep_67 rfl ?_
      refine Z_if_le (tgt := 91) dX12_addsStep_69 (by decide) (v_ee6ec25f58 h12.1 h12.2) (fun h13 => ?_) (fun h13 => ?_)
      · have grm := LkI.room (h := h) gst.1 q14 q12 q13 q0 rfl (v_309e9c99a4 q1) q2 q3 ez11 q6 (fun w => absurd w (by have u := (v_fe93de6226 h13); omega))
        refine J_aload_n dX12_addsStep_91 rfl rfl ?_
        refine J_get (v := .ref 115) dX12_addsStep_92 fl_X12_70 hk98 rfl ?_
        refine Z_bipush (n := 22) dX12_addsStep_95 (by decide +kernel) ?_
        refine J_iload_n dX12_addsStep_97 rfl rfl ?_
        refine Z_imul (c := 22 * t) dX12_addsStep_98 rfl ?_
        refine J_iload dX12_addsStep_99 rfl ?_
        refine Z_iadd (c := 22 * t + z11) dX12_addsStep_101 rfl ?_
        refine J_iload_n dX12_addsStep_102 rfl rfl ?_
        refine Y_iast (v := h) 27720 dX12_addsStep_103 hk115 rfl (by decide) (v_c3b7d2d1ca q2 h12.1) (v_ffe26badc5 q3 q16 h13) (fun f14 ef14 => ?_)
        refine J_aload_n dX12_addsStep_104 rfl rfl ?_
        refine J_get (v := .ref 116) dX12_addsStep_105 fl_X12_73 hk98 rfl ?_
        refine J_iload_n dX12_addsStep_108 rfl rfl ?_
        refine J_dup2_11 dX12_addsStep_109 rfl rfl ?_
        refine Y_iald (z := z11) 1260 dX12_addsStep_110 hk116 rfl (by decide) (v_2b02420001 q2) (v_6251b724b8 q3 q16) ez11 ?_
        refine Z_iconst (n := 1) dX12_addsStep_111 ?_
        refine Z_iadd (c := z11 + 1) dX12_addsStep_112 rfl ?_
        refine Y_iast (v := z11 + 1) 1260 dX12_addsStep_113 hk116 rfl (by decide) (v_2b02420001 q2) (v_6251b724b8 q3 q16) (fun f15 ef15 => ?_)
        refine J_touch (k := 116) (e := .inl (0, 1260, .inl (zA f15))) rfl ?_
        refine J_touch (k := 115) (e := .inl (0, 27720, .inl (zA f14))) rfl ?_
        refine J_touch (k := 114) (e := .inl (0, 1260, .inl (zA f10))) rfl ?_
        refine J_touch (k := 113) (e := .inl (0, 27720, .inl (zA f9))) rfl ?_
        refine J_touch (k := 112) (e := .inl (0, 27720, .inl (zA f8))) rfl ?_
        refine J_mask (L2 := [(112, .inl (0, 27720, .inl (zA f8))), (113, .inl (0, 27720, .inl (zA f9))), (114, .inl (0, 1260, .inl (zA f10))), (115, .inl (0, 27720, .inl (zA f14))), (116, .inl (0, 1260, .inl (zA f15)))]) (ks := [112, 113, 114, 115, 116, 116, 115, 114, 113, 112]) [true, true, true, true, true, false, false, false, false, false] rfl (by decide +kernel) rfl ?_
        exact J_vret dX12_addsStep_114 rfl (Nat.le_of_ble_eq_true rfl) (Nat.le_of_ble_eq_true rfl) ⟨f8, f9, f10, f14, f15, rfl, rfl, (LkI.add (h := h) gst.1 q0 rfl q2 q3 ez11 q6 grm gst.2 v_bbccdd60f5 ef14 ef15 v_7157e5c4fa), (by rw [ef10, up_same, ez6]; exact v_b99b1f4d31)⟩
      · refine J_aload_n dX12_addsStep_72 rfl rfl ?_
        refine J_get (v := .ref 115) dX12_addsStep_73 fl_X12_70 hk98 rfl ?_
        refine Z_bipush (n := 22) dX12_addsStep_76 (by decide +kernel) ?_
        refine J_iload_n dX12_addsStep_78 rfl rfl ?_
        refine Z_imul (c := 22 * t) dX12_addsStep_79 rfl ?_
        refine J_iload dX12_addsStep_80 rfl ?_
        refine Z_iadd (c := 22 * t + z11) dX12_addsStep_82 rfl ?_
        refine Z_iconst (n := 1) dX12_addsStep_83 ?_
        refine Z_isub (c := 22 * t + z11 - 1) dX12_addsStep_84 rfl ?_
        obtain ⟨z16, ez16⟩ : ∃ z : Int, cf (22 * t + z11 - 1) = z := ⟨_, rfl⟩
        refine Y_iald (z := z16) 27720 dX12_addsStep_85 hk115 rfl (by decide) (v_7d37885ee9 q2 h13) (v_27cf3fadfa q3 q16 h12.2) ez16 ?_
        have g17 := LkI.src (k := z11 - 1) q7 q2 q3 ez11 (v_35349f94cd h13) v_fb4cbcff8a v_6af59d45c1 ez16
        refine J_iload_n dX12_addsStep_86 rfl rfl ?_
        refine Z_icmp_ne (tgt := 91) dX12_addsStep_87 (by decide) (v_c8c616cf00 q1 q16 g17.1 g17.2) (v_23d004c61f q0 q1 q16) (fun h18 => ?_) (fun h18 => ?_)
        · have grm := LkI.room (h := h) gst.1 q14 q12 q13 q0 rfl (v_309e9c99a4 q1) q2 q3 ez11 q6 (fun _ w => absurd (by rw [show (22 * t + (z11 - 1) : Int) = 22 * t + z11 - 1 by omega, ez16] at w; exact w) (v_2ca421256e g17.2 h18))
          refine J_aload_n dX12_addsStep_91 rfl rfl ?_
          refine J_get (v := .ref 115) dX12_addsStep_92 fl_X12_70 hk98 rfl ?_
          refine Z_bipush (n := 22) dX12_addsStep_95 (by decide +kernel) ?_
          refine J_iload_n dX12_addsStep_97 rfl rfl ?_
          refine Z_imul (c := 22 * t) dX12_addsStep_98 rfl ?_
          refine J_iload dX12_addsStep_99 rfl ?_
          refine Z_iadd (c := 22 * t + z11) dX12_addsStep_101 rfl ?_
          refine J_iload_n dX12_addsStep_102 rfl rfl ?_
          refine Y_iast (v := h) 27720 dX12_addsStep_103 hk115 rfl (by decide) (v_b18a1bd7b4 q2 h13) (v_d80307f1d8 q3 q16 grm.1) (fun f19 ef19 => ?_)
          refine J_aload_n dX12_addsStep_104 rfl rfl ?_
          refine J_get (v := .ref 116) dX12_addsStep_105 fl_X12_73 hk98 rfl ?_
          refine J_iload_n dX12_addsStep_108 rfl rfl ?_
          refine J_dup2_11 dX12_addsStep_109 rfl rfl ?_
          refine Y_iald (z := z11) 1260 dX12_addsStep_110 hk116 rfl (by decide) (v_2b02420001 q2) (v_6251b724b8 q3 q16) ez11 ?_
          refine Z_iconst (n := 1) dX12_addsStep_111 ?_
          refine Z_iadd (c := z11 + 1) dX12_addsStep_112 rfl ?_
          refine Y_iast (v := z11 + 1) 1260 dX12_addsStep_113 hk116 rfl (by decide) (v_2b02420001 q2) (v_6251b724b8 q3 q16) (fun f20 ef20 => ?_)
          refine J_touch (k := 116) (e := .inl (0, 1260, .inl (zA f20))) rfl ?_
          refine J_touch (k := 115) (e := .inl (0, 27720, .inl (zA f19))) rfl ?_
          refine J_touch (k := 114) (e := .inl (0, 1260, .inl (zA f10))) rfl ?_
          refine J_touch (k := 113) (e := .inl (0, 27720, .inl (zA f9))) rfl ?_
          refine J_touch (k := 112) (e := .inl (0, 27720, .inl (zA f8))) rfl ?_
          refine J_mask (L2 := [(112, .inl (0, 27720, .inl (zA f8))), (113, .inl (0, 27720, .inl (zA f9))), (114, .inl (0, 1260, .inl (zA f10))), (115, .inl (0, 27720, .inl (zA f19))), (116, .inl (0, 1260, .inl (zA f20)))]) (ks := [112, 113, 114, 115, 116, 116, 115, 114, 113, 112]) [true, true, true, true, true, false, false, false, false, false] rfl (by decide +kernel) rfl ?_
          exact J_vret dX12_addsStep_114 rfl (Nat.le_of_ble_eq_true rfl) (Nat.le_of_ble_eq_true rfl) ⟨f8, f9, f10, f19, f20, rfl, rfl, (LkI.add (h := h) gst.1 q0 rfl q2 q3 ez11 q6 grm gst.2 v_bbccdd60f5 ef19 ef20 v_7157e5c4fa), (by rw [ef10, up_same, ez6]; exact v_b99b1f4d31)⟩
        · refine J_touch (k := 116) (e := .inl (0, 1260, .inl (zA cm))) hk116 ?_
          refine J_touch (k := 115) (e := .inl (0, 27720, .inl (zA cf))) hk115 ?_
          refine J_touch (k := 114) (e := .inl (0, 1260, .inl (zA f10))) rfl ?_
          refine J_touch (k := 113) (e := .inl (0, 27720, .inl (zA f9))) rfl ?_
          refine J_touch (k := 112) (e := .inl (0, 27720, .inl (zA f8))) rfl ?_
          refine J_mask (L2 := [(112, .inl (0, 27720, .inl (zA f8))), (113, .inl (0, 27720, .inl (zA f9))), (114, .inl (0, 1260, .inl (zA f10))), (115, .inl (0, 27720, .inl (zA cf))), (116, .inl (0, 1260, .inl (zA cm)))]) (ks := [112, 113, 114, 115, 116, 114, 113, 112]) [true, true, true, true, true, false, false, false] rfl (by decide +kernel) rfl ?_
          exact J_vret dX12_addsStep_90 rfl (Nat.le_of_ble_eq_true rfl) (Nat.le_of_ble_eq_true rfl) ⟨f8, f9, f10, cf, cm, rfl, rfl, (gst.1), (by rw [ef10, up_same, ez6]; exact v_b99b1f4d31)⟩
set_option maxHeartbeats 4000000 in
set_option maxRecDepth 100000 in
theorem k_looks {l : Launch} {G : jG} {nh : Nat} {fh : Nat → Option va_E} (ms : Int) (mv : Int) (mt : Int) (mfa : Int) (mtn : Int) (mtk : Int) (mlv : Int) (mbd : Int) (mgo : Int) (mge : Int) (mbk : Int) (mtt : Int) (mtl : Int) (hm : Int) (pm : Int) (hb : Int) (sb : Int) (mfu : Int) (mdm : Int) (mla : Int) (K : Int → Int) (co : Int → Int) (cd : Int → Int) (of : Int → Int) (st : Int → Int) (tk : Int → Int) (sm : Int → Int) (cf : Int → Int) (cm : Int → Int) (aq : Int → Int) (q0 : KOK K) (q1 : Rg of 7 0 4) (q2 : zr hb) (q3 : zr mv) (q4 : hb = mv → HouT co cd K hm ∧ hm = Hi K ∧ pm = bsum K) (q5 : zr sb) (q6 : sb = mv → StM st tk sm (Hi K) ∧ CoM cf cm st sm (Hi K)) (q7 : hb ≤ mv) (q8 : sb ≤ mv) (q9 : 0 ≤ mbk) (q10 : mbk ≤ 1) (q11 : Rg aq 8 (-2147483648) 2147483647) (hk98 : fh 98 = some (.inr (12, (.int (zI ms) :: .int (zI mv) :: .ref 99 :: .ref 100 :: .ref 101 :: .ref 102 :: .ref 103 :: .ref 104 :: .ref 105 :: .int (zI mt) :: .int (zI mfa) :: .ref 106 :: .ref 107 :: .ref 108 :: .int (zI mtn) :: .int (zI mtk) :: .int (zI mlv) :: .int (zI mbd) :: .int (zI mgo) :: .int (zI mge) :: .int (zI mbk) :: .ref 109 :: .int (zI mtt) :: .int (zI mtl) :: .ref 110 :: .ref 111 :: .ref 112 :: .ref 113 :: .ref 114 :: .ref 115 :: .ref 116 :: .ref 117 :: .int (zI hm) :: .int (zI pm) :: .int (zI hb) :: .int (zI sb) :: .ref 118 :: .ref 119 :: .ref 120 :: .ref 121 :: .ref 122 :: .ref 123 :: .ref 124 :: .ref 125 :: .ref 126 :: .ref 127 :: .ref 128 :: .ref 129 :: .int (zI mfu) :: .ref 130 :: .ref 131 :: .ref 132 :: .ref 133 :: .ref 134 :: .int (zI mdm) :: .int (zI mla) :: [])))) (hk100 : fh 100 = some (.inl (0, 4870, .inl (zA K)))) (hk110 : fh 110 = some (.inl (0, 8820, .inl (zA co)))) (hk111 : fh 111 = some (.inl (0, 1260, .inl (zA cd)))) (hk117 : fh 117 = some (.inl (0, 7, .inl (zA of)))) (hk112 : fh 112 = some (.inl (0, 27720, .inl (zA st)))) (hk113 : fh 113 = some (.inl (0, 27720, .inl (zA tk)))) (hk114 : fh 114 = some (.inl (0, 1260, .inl (zA sm)))) (hk115 : fh 115 = some (.inl (0, 27720, .inl (zA cf)))) (hk116 : fh 116 = some (.inl (0, 1260, .inl (zA cm)))) (hk109 : fh 109 = some (.inl (0, 8, .inl (zA aq)))) : JM l G yX12_looks MX12_looks { frames := 42, cells := 0, slots := 0, locals := 995 } [.ref 98] (nh, fh) (fun rr h9 => ∃ hm2 : Int, ∃ pm2 : Int, ∃ hb2 : Int, ∃ co2 : Int → Int, ∃ cd2 : Int → Int, ∃ of2 : Int → Int, ∃ sb2 : Int, ∃ st2 : Int → Int, ∃ tk2 : Int → Int, ∃ sm2 : Int → Int, ∃ cf2 : Int → Int, ∃ cm2 : Int → Int, ∃ aq2 : Int → Int, ∃ go2 : Int, ∃ ge2 : Int, ∃ bk2 : Int, ∃ tt2 : Int, ∃ tl2 : Int, rr = none ∧ h9 = (nh, hc fh [(98, .inr (12, (.int (zI ms) :: .int (zI mv) :: .ref 99 :: .ref 100 :: .ref 101 :: .ref 102 :: .ref 103 :: .ref 104 :: .ref 105 :: .int (zI mt) :: .int (zI mfa) :: .ref 106 :: .ref 107 :: .ref 108 :: .int (zI mtn) :: .int (zI mtk) :: .int (zI mlv) :: .int (zI mbd) :: .int (zI go2) :: .int (zI ge2) :: .int (zI bk2) :: .ref 109 :: .int (zI tt2) :: .int (zI tl2) :: .ref 110 :: .ref 111 :: .ref 112 :: .ref 113 :: .ref 114 :: .ref 115 :: .ref 116 :: .ref 117 :: .int (zI hm2) :: .int (zI pm2) :: .int (zI hb2) :: .int (zI sb2) :: .ref 118 :: .ref 119 :: .ref 120 :: .ref 121 :: .ref 122 :: .ref 123 :: .ref 124 :: .ref 125 :: .ref 126 :: .ref 127 :: .ref 128 :: .ref 129 :: .int (zI mfu) :: .ref 130 :: .ref 131 :: .ref 132 :: .ref 133 :: .ref 134 :: .int (zI mdm) :: .int (zI mla) :: []))), (110, .inl (0, 8820, .inl (zA co2))), (111, .inl (0, 1260, .inl (zA cd2))), (117, .inl (0, 7, .inl (zA of2))), (112, .inl (0, 27720, .inl (zA st2))), (113, .inl (0, 27720, .inl (zA tk2))), (114, .inl (0, 1260, .inl (zA sm2))), (115, .inl (0, 27720, .inl (zA cf2))), (116, .inl (0, 1260, .inl (zA cm2))), (109, .inl (0, 8, .inl (zA aq2)))]) ∧ (hm2 = Hi K) ∧ (pm2 = bsum K) ∧ (HouT co2 cd2 K hm2) ∧ (Rg of2 7 0 4) ∧ (1 ≤ hm2) ∧ (hm2 ≤ 1260) ∧ (0 ≤ pm2) ∧ (pm2 ≤ 7) ∧ (hb2 = mv) ∧ (sb2 = mv) ∧ (StM st2 tk2 sm2 hm2) ∧ (CoM cf2 cm2 st2 sm2 hm2) ∧ (0 ≤ bk2) ∧ (bk2 ≤ 1) ∧ (Rg aq2 8 (-2147483648) 2147483647)) := by
  refine JM.of (by decide) rfl (fun h => by cases h) (Nat.le_of_ble_eq_true rfl) ⟨3, rfl⟩ ?_
  refine J_hc0 (J_ls (ls2 := [some (.ref 98), none, none, none]) rfl ?_)
  refine J_aload_n dX12_looks_0 rfl rfl ?_
  refine J_callV (st := []) dX12_looks_1 cv_X12_159 (k_laysHouses ms mv mt mfa mtn mtk mlv mbd mgo mge mbk mtt mtl hm pm hb sb mfu mdm mla K co cd of q0.1 q1 q2 q3 q4 hk98 hk100 hk110 hk111 hk117) hk98 rfl rfl (Nat.le_of_ble_eq_true rfl) ⟨(Nat.le_of_ble_eq_true rfl), (Nat.le_of_ble_eq_true rfl)⟩ ⟨(Nat.le_of_ble_eq_true rfl), (Nat.le_of_ble_eq_true rfl)⟩ (fun r h9 hp => ?_)
  obtain ⟨z1, z2, z3, f4, f5, f6, rfl, rfl, h7, h8, h9, h10, h11, h12, h13, h14, h15⟩ := hp
  refine J_nf (nh2 := nh) (ck2 := 0) (sk2 := 0) (st2 := []) rfl rfl rfl rfl ?_
  refine J_app (L3 := [(98, .inr (12, (.int (zI ms) :: .int (zI mv) :: .ref 99 :: .ref 100 :: .ref 101 :: .ref 102 :: .ref 103 :: .ref 104 :: .ref 105 :: .int (zI mt) :: .int (zI mfa) :: .ref 106 :: .ref 107 :: .ref 108 :: .int (zI mtn) :: .int (zI mtk) :: .int (zI mlv) :: .int (zI mbd) :: .int (zI mgo) :: .int (zI mge) :: .int (zI mbk) :: .ref 109 :: .int (zI mtt) :: .int (zI mtl) :: .ref 110 :: .ref 111 :: .ref 112 :: .ref 113 :: .ref 114 :: .ref 115 :: .ref 116 :: .ref 117 :: .int (zI z1) :: .int (zI z2) :: .int (zI z3) :: .int (zI sb) :: .ref 118 :: .ref 119 :: .ref 120 :: .ref 121 :: .ref 122 :: .ref 123 :: .ref 124 :: .ref 125 :: .ref 126 :: .ref 127 :: .ref 128 :: .ref 129 :: .int (zI mfu) :: .ref 130 :: .ref 131 :: .ref 132 :: .ref 133 :: .ref 134 :: .int (zI mdm) :: .int (zI mla) :: []))), (110, .inl (0, 8820, .inl (zA f4))), (111, .inl (0, 1260, .inl (zA f5))), (117, .inl (0, 7, .inl (zA f6)))]) rfl ?_
  refine J_aload_n dX12_looks_4 rfl rfl ?_
  refine J_get (v := .int (zI sb)) dX12_looks_5 fl_X12_82 rfl rfl ?_
  refine J_aload_n dX12_looks_8 rfl rfl ?_
  refine J_get (v := .int (zI mv)) dX12_looks_9 fl_X12_11 rfl rfl ?_
  refine Z_icmp_ne (tgt := 16) dX12_looks_12 (by decide) (v_b25fa51a85 q5) (v_b25fa51a85 q3) (fun h16 => ?_) (fun h16 => ?_)
  · refine J_aload_n dX12_looks_16 rfl rfl ?_
    refine J_aload_n dX12_looks_17 rfl rfl ?_
    refine J_get (v := .int (zI mv)) dX12_looks_18 fl_X12_11 rfl rfl ?_
    refine K_put (fs2 := (.int (zI ms) :: .int (zI mv) :: .ref 99 :: .ref 100 :: .ref 101 :: .ref 102 :: .ref 103 :: .ref 104 :: .ref 105 :: .int (zI mt) :: .int (zI mfa) :: .ref 106 :: .ref 107 :: .ref 108 :: .int (zI mtn) :: .int (zI mtk) :: .int (zI mlv) :: .int (zI mbd) :: .int (zI mgo) :: .int (zI mge) :: .int (zI mbk) :: .ref 109 :: .int (zI mtt) :: .int (zI mtl) :: .ref 110 :: .ref 111 :: .ref 112 :: .ref 113 :: .ref 114 :: .ref 115 :: .ref 116 :: .ref 117 :: .int (zI z1) :: .int (zI z2) :: .int (zI z3) :: .int (zI mv) :: .ref 118 :: .ref 119 :: .ref 120 :: .ref 121 :: .ref 122 :: .ref 123 :: .ref 124 :: .ref 125 :: .ref 126 :: .ref 127 :: .ref 128 :: .ref 129 :: .int (zI mfu) :: .ref 130 :: .ref 131 :: .ref 132 :: .ref 133 :: .ref 134 :: .int (zI mdm) :: .int (zI mla) :: [])) dX12_looks_21 fw_X12_82 rfl (Nat.le_of_ble_eq_true rfl) (fun _ => ⟨rfl, rfl⟩) rfl ?_
    refine Z_iconst (n := 0) dX12_looks_24 ?_
    refine J_istore_n dX12_looks_25 rfl (Nat.le_of_ble_eq_true rfl) rfl ?_
    refine J_ls (ls2 := [some (.ref 98), some (.int (zI 0)), none, none]) rfl ?_
    refine J_touch (k := 116) (e := .inl (0, 1260, .inl (zA cm))) hk116 ?_
    refine J_mask (L2 := [(116, .inl (0, 1260, .inl (zA cm))), (98, .inr (12, (.int (zI ms) :: .int (zI mv) :: .ref 99 :: .ref 100 :: .ref 101 :: .ref 102 :: .ref 103 :: .ref 104 :: .ref 105 :: .int (zI mt) :: .int (zI mfa) :: .ref 106 :: .ref 107 :: .ref 108 :: .int (zI mtn) :: .int (zI mtk) :: .int (zI mlv) :: .int (zI mbd) :: .int (zI mgo) :: .int (zI mge) :: .int (zI mbk) :: .ref 109 :: .int (zI mtt) :: .int (zI mtl) :: .ref 110 :: .ref 111 :: .ref 112 :: .ref 113 :: .ref 114 :: .ref 115 :: .ref 116 :: .ref 117 :: .int (zI z1) :: .int (zI z2) :: .int (zI z3) :: .int (zI mv) :: .ref 118 :: .ref 119 :: .ref 120 :: .ref 121 :: .ref 122 :: .ref 123 :: .ref 124 :: .ref 125 :: .ref 126 :: .ref 127 :: .ref 128 :: .ref 129 :: .int (zI mfu) :: .ref 130 :: .ref 131 :: .ref 132 :: .ref 133 :: .ref 134 :: .int (zI mdm) :: .int (zI mla) :: []))), (110, .inl (0, 8820, .inl (zA f4))), (111, .inl (0, 1260, .inl (zA f5))), (117, .inl (0, 7, .inl (zA f6)))]) (ks := [116, 98, 98, 110, 111, 117]) [true, true, false, true, true, true] rfl (by decide +kernel) rfl ?_
    have lp26 : ∀ (N26 : Nat) (h_26 : Int) (cm_26 : Int → Int), (0 ≤ h_26) → (h_26 ≤ z1) → (Rg cm_26 h_26 0 0) → (z1 - h_26).toNat < N26 → J l G MX12_looks { frames := 42, cells := 0, slots := 0, locals := 995 } jE (jMQ G { frames := 42, cells := 0, slots := 0, locals := 995 } (fun rr h9 => ∃ hm2 : Int, ∃ pm2 : Int, ∃ hb2 : Int, ∃ co2 : Int → Int, ∃ cd2 : Int → Int, ∃ of2 : Int → Int, ∃ sb2 : Int, ∃ st2 : Int → Int, ∃ tk2 : Int → Int, ∃ sm2 : Int → Int, ∃ cf2 : Int → Int, ∃ cm2 : Int → Int, ∃ aq2 : Int → Int, ∃ go2 : Int, ∃ ge2 : Int, ∃ bk2 : Int, ∃ tt2 : Int, ∃ tl2 : Int, rr = none ∧ h9 = (nh, hc fh [(98, .inr (12, (.int (zI ms) :: .int (zI mv) :: .ref 99 :: .ref 100 :: .ref 101 :: .ref 102 :: .ref 103 :: .ref 104 :: .ref 105 :: .int (zI mt) :: .int (zI mfa) :: .ref 106 :: .ref 107 :: .ref 108 :: .int (zI mtn) :: .int (zI mtk) :: .int (zI mlv) :: .int (zI mbd) :: .int (zI go2) :: .int (zI ge2) :: .int (zI bk2) :: .ref 109 :: .int (zI tt2) :: .int (zI tl2) :: .ref 110 :: .ref 111 :: .ref 112 :: .ref 113 :: .ref 114 :: .ref 115 :: .ref 116 :: .ref 117 :: .int (zI hm2) :: .int (zI pm2) :: .int (zI hb2) :: .int (zI sb2) :: .ref 118 :: .ref 119 :: .ref 120 :: .ref 121 :: .ref 122 :: .ref 123 :: .ref 124 :: .ref 125 :: .ref 126 :: .ref 127 :: .ref 128 :: .ref 129 :: .int (zI mfu) :: .ref 130 :: .ref 131 :: .ref 132 :: .ref 133 :: .ref 134 :: .int (zI mdm) :: .int (zI mla) :: []))), (110, .inl (0, 8820, .inl (zA co2))), (111, .inl (0, 1260, .inl (zA cd2))), (117, .inl (0, 7, .inl (zA of2))), (112, .inl (0, 27720, .inl (zA st2))), (113, .inl (0, 27720, .inl (zA tk2))), (114, .inl (0, 1260, .inl (zA sm2))), (115, .inl (0, 27720, .inl (zA cf2))), (116, .inl (0, 1260, .inl (zA cm2))), (109, .inl (0, 8, .inl (zA aq2)))]) ∧ (hm2 = Hi K) ∧ (pm2 = bsum K) ∧ (HouT co2 cd2 K hm2) ∧ (Rg of2 7 0 4) ∧ (1 ≤ hm2) ∧ (hm2 ≤ 1260) ∧ (0 ≤ pm2) ∧ (pm2 ≤ 7) ∧ (hb2 = mv) ∧ (sb2 = mv) ∧ (StM st2 tk2 sm2 hm2) ∧ (CoM cf2 cm2 st2 sm2 hm2) ∧ (0 ≤ bk2) ∧ (bk2 ≤ 1) ∧ (Rg aq2 8 (-2147483648) 2147483647))) (nh, hc fh [(116, .inl (0, 1260, .inl (zA cm_26))), (98, .inr (12, (.int (zI ms) :: .int (zI mv) :: .ref 99 :: .ref 100 :: .ref 101 :: .ref 102 :: .ref 103 :: .ref 104 :: .ref 105 :: .int (zI mt) :: .int (zI mfa) :: .ref 106 :: .ref 107 :: .ref 108 :: .int (zI mtn) :: .int (zI mtk) :: .int (zI mlv) :: .int (zI mbd) :: .int (zI mgo) :: .int (zI mge) :: .int (zI mbk) :: .ref 109 :: .int (zI mtt) :: .int (zI mtl) :: .ref 110 :: .ref 111 :: .ref 112 :: .ref 113 :: .ref 114 :: .ref 115 :: .ref 116 :: .ref 117 :: .int (zI z1) :: .int (zI z2) :: .int (zI z3) :: .int (zI mv) :: .ref 118 :: .ref 119 :: .ref 120 :: .ref 121 :: .ref 122 :: .ref 123 :: .ref 124 :: .ref 125 :: .ref 126 :: .ref 127 :: .ref 128 :: .ref 129 :: .int (zI mfu) :: .ref 130 :: .ref 131 :: .ref 132 :: .ref 133 :: .ref 134 :: .int (zI mdm) :: .int (zI mla) :: []))), (110, .inl (0, 8820, .inl (zA f4))), (111, .inl (0, 1260, .inl (zA f5))), (117, .inl (0, 7, .inl (zA f6)))]) 0 0 26 [some (.ref 98), some (.int (zI h_26)), none, none] [] := by
      intro N26
      induction N26 with
      | zero => intro h_26 cm_26 i26_0 i26_1 i26_2 hm; exact absurd hm (Nat.not_lt_zero _)
      | succ N26 ih26 =>
        intro h_26 cm_26 i26_0 i26_1 i26_2 hm26
        refine J_iload_n dX12_looks_26 rfl rfl ?_
        refine J_aload_n dX12_looks_27 rfl rfl ?_
        refine J_get (v := .int (zI z1)) dX12_looks_28 fl_X12_298 rfl rfl ?_
        refine Z_icmp_ge (tgt := 47) dX12_looks_31 (by decide) (v_c9ca704c4d h12 i26_0 i26_1) (v_81c6732ede h11 h12) (fun h17 => ?_) (fun h17 => ?_)
        · refine Z_iconst (n := 0) dX12_looks_47 ?_
          refine J_istore_n dX12_looks_48 rfl (Nat.le_of_ble_eq_true rfl) rfl ?_
          refine J_ls (ls2 := [some (.ref 98), some (.int (zI 0)), none, none]) rfl ?_
          refine J_touch (k := 109) (e := .inl (0, 8, .inl (zA aq))) hk109 ?_
          refine J_touch (k := 112) (e := .inl (0, 27720, .inl (zA st))) hk112 ?_
          refine J_touch (k := 113) (e := .inl (0, 27720, .inl (zA tk))) hk113 ?_
          refine J_touch (k := 114) (e := .inl (0, 1260, .inl (zA sm))) hk114 ?_
          refine J_touch (k := 115) (e := .inl (0, 27720, .inl (zA cf))) hk115 ?_
          have lp49 : ∀ (N49 : Nat) (h_49 : Int) (go_49 : Int) (ge_49 : Int) (bk_49 : Int) (tt_49 : Int) (tl_49 : Int) (aq_49 : Int → Int) (st_49 : Int → Int) (tk_49 : Int → Int) (sm_49 : Int → Int) (cf_49 : Int → Int) (cm_49 : Int → Int) (o_49 : Int → Int), (0 ≤ h_49) → (h_49 ≤ z1) → (LkI K st_49 tk_49 sm_49 cf_49 cm_49 h_49 z1) → (0 ≤ bk_49) → (bk_49 ≤ 1) → (Rg aq_49 8 (-2147483648) 2147483647) → (Rg o_49 7 0 4) → (z1 - h_49).toNat < N49 → J l G MX12_looks { frames := 42, cells := 0, slots := 0, locals := 995 } jE (jMQ G { frames := 42, cells := 0, slots := 0, locals := 995 } (fun rr h9 => ∃ hm2 : Int, ∃ pm2 : Int, ∃ hb2 : Int, ∃ co2 : Int → Int, ∃ cd2 : Int → Int, ∃ of2 : Int → Int, ∃ sb2 : Int, ∃ st2 : Int → Int, ∃ tk2 : Int → Int, ∃ sm2 : Int → Int, ∃ cf2 : Int → Int, ∃ cm2 : Int → Int, ∃ aq2 : Int → Int, ∃ go2 : Int, ∃ ge2 : Int, ∃ bk2 : Int, ∃ tt2 : Int, ∃ tl2 : Int, rr = none ∧ h9 = (nh, hc fh [(98, .inr (12, (.int (zI ms) :: .int (zI mv) :: .ref 99 :: .ref 100 :: .ref 101 :: .ref 102 :: .ref 103 :: .ref 104 :: .ref 105 :: .int (zI mt) :: .int (zI mfa) :: .ref 106 :: .ref 107 :: .ref 108 :: .int (zI mtn) :: .int (zI mtk) :: .int (zI mlv) :: .int (zI mbd) :: .int (zI go2) :: .int (zI ge2) :: .int (zI bk2) :: .ref 109 :: .int (zI tt2) :: .int (zI tl2) :: .ref 110 :: .ref 111 :: .ref 112 :: .ref 113 :: .ref 114 :: .ref 115 :: .ref 116 :: .ref 117 :: .int (zI hm2) :: .int (zI pm2) :: .int (zI hb2) :: .int (zI sb2) :: .ref 118 :: .ref 119 :: .ref 120 :: .ref 121 :: .ref 122 :: .ref 123 :: .ref 124 :: .ref 125 :: .ref 126 :: .ref 127 :: .ref 128 :: .ref 129 :: .int (zI mfu) :: .ref 130 :: .ref 131 :: .ref 132 :: .ref 133 :: .ref 134 :: .int (zI mdm) :: .int (zI mla) :: []))), (110, .inl (0, 8820, .inl (zA co2))), (111, .inl (0, 1260, .inl (zA cd2))), (117, .inl (0, 7, .inl (zA of2))), (112, .inl (0, 27720, .inl (zA st2))), (113, .inl (0, 27720, .inl (zA tk2))), (114, .inl (0, 1260, .inl (zA sm2))), (115, .inl (0, 27720, .inl (zA cf2))), (116, .inl (0, 1260, .inl (zA cm2))), (109, .inl (0, 8, .inl (zA aq2)))]) ∧ (hm2 = Hi K) ∧ (pm2 = bsum K) ∧ (HouT co2 cd2 K hm2) ∧ (Rg of2 7 0 4) ∧ (1 ≤ hm2) ∧ (hm2 ≤ 1260) ∧ (0 ≤ pm2) ∧ (pm2 ≤ 7) ∧ (hb2 = mv) ∧ (sb2 = mv) ∧ (StM st2 tk2 sm2 hm2) ∧ (CoM cf2 cm2 st2 sm2 hm2) ∧ (0 ≤ bk2) ∧ (bk2 ≤ 1) ∧ (Rg aq2 8 (-2147483648) 2147483647))) (nh, hc fh [(115, .inl (0, 27720, .inl (zA cf_49))), (114, .inl (0, 1260, .inl (zA sm_49))), (113, .inl (0, 27720, .inl (zA tk_49))), (112, .inl (0, 27720, .inl (zA st_49))), (109, .inl (0, 8, .inl (zA aq_49))), (116, .inl (0, 1260, .inl (zA cm_49))), (98, .inr (12, (.int (zI ms) :: .int (zI mv) :: .ref 99 :: .ref 100 :: .ref 101 :: .ref 102 :: .ref 103 :: .ref 104 :: .ref 105 :: .int (zI mt) :: .int (zI mfa) :: .ref 106 :: .ref 107 :: .ref 108 :: .int (zI mtn) :: .int (zI mtk) :: .int (zI mlv) :: .int (zI mbd) :: .int (zI go_49) :: .int (zI ge_49) :: .int (zI bk_49) :: .ref 109 :: .int (zI tt_49) :: .int (zI tl_49) :: .ref 110 :: .ref 111 :: .ref 112 :: .ref 113 :: .ref 114 :: .ref 115 :: .ref 116 :: .ref 117 :: .int (zI z1) :: .int (zI z2) :: .int (zI z3) :: .int (zI mv) :: .ref 118 :: .ref 119 :: .ref 120 :: .ref 121 :: .ref 122 :: .ref 123 :: .ref 124 :: .ref 125 :: .ref 126 :: .ref 127 :: .ref 128 :: .ref 129 :: .int (zI mfu) :: .ref 130 :: .ref 131 :: .ref 132 :: .ref 133 :: .ref 134 :: .int (zI mdm) :: .int (zI mla) :: []))), (110, .inl (0, 8820, .inl (zA f4))), (111, .inl (0, 1260, .inl (zA f5))), (117, .inl (0, 7, .inl (zA o_49)))]) 0 0 49 [some (.ref 98), some (.int (zI h_49)), none, none] [] := by
            intro N49
            induction N49 with
            | zero => intro h_49 go_49 ge_49 bk_49 tt_49 tl_49 aq_49 st_49 tk_49 sm_49 cf_49 cm_49 o_49 i49_0 i49_1 i49_2 i49_3 i49_4 i49_5 i49_6 hm; exact absurd hm (Nat.not_lt_zero _)
            | succ N49 ih49 =>
              intro h_49 go_49 ge_49 bk_49 tt_49 tl_49 aq_49 st_49 tk_49 sm_49 cf_49 cm_49 o_49 i49_0 i49_1 i49_2 i49_3 i49_4 i49_5 i49_6 hm49
              refine J_iload_n dX12_looks_49 rfl rfl ?_
              refine J_aload_n dX12_looks_50 rfl rfl ?_
              refine J_get (v := .int (zI z1)) dX12_looks_51 fl_X12_298 rfl rfl ?_
              refine Z_icmp_ge (tgt := 235) dX12_looks_54 (by decide) (v_c9ca704c4d h12 i49_0 i49_1) (v_81c6732ede h11 h12) (fun h18 => ?_) (fun h18 => ?_)
              · refine J_touch (k := 109) (e := .inl (0, 8, .inl (zA aq_49))) rfl ?_
                refine J_touch (k := 116) (e := .inl (0, 1260, .inl (zA cm_49))) rfl ?_
                refine J_touch (k := 115) (e := .inl (0, 27720, .inl (zA cf_49))) rfl ?_
                refine J_touch (k := 114) (e := .inl (0, 1260, .inl (zA sm_49))) rfl ?_
                refine J_touch (k := 113) (e := .inl (0, 27720, .inl (zA tk_49))) rfl ?_
                refine J_touch (k := 112) (e := .inl (0, 27720, .inl (zA st_49))) rfl ?_
                refine J_touch (k := 117) (e := .inl (0, 7, .inl (zA o_49))) rfl ?_
                refine J_touch (k := 111) (e := .inl (0, 1260, .inl (zA f5))) rfl ?_
                refine J_touch (k := 110) (e := .inl (0, 8820, .inl (zA f4))) rfl ?_
                refine J_touch (k := 98) (e := .inr (12, (.int (zI ms) :: .int (zI mv) :: .ref 99 :: .ref 100 :: .ref 101 :: .ref 102 :: .ref 103 :: .ref 104 :: .ref 105 :: .int (zI mt) :: .int (zI mfa) :: .ref 106 :: .ref 107 :: .ref 108 :: .int (zI mtn) :: .int (zI mtk) :: .int (zI mlv) :: .int (zI mbd) :: .int (zI go_49) :: .int (zI ge_49) :: .int (zI bk_49) :: .ref 109 :: .int (zI tt_49) :: .int (zI tl_49) :: .ref 110 :: .ref 111 :: .ref 112 :: .ref 113 :: .ref 114 :: .ref 115 :: .ref 116 :: .ref 117 :: .int (zI z1) :: .int (zI z2) :: .int (zI z3) :: .int (zI mv) :: .ref 118 :: .ref 119 :: .ref 120 :: .ref 121 :: .ref 122 :: .ref 123 :: .ref 124 :: .ref 125 :: .ref 126 :: .ref 127 :: .ref 128 :: .ref 129 :: .int (zI mfu) :: .ref 130 :: .ref 131 :: .ref 132 :: .ref 133 :: .ref 134 :: .int (zI mdm) :: .int (zI mla) :: []))) rfl ?_
                refine J_mask (L2 := [(98, .inr (12, (.int (zI ms) :: .int (zI mv) :: .ref 99 :: .ref 100 :: .ref 101 :: .ref 102 :: .ref 103 :: .ref 104 :: .ref 105 :: .int (zI mt) :: .int (zI mfa) :: .ref 106 :: .ref 107 :: .ref 108 :: .int (zI mtn) :: .int (zI mtk) :: .int (zI mlv) :: .int (zI mbd) :: .int (zI go_49) :: .int (zI ge_49) :: .int (zI bk_49) :: .ref 109 :: .int (zI tt_49) :: .int (zI tl_49) :: .ref 110 :: .ref 111 :: .ref 112 :: .ref 113 :: .ref 114 :: .ref 115 :: .ref 116 :: .ref 117 :: .int (zI z1) :: .int (zI z2) :: .int (zI z3) :: .int (zI mv) :: .ref 118 :: .ref 119 :: .ref 120 :: .ref 121 :: .ref 122 :: .ref 123 :: .ref 124 :: .ref 125 :: .ref 126 :: .ref 127 :: .ref 128 :: .ref 129 :: .int (zI mfu) :: .ref 130 :: .ref 131 :: .ref 132 :: .ref 133 :: .ref 134 :: .int (zI mdm) :: .int (zI mla) :: []))), (110, .inl (0, 8820, .inl (zA f4))), (111, .inl (0, 1260, .inl (zA f5))), (117, .inl (0, 7, .inl (zA o_49))), (112, .inl (0, 27720, .inl (zA st_49))), (113, .inl (0, 27720, .inl (zA tk_49))), (114, .inl (0, 1260, .inl (zA sm_49))), (115, .inl (0, 27720, .inl (zA cf_49))), (116, .inl (0, 1260, .inl (zA cm_49))), (109, .inl (0, 8, .inl (zA aq_49)))]) (ks := [98, 110, 111, 117, 112, 113, 114, 115, 116, 109, 115, 114, 113, 112, 109, 116, 98, 110, 111, 117]) [true, true, true, true, true, true, true, true, true, true, false, false, false, false, false, false, false, false, false, false] rfl (by decide +kernel) rfl ?_
                exact J_vret dX12_looks_235 rfl (Nat.le_of_ble_eq_true rfl) (Nat.le_of_ble_eq_true rfl) ⟨z1, z2, z3, f4, f5, o_49, mv, st_49, tk_49, sm_49, cf_49, cm_49, aq_49, go_49, ge_49, bk_49, tt_49, tl_49, rfl, rfl, h7, h8, h9, i49_6, h11, h12, h13, h14, h15, v_a0572702c4, ((LkI.done i49_2 (v_9b8f42b01e i49_1 h18)).1), ((LkI.done i49_2 (v_9b8f42b01e i49_1 h18)).2), i49_3, i49_4, i49_5⟩
              · refine J_aload_n dX12_looks_57 rfl rfl ?_
                refine J_get (v := .ref 114) dX12_looks_58 fl_X12_67 rfl rfl ?_
                refine J_iload_n dX12_looks_61 rfl rfl ?_
                refine Z_iconst (n := 0) dX12_looks_62 ?_
                refine Y_iast (v := 0) 1260 dX12_looks_63 rfl rfl (by decide) (v_2b02420001 i49_0) (v_610e7c4416 h12 h18) (fun f19 ef19 => ?_)
                refine Z_iconst (n := 0) dX12_looks_64 ?_
                refine J_istore_n dX12_looks_65 rfl (Nat.le_of_ble_eq_true rfl) rfl ?_
                refine J_ls (ls2 := [some (.ref 98), some (.int (zI h_49)), some (.int (zI 0)), none]) rfl ?_
                refine J_mask (L2 := [(114, .inl (0, 1260, .inl (zA f19))), (115, .inl (0, 27720, .inl (zA cf_49))), (113, .inl (0, 27720, .inl (zA tk_49))), (112, .inl (0, 27720, .inl (zA st_49))), (109, .inl (0, 8, .inl (zA aq_49))), (116, .inl (0, 1260, .inl (zA cm_49))), (98, .inr (12, (.int (zI ms) :: .int (zI mv) :: .ref 99 :: .ref 100 :: .ref 101 :: .ref 102 :: .ref 103 :: .ref 104 :: .ref 105 :: .int (zI mt) :: .int (zI mfa) :: .ref 106 :: .ref 107 :: .ref 108 :: .int (zI mtn) :: .int (zI mtk) :: .int (zI mlv) :: .int (zI mbd) :: .int (zI go_49) :: .int (zI ge_49) :: .int (zI bk_49) :: .ref 109 :: .int (zI tt_49) :: .int (zI tl_49) :: .ref 110 :: .ref 111 :: .ref 112 :: .ref 113 :: .ref 114 :: .ref 115 :: .ref 116 :: .ref 117 :: .int (zI z1) :: .int (zI z2) :: .int (zI z3) :: .int (zI mv) :: .ref 118 :: .ref 119 :: .ref 120 :: .ref 121 :: .ref 122 :: .ref 123 :: .ref 124 :: .ref 125 :: .ref 126 :: .ref 127 :: .ref 128 :: .ref 129 :: .int (zI mfu) :: .ref 130 :: .ref 131 :: .ref 132 :: .ref 133 :: .ref 134 :: .int (zI mdm) :: .int (zI mla) :: []))), (110, .inl (0, 8820, .inl (zA f4))), (111, .inl (0, 1260, .inl (zA f5))), (117, .inl (0, 7, .inl (zA o_49)))]) (ks := [114, 115, 114, 113, 112, 109, 116, 98, 110, 111, 117]) [true, true, false, true, true, true, true, true, true, true, true] rfl (by decide +kernel) rfl ?_
                have lp66 : ∀ (N66 : Nat) (a_66 : Int) (go_66 : Int) (ge_66 : Int) (bk_66 : Int) (tt_66 : Int) (tl_66 : Int) (aq_66 : Int → Int) (st_66 : Int → Int) (tk_66 : Int → Int) (sm_66 : Int → Int) (cf_66 : Int → Int) (cm_66 : Int → Int) (o_66 : Int → Int), (0 ≤ a_66) → (a_66 ≤ z2) → (LkI K st_66 tk_66 sm_66 cf_66 cm_66 (h_49 + 1) z1) → (0 ≤ bk_66) → (bk_66 ≤ 1) → (Rg aq_66 8 (-2147483648) 2147483647) → (Rg o_66 7 0 4) → (sm_66 h_49 ≤ prp a_66) → (z2 - a_66).toNat < N66 → J l G MX12_looks { frames := 42, cells := 0, slots := 0, locals := 995 } jE (jMQ G { frames := 42, cells := 0, slots := 0, locals := 995 } (fun rr h9 => ∃ hm2 : Int, ∃ pm2 : Int, ∃ hb2 : Int, ∃ co2 : Int → Int, ∃ cd2 : Int → Int, ∃ of2 : Int → Int, ∃ sb2 : Int, ∃ st2 : Int → Int, ∃ tk2 : Int → Int, ∃ sm2 : Int → Int, ∃ cf2 : Int → Int, ∃ cm2 : Int → Int, ∃ aq2 : Int → Int, ∃ go2 : Int, ∃ ge2 : Int, ∃ bk2 : Int, ∃ tt2 : Int, ∃ tl2 : Int, rr = none ∧ h9 = (nh, hc fh [(98, .inr (12, (.int (zI ms) :: .int (zI mv) :: .ref 99 :: .ref 100 :: .ref 101 :: .ref 102 :: .ref 103 :: .ref 104 :: .ref 105 :: .int (zI mt) :: .int (zI mfa) :: .ref 106 :: .ref 107 :: .ref 108 :: .int (zI mtn) :: .int (zI mtk) :: .int (zI mlv) :: .int (zI mbd) :: .int (zI go2) :: .int (zI ge2) :: .int (zI bk2) :: .ref 109 :: .int (zI tt2) :: .int (zI tl2) :: .ref 110 :: .ref 111 :: .ref 112 :: .ref 113 :: .ref 114 :: .ref 115 :: .ref 116 :: .ref 117 :: .int (zI hm2) :: .int (zI pm2) :: .int (zI hb2) :: .int (zI sb2) :: .ref 118 :: .ref 119 :: .ref 120 :: .ref 121 :: .ref 122 :: .ref 123 :: .ref 124 :: .ref 125 :: .ref 126 :: .ref 127 :: .ref 128 :: .ref 129 :: .int (zI mfu) :: .ref 130 :: .ref 131 :: .ref 132 :: .ref 133 :: .ref 134 :: .int (zI mdm) :: .int (zI mla) :: []))), (110, .inl (0, 8820, .inl (zA co2))), (111, .inl (0, 1260, .inl (zA cd2))), (117, .inl (0, 7, .inl (zA of2))), (112, .inl (0, 27720, .inl (zA st2))), (113, .inl (0, 27720, .inl (zA tk2))), (114, .inl (0, 1260, .inl (zA sm2))), (115, .inl (0, 27720, .inl (zA cf2))), (116, .inl (0, 1260, .inl (zA cm2))), (109, .inl (0, 8, .inl (zA aq2)))]) ∧ (hm2 = Hi K) ∧ (pm2 = bsum K) ∧ (HouT co2 cd2 K hm2) ∧ (Rg of2 7 0 4) ∧ (1 ≤ hm2) ∧ (hm2 ≤ 1260) ∧ (0 ≤ pm2) ∧ (pm2 ≤ 7) ∧ (hb2 = mv) ∧ (sb2 = mv) ∧ (StM st2 tk2 sm2 hm2) ∧ (CoM cf2 cm2 st2 sm2 hm2) ∧ (0 ≤ bk2) ∧ (bk2 ≤ 1) ∧ (Rg aq2 8 (-2147483648) 2147483647))) (nh, hc fh [(114, .inl (0, 1260, .inl (zA sm_66))), (115, .inl (0, 27720, .inl (zA cf_66))), (113, .inl (0, 27720, .inl (zA tk_66))), (112, .inl (0, 27720, .inl (zA st_66))), (109, .inl (0, 8, .inl (zA aq_66))), (116, .inl (0, 1260, .inl (zA cm_66))), (98, .inr (12, (.int (zI ms) :: .int (zI mv) :: .ref 99 :: .ref 100 :: .ref 101 :: .ref 102 :: .ref 103 :: .ref 104 :: .ref 105 :: .int (zI mt) :: .int (zI mfa) :: .ref 106 :: .ref 107 :: .ref 108 :: .int (zI mtn) :: .int (zI mtk) :: .int (zI mlv) :: .int (zI mbd) :: .int (zI go_66) :: .int (zI ge_66) :: .int (zI bk_66) :: .ref 109 :: .int (zI tt_66) :: .int (zI tl_66) :: .ref 110 :: .ref 111 :: .ref 112 :: .ref 113 :: .ref 114 :: .ref 115 :: .ref 116 :: .ref 117 :: .int (zI z1) :: .int (zI z2) :: .int (zI z3) :: .int (zI mv) :: .ref 118 :: .ref 119 :: .ref 120 :: .ref 121 :: .ref 122 :: .ref 123 :: .ref 124 :: .ref 125 :: .ref 126 :: .ref 127 :: .ref 128 :: .ref 129 :: .int (zI mfu) :: .ref 130 :: .ref 131 :: .ref 132 :: .ref 133 :: .ref 134 :: .int (zI mdm) :: .int (zI mla) :: []))), (110, .inl (0, 8820, .inl (zA f4))), (111, .inl (0, 1260, .inl (zA f5))), (117, .inl (0, 7, .inl (zA o_66)))]) 0 0 66 [some (.ref 98), some (.int (zI h_49)), some (.int (zI a_66)), none] [] := by
                  intro N66
                  induction N66 with
                  | zero => intro a_66 go_66 ge_66 bk_66 tt_66 tl_66 aq_66 st_66 tk_66 sm_66 cf_66 cm_66 o_66 i66_0 i66_1 i66_2 i66_3 i66_4 i66_5 i66_6 i66_7 hm; exact absurd hm (Nat.not_lt_zero _)
                  | succ N66 ih66 =>
                    intro a_66 go_66 ge_66 bk_66 tt_66 tl_66 aq_66 st_66 tk_66 sm_66 cf_66 cm_66 o_66 i66_0 i66_1 i66_2 i66_3 i66_4 i66_5 i66_6 i66_7 hm66
                    refine J_iload_n dX12_looks_66 rfl rfl ?_
                    refine J_aload_n dX12_looks_67 rfl rfl ?_
                    refine J_get (v := .int (zI z2)) dX12_looks_68 fl_X12_293 rfl rfl ?_
                    refine Z_icmp_ge (tgt := 161) dX12_looks_71 (by decide) (v_ee3170dbf0 h14 i66_0 i66_1) (v_2ee1de483d h13 h14) (fun h20 => ?_) (fun h20 => ?_)
                    · have gpa := prp_all (x := a_66)
                      refine J_aload_n dX12_looks_161 rfl rfl ?_
                      refine J_get (v := .ref 100) dX12_looks_162 fl_X12_20 rfl rfl ?_
                      refine Z_iconst (n := 5) dX12_looks_165 ?_
                      obtain ⟨z21, ez21⟩ : ∃ z : Int, K 5 = z := ⟨_, rfl⟩
                      have h22 := Rg.at q0.2.2.2.2.2.2.2.2.1 v_17fcbbe8da v_9f5614cb98 ez21
                      refine Y_iald (z := z21) 4870 dX12_looks_166 hk100 rfl (by decide) v_17fcbbe8da v_9f5614cb98 ez21 ?_
                      refine Z_if_eq (tgt := 229) dX12_looks_167 (by decide) (v_f306e1cdb8 h22.1 h22.2) (fun h23 => ?_) (fun h23 => ?_)
                      · refine Z_iinc (c := h_49 + 1) (ls2 := [some (.ref 98), some (.int (zI (h_49 + 1))), some (.int (zI a_66)), none]) dX12_looks_229 rfl (Nat.le_of_ble_eq_true rfl) rfl rfl rfl ?_
                        refine J_goto (tgt := 49) dX12_looks_232 (by decide) ?_
                        refine J_touch (k := 117) (e := .inl (0, 7, .inl (zA o_66))) rfl ?_
                        refine J_touch (k := 111) (e := .inl (0, 1260, .inl (zA f5))) rfl ?_
                        refine J_touch (k := 110) (e := .inl (0, 8820, .inl (zA f4))) rfl ?_
                        refine J_touch (k := 98) (e := .inr (12, (.int (zI ms) :: .int (zI mv) :: .ref 99 :: .ref 100 :: .ref 101 :: .ref 102 :: .ref 103 :: .ref 104 :: .ref 105 :: .int (zI mt) :: .int (zI mfa) :: .ref 106 :: .ref 107 :: .ref 108 :: .int (zI mtn) :: .int (zI mtk) :: .int (zI mlv) :: .int (zI mbd) :: .int (zI go_66) :: .int (zI ge_66) :: .int (zI bk_66) :: .ref 109 :: .int (zI tt_66) :: .int (zI tl_66) :: .ref 110 :: .ref 111 :: .ref 112 :: .ref 113 :: .ref 114 :: .ref 115 :: .ref 116 :: .ref 117 :: .int (zI z1) :: .int (zI z2) :: .int (zI z3) :: .int (zI mv) :: .ref 118 :: .ref 119 :: .ref 120 :: .ref 121 :: .ref 122 :: .ref 123 :: .ref 124 :: .ref 125 :: .ref 126 :: .ref 127 :: .ref 128 :: .ref 129 :: .int (zI mfu) :: .ref 130 :: .ref 131 :: .ref 132 :: .ref 133 :: .ref 134 :: .int (zI mdm) :: .int (zI mla) :: []))) rfl ?_
                        refine J_touch (k := 116) (e := .inl (0, 1260, .inl (zA cm_66))) rfl ?_
                        refine J_touch (k := 109) (e := .inl (0, 8, .inl (zA aq_66))) rfl ?_
                        refine J_touch (k := 112) (e := .inl (0, 27720, .inl (zA st_66))) rfl ?_
                        refine J_touch (k := 113) (e := .inl (0, 27720, .inl (zA tk_66))) rfl ?_
                        refine J_touch (k := 114) (e := .inl (0, 1260, .inl (zA sm_66))) rfl ?_
                        refine J_touch (k := 115) (e := .inl (0, 27720, .inl (zA cf_66))) rfl ?_
                        refine J_mask (L2 := [(115, .inl (0, 27720, .inl (zA cf_66))), (114, .inl (0, 1260, .inl (zA sm_66))), (113, .inl (0, 27720, .inl (zA tk_66))), (112, .inl (0, 27720, .inl (zA st_66))), (109, .inl (0, 8, .inl (zA aq_66))), (116, .inl (0, 1260, .inl (zA cm_66))), (98, .inr (12, (.int (zI ms) :: .int (zI mv) :: .ref 99 :: .ref 100 :: .ref 101 :: .ref 102 :: .ref 103 :: .ref 104 :: .ref 105 :: .int (zI mt) :: .int (zI mfa) :: .ref 106 :: .ref 107 :: .ref 108 :: .int (zI mtn) :: .int (zI mtk) :: .int (zI mlv) :: .int (zI mbd) :: .int (zI go_66) :: .int (zI ge_66) :: .int (zI bk_66) :: .ref 109 :: .int (zI tt_66) :: .int (zI tl_66) :: .ref 110 :: .ref 111 :: .ref 112 :: .ref 113 :: .ref 114 :: .ref 115 :: .ref 116 :: .ref 117 :: .int (zI z1) :: .int (zI z2) :: .int (zI z3) :: .int (zI mv) :: .ref 118 :: .ref 119 :: .ref 120 :: .ref 121 :: .ref 122 :: .ref 123 :: .ref 124 :: .ref 125 :: .ref 126 :: .ref 127 :: .ref 128 :: .ref 129 :: .int (zI mfu) :: .ref 130 :: .ref 131 :: .ref 132 :: .ref 133 :: .ref 134 :: .int (zI mdm) :: .int (zI mla) :: []))), (110, .inl (0, 8820, .inl (zA f4))), (111, .inl (0, 1260, .inl (zA f5))), (117, .inl (0, 7, .inl (zA o_66)))]) (ks := [115, 114, 113, 112, 109, 116, 98, 110, 111, 117, 114, 115, 113, 112, 109, 116, 98, 110, 111, 117]) [true, true, true, true, true, true, true, true, true, true, false, false, false, false, false, false, false, false, false, false] rfl (by decide +kernel) rfl ?_
                        refine J_drop (ls2 := [some (.ref 98), some (.int (zI (h_49 + 1))), none, none]) [true, true, false, false] rfl ?_
                        exact ih49 (h_49 + 1) go_66 ge_66 bk_66 tt_66 tl_66 aq_66 st_66 tk_66 sm_66 cf_66 cm_66 o_66 (v_da458fa48a i49_0) (v_e390a36114 h18) i66_2 i66_3 i66_4 i66_5 i66_6 (meas_lt v_90eacd6fd4 (v_8b7dd7d486 h18) hm49)
                      · refine J_aload_n dX12_looks_170 rfl rfl ?_
                        refine J_get (v := .int (zI z2)) dX12_looks_171 fl_X12_293 rfl rfl ?_
                        refine Z_if_ne (tgt := 180) dX12_looks_174 (by decide) (v_2ee1de483d h13 h14) (fun h24 => ?_) (fun h24 => ?_)
                        · refine Z_iconst (n := 0) dX12_looks_180 ?_
                          refine J_istore_n dX12_looks_181 rfl (Nat.le_of_ble_eq_true rfl) rfl ?_
                          refine J_ls (ls2 := [some (.ref 98), some (.int (zI h_49)), some (.int (zI 0)), none]) rfl ?_
                          have lp182 : ∀ (N182 : Nat) (k_182 : Int) (o_182 : Int → Int), (0 ≤ k_182) → (k_182 ≤ z2) → (Rg o_182 7 0 4) → (RotT o_182 (itB K (h_49).toNat) z2 k_182) → (z2 - k_182).toNat < N182 → J l G MX12_looks { frames := 42, cells := 0, slots := 0, locals := 995 } jE (jMQ G { frames := 42, cells := 0, slots := 0, locals := 995 } (fun rr h9 => ∃ hm2 : Int, ∃ pm2 : Int, ∃ hb2 : Int, ∃ co2 : Int → Int, ∃ cd2 : Int → Int, ∃ of2 : Int → Int, ∃ sb2 : Int, ∃ st2 : Int → Int, ∃ tk2 : Int → Int, ∃ sm2 : Int → Int, ∃ cf2 : Int → Int, ∃ cm2 : Int → Int, ∃ aq2 : Int → Int, ∃ go2 : Int, ∃ ge2 : Int, ∃ bk2 : Int, ∃ tt2 : Int, ∃ tl2 : Int, rr = none ∧ h9 = (nh, hc fh [(98, .inr (12, (.int (zI ms) :: .int (zI mv) :: .ref 99 :: .ref 100 :: .ref 101 :: .ref 102 :: .ref 103 :: .ref 104 :: .ref 105 :: .int (zI mt) :: .int (zI mfa) :: .ref 106 :: .ref 107 :: .ref 108 :: .int (zI mtn) :: .int (zI mtk) :: .int (zI mlv) :: .int (zI mbd) :: .int (zI go2) :: .int (zI ge2) :: .int (zI bk2) :: .ref 109 :: .int (zI tt2) :: .int (zI tl2) :: .ref 110 :: .ref 111 :: .ref 112 :: .ref 113 :: .ref 114 :: .ref 115 :: .ref 116 :: .ref 117 :: .int (zI hm2) :: .int (zI pm2) :: .int (zI hb2) :: .int (zI sb2) :: .ref 118 :: .ref 119 :: .ref 120 :: .ref 121 :: .ref 122 :: .ref 123 :: .ref 124 :: .ref 125 :: .ref 126 :: .ref 127 :: .ref 128 :: .ref 129 :: .int (zI mfu) :: .ref 130 :: .ref 131 :: .ref 132 :: .ref 133 :: .ref 134 :: .int (zI mdm) :: .int (zI mla) :: []))), (110, .inl (0, 8820, .inl (zA co2))), (111, .inl (0, 1260, .inl (zA cd2))), (117, .inl (0, 7, .inl (zA of2))), (112, .inl (0, 27720, .inl (zA st2))), (113, .inl (0, 27720, .inl (zA tk2))), (114, .inl (0, 1260, .inl (zA sm2))), (115, .inl (0, 27720, .inl (zA cf2))), (116, .inl (0, 1260, .inl (zA cm2))), (109, .inl (0, 8, .inl (zA aq2)))]) ∧ (hm2 = Hi K) ∧ (pm2 = bsum K) ∧ (HouT co2 cd2 K hm2) ∧ (Rg of2 7 0 4) ∧ (1 ≤ hm2) ∧ (hm2 ≤ 1260) ∧ (0 ≤ pm2) ∧ (pm2 ≤ 7) ∧ (hb2 = mv) ∧ (sb2 = mv) ∧ (StM st2 tk2 sm2 hm2) ∧ (CoM cf2 cm2 st2 sm2 hm2) ∧ (0 ≤ bk2) ∧ (bk2 ≤ 1) ∧ (Rg aq2 8 (-2147483648) 2147483647))) (nh, hc fh [(114, .inl (0, 1260, .inl (zA sm_66))), (115, .inl (0, 27720, .inl (zA cf_66))), (113, .inl (0, 27720, .inl (zA tk_66))), (112, .inl (0, 27720, .inl (zA st_66))), (109, .inl (0, 8, .inl (zA aq_66))), (116, .inl (0, 1260, .inl (zA cm_66))), (98, .inr (12, (.int (zI ms) :: .int (zI mv) :: .ref 99 :: .ref 100 :: .ref 101 :: .ref 102 :: .ref 103 :: .ref 104 :: .ref 105 :: .int (zI mt) :: .int (zI mfa) :: .ref 106 :: .ref 107 :: .ref 108 :: .int (zI mtn) :: .int (zI mtk) :: .int (zI mlv) :: .int (zI mbd) :: .int (zI go_66) :: .int (zI ge_66) :: .int (zI bk_66) :: .ref 109 :: .int (zI tt_66) :: .int (zI tl_66) :: .ref 110 :: .ref 111 :: .ref 112 :: .ref 113 :: .ref 114 :: .ref 115 :: .ref 116 :: .ref 117 :: .int (zI z1) :: .int (zI z2) :: .int (zI z3) :: .int (zI mv) :: .ref 118 :: .ref 119 :: .ref 120 :: .ref 121 :: .ref 122 :: .ref 123 :: .ref 124 :: .ref 125 :: .ref 126 :: .ref 127 :: .ref 128 :: .ref 129 :: .int (zI mfu) :: .ref 130 :: .ref 131 :: .ref 132 :: .ref 133 :: .ref 134 :: .int (zI mdm) :: .int (zI mla) :: []))), (110, .inl (0, 8820, .inl (zA f4))), (111, .inl (0, 1260, .inl (zA f5))), (117, .inl (0, 7, .inl (zA o_182)))]) 0 0 182 [some (.ref 98), some (.int (zI h_49)), some (.int (zI k_182)), none] [] := by
                            intro N182
                            induction N182 with
                            | zero => intro k_182 o_182 i182_0 i182_1 i182_2 i182_3 hm; exact absurd hm (Nat.not_lt_zero _)
                            | succ N182 ih182 =>
                              intro k_182 o_182 i182_0 i182_1 i182_2 i182_3 hm182
                              refine J_iload_n dX12_looks_182 rfl rfl ?_
                              refine J_aload_n dX12_looks_183 rfl rfl ?_
                              refine J_get (v := .int (zI z2)) dX12_looks_184 fl_X12_293 rfl rfl ?_
                              refine Z_icmp_ge (tgt := 215) dX12_looks_187 (by decide) (v_ee3170dbf0 h14 i182_0 i182_1) (v_2ee1de483d h13 h14) (fun h25 => ?_) (fun h25 => ?_)
                              · refine J_aload_n dX12_looks_215 rfl rfl ?_
                                refine J_iload_n dX12_looks_216 rfl rfl ?_
                                refine J_aload_n dX12_looks_217 rfl rfl ?_
                                refine J_aload_n dX12_looks_218 rfl rfl ?_
                                refine J_callV (st := [.ref 98, .int (zI h_49), .ref 98]) dX12_looks_219 cv_X12_319 (k_orderCode o_182 ms mv mt mfa mtn mtk mlv mbd go_66 ge_66 bk_66 tt_66 tl_66 z1 z2 z3 mv mfu mdm mla h13 h14 rfl rfl) rfl rfl rfl (Nat.le_of_ble_eq_true rfl) ⟨(Nat.le_of_ble_eq_true rfl), (Nat.le_of_ble_eq_true rfl)⟩ ⟨(Nat.le_of_ble_eq_true rfl), (Nat.le_of_ble_eq_true rfl)⟩ (fun r h9 hp => ?_)
                                obtain ⟨z26, rfl, rfl, h27⟩ := hp
                                refine J_nf (nh2 := nh) (ck2 := 0) (sk2 := 0) (st2 := [.int (zI z26), .ref 98, .int (zI h_49), .ref 98]) rfl rfl rfl rfl ?_
                                have g28 := cod5_lim i182_2 (v_dc59a041dc h14) h27
                                refine J_callV (st := [.int (zI h_49), .ref 98]) dX12_looks_222 cv_X12_162 (k_houseOf z26 K f4 f5 ms mv mt mfa mtn mtk mlv mbd go_66 ge_66 bk_66 tt_66 tl_66 z1 z2 z3 mv mfu mdm mla (v_ae3ec8d5bc g28.1 g28.2) q0.1 h7 h9 h11 h12 rfl hk100 rfl rfl) rfl rfl rfl (Nat.le_of_ble_eq_true rfl) ⟨(Nat.le_of_ble_eq_true rfl), (Nat.le_of_ble_eq_true rfl)⟩ ⟨(Nat.le_of_ble_eq_true rfl), (Nat.le_of_ble_eq_true rfl)⟩ (fun r h9 hp => ?_)
                                obtain ⟨z29, rfl, rfl, h30, h31, h32⟩ := hp
                                refine J_nf (nh2 := nh) (ck2 := 0) (sk2 := 0) (st2 := [.int (zI z29), .int (zI h_49), .ref 98]) rfl rfl rfl rfl ?_
                                have gro := src_turn (h := h_49) (C := o_182) h9 q0.1 h7 (v_2b02420001 i49_0) (v_fe9ea41faa h18) (v_30d6f5ec46 h13 h24) h8 (by have e : k_182 = z2 := (v_9b8f42b01e i182_1 h25); rw [← e]; rw [← e] at i182_3; exact i182_3) h27 h32
                                refine Z_iconst (n := 1) dX12_looks_225 ?_
                                refine J_callV (st := []) dX12_looks_226 cv_X12_322 (k_addsStep h_49 z29 1 K f4 f5 ms mv mt mfa mtn mtk mlv mbd go_66 ge_66 bk_66 tt_66 tl_66 z1 z2 z3 mv mfu mdm mla st_66 tk_66 sm_66 cf_66 cm_66 i49_0 (v_fe9ea41faa h18) gro.1 h31 v_bbcfac9b7d v_561ce076da gro.2 i66_2 (v_c7eebfa409 i66_7 gpa) q0.2.1.1 q0.2.1.2 q0.2.2.2.2.2.2.2.2.1 q0.1 h7 h9 h11 h12 rfl hk100 rfl rfl rfl rfl rfl rfl rfl) rfl rfl rfl (Nat.le_of_ble_eq_true rfl) ⟨(Nat.le_of_ble_eq_true rfl), (Nat.le_of_ble_eq_true rfl)⟩ ⟨(Nat.le_of_ble_eq_true rfl), (Nat.le_of_ble_eq_true rfl)⟩ (fun r h9 hp => ?_)
                                obtain ⟨f33, f34, f35, f36, f37, rfl, rfl, h38, h39⟩ := hp
                                refine J_nf (nh2 := nh) (ck2 := 0) (sk2 := 0) (st2 := []) rfl rfl rfl rfl ?_
                                refine J_app (L3 := [(112, .inl (0, 27720, .inl (zA f33))), (113, .inl (0, 27720, .inl (zA f34))), (114, .inl (0, 1260, .inl (zA f35))), (115, .inl (0, 27720, .inl (zA f36))), (116, .inl (0, 1260, .inl (zA f37))), (114, .inl (0, 1260, .inl (zA sm_66))), (115, .inl (0, 27720, .inl (zA cf_66))), (113, .inl (0, 27720, .inl (zA tk_66))), (112, .inl (0, 27720, .inl (zA st_66))), (109, .inl (0, 8, .inl (zA aq_66))), (116, .inl (0, 1260, .inl (zA cm_66))), (98, .inr (12, (.int (zI ms) :: .int (zI mv) :: .ref 99 :: .ref 100 :: .ref 101 :: .ref 102 :: .ref 103 :: .ref 104 :: .ref 105 :: .int (zI mt) :: .int (zI mfa) :: .ref 106 :: .ref 107 :: .ref 108 :: .int (zI mtn) :: .int (zI mtk) :: .int (zI mlv) :: .int (zI mbd) :: .int (zI go_66) :: .int (zI ge_66) :: .int (zI bk_66) :: .ref 109 :: .int (zI tt_66) :: .int (zI tl_66) :: .ref 110 :: .ref 111 :: .ref 112 :: .ref 113 :: .ref 114 :: .ref 115 :: .ref 116 :: .ref 117 :: .int (zI z1) :: .int (zI z2) :: .int (zI z3) :: .int (zI mv) :: .ref 118 :: .ref 119 :: .ref 120 :: .ref 121 :: .ref 122 :: .ref 123 :: .ref 124 :: .ref 125 :: .ref 126 :: .ref 127 :: .ref 128 :: .ref 129 :: .int (zI mfu) :: .ref 130 :: .ref 131 :: .ref 132 :: .ref 133 :: .ref 134 :: .int (zI mdm) :: .int (zI mla) :: []))), (110, .inl (0, 8820, .inl (zA f4))), (111, .inl (0, 1260, .inl (zA f5))), (117, .inl (0, 7, .inl (zA o_182)))]) rfl ?_
                                refine J_mask (L2 := [(112, .inl (0, 27720, .inl (zA f33))), (113, .inl (0, 27720, .inl (zA f34))), (114, .inl (0, 1260, .inl (zA f35))), (115, .inl (0, 27720, .inl (zA f36))), (116, .inl (0, 1260, .inl (zA f37))), (109, .inl (0, 8, .inl (zA aq_66))), (98, .inr (12, (.int (zI ms) :: .int (zI mv) :: .ref 99 :: .ref 100 :: .ref 101 :: .ref 102 :: .ref 103 :: .ref 104 :: .ref 105 :: .int (zI mt) :: .int (zI mfa) :: .ref 106 :: .ref 107 :: .ref 108 :: .int (zI mtn) :: .int (zI mtk) :: .int (zI mlv) :: .int (zI mbd) :: .int (zI go_66) :: .int (zI ge_66) :: .int (zI bk_66) :: .ref 109 :: .int (zI tt_66) :: .int (zI tl_66) :: .ref 110 :: .ref 111 :: .ref 112 :: .ref 113 :: .ref 114 :: .ref 115 :: .ref 116 :: .ref 117 :: .int (zI z1) :: .int (zI z2) :: .int (zI z3) :: .int (zI mv) :: .ref 118 :: .ref 119 :: .ref 120 :: .ref 121 :: .ref 122 :: .ref 123 :: .ref 124 :: .ref 125 :: .ref 126 :: .ref 127 :: .ref 128 :: .ref 129 :: .int (zI mfu) :: .ref 130 :: .ref 131 :: .ref 132 :: .ref 133 :: .ref 134 :: .int (zI mdm) :: .int (zI mla) :: []))), (110, .inl (0, 8820, .inl (zA f4))), (111, .inl (0, 1260, .inl (zA f5))), (117, .inl (0, 7, .inl (zA o_182)))]) (ks := [112, 113, 114, 115, 116, 114, 115, 113, 112, 109, 116, 98, 110, 111, 117]) [true, true, true, true, true, false, false, false, false, true, false, true, true, true, true] rfl (by decide +kernel) rfl ?_
                                refine Z_iinc (c := h_49 + 1) (ls2 := [some (.ref 98), some (.int (zI (h_49 + 1))), some (.int (zI k_182)), none]) dX12_looks_229 rfl (Nat.le_of_ble_eq_true rfl) rfl rfl rfl ?_
                                refine J_goto (tgt := 49) dX12_looks_232 (by decide) ?_
                                refine J_touch (k := 117) (e := .inl (0, 7, .inl (zA o_182))) rfl ?_
                                refine J_touch (k := 111) (e := .inl (0, 1260, .inl (zA f5))) rfl ?_
                                refine J_touch (k := 110) (e := .inl (0, 8820, .inl (zA f4))) rfl ?_
                                refine J_touch (k := 98) (e := .inr (12, (.int (zI ms) :: .int (zI mv) :: .ref 99 :: .ref 100 :: .ref 101 :: .ref 102 :: .ref 103 :: .ref 104 :: .ref 105 :: .int (zI mt) :: .int (zI mfa) :: .ref 106 :: .ref 107 :: .ref 108 :: .int (zI mtn) :: .int (zI mtk) :: .int (zI mlv) :: .int (zI mbd) :: .int (zI go_66) :: .int (zI ge_66) :: .int (zI bk_66) :: .ref 109 :: .int (zI tt_66) :: .int (zI tl_66) :: .ref 110 :: .ref 111 :: .ref 112 :: .ref 113 :: .ref 114 :: .ref 115 :: .ref 116 :: .ref 117 :: .int (zI z1) :: .int (zI z2) :: .int (zI z3) :: .int (zI mv) :: .ref 118 :: .ref 119 :: .ref 120 :: .ref 121 :: .ref 122 :: .ref 123 :: .ref 124 :: .ref 125 :: .ref 126 :: .ref 127 :: .ref 128 :: .ref 129 :: .int (zI mfu) :: .ref 130 :: .ref 131 :: .ref 132 :: .ref 133 :: .ref 134 :: .int (zI mdm) :: .int (zI mla) :: []))) rfl ?_
                                refine J_touch (k := 116) (e := .inl (0, 1260, .inl (zA f37))) rfl ?_
                                refine J_touch (k := 109) (e := .inl (0, 8, .inl (zA aq_66))) rfl ?_
                                refine J_touch (k := 112) (e := .inl (0, 27720, .inl (zA f33))) rfl ?_
                                refine J_touch (k := 113) (e := .inl (0, 27720, .inl (zA f34))) rfl ?_
                                refine J_touch (k := 114) (e := .inl (0, 1260, .inl (zA f35))) rfl ?_
                                refine J_touch (k := 115) (e := .inl (0, 27720, .inl (zA f36))) rfl ?_
                                refine J_mask (L2 := [(115, .inl (0, 27720, .inl (zA f36))), (114, .inl (0, 1260, .inl (zA f35))), (113, .inl (0, 27720, .inl (zA f34))), (112, .inl (0, 27720, .inl (zA f33))), (109, .inl (0, 8, .inl (zA aq_66))), (116, .inl (0, 1260, .inl (zA f37))), (98, .inr (12, (.int (zI ms) :: .int (zI mv) :: .ref 99 :: .ref 100 :: .ref 101 :: .ref 102 :: .ref 103 :: .ref 104 :: .ref 105 :: .int (zI mt) :: .int (zI mfa) :: .ref 106 :: .ref 107 :: .ref 108 :: .int (zI mtn) :: .int (zI mtk) :: .int (zI mlv) :: .int (zI mbd) :: .int (zI go_66) :: .int (zI ge_66) :: .int (zI bk_66) :: .ref 109 :: .int (zI tt_66) :: .int (zI tl_66) :: .ref 110 :: .ref 111 :: .ref 112 :: .ref 113 :: .ref 114 :: .ref 115 :: .ref 116 :: .ref 117 :: .int (zI z1) :: .int (zI z2) :: .int (zI z3) :: .int (zI mv) :: .ref 118 :: .ref 119 :: .ref 120 :: .ref 121 :: .ref 122 :: .ref 123 :: .ref 124 :: .ref 125 :: .ref 126 :: .ref 127 :: .ref 128 :: .ref 129 :: .int (zI mfu) :: .ref 130 :: .ref 131 :: .ref 132 :: .ref 133 :: .ref 134 :: .int (zI mdm) :: .int (zI mla) :: []))), (110, .inl (0, 8820, .inl (zA f4))), (111, .inl (0, 1260, .inl (zA f5))), (117, .inl (0, 7, .inl (zA o_182)))]) (ks := [115, 114, 113, 112, 109, 116, 98, 110, 111, 117, 112, 113, 114, 115, 116, 109, 98, 110, 111, 117]) [true, true, true, true, true, true, true, true, true, true, false, false, false, false, false, false, false, false, false, false] rfl (by decide +kernel) rfl ?_
                                refine J_drop (ls2 := [some (.ref 98), some (.int (zI (h_49 + 1))), none, none]) [true, true, false, false] rfl ?_
                                exact ih49 (h_49 + 1) go_66 ge_66 bk_66 tt_66 tl_66 aq_66 f33 f34 f35 f36 f37 o_182 (v_da458fa48a i49_0) (v_e390a36114 h18) h38 i66_3 i66_4 i66_5 i182_2 (meas_lt v_90eacd6fd4 (v_8b7dd7d486 h18) hm49)
                              · refine J_aload_n dX12_looks_190 rfl rfl ?_
                                refine J_get (v := .ref 117) dX12_looks_191 fl_X12_76 rfl rfl ?_
                                refine J_iload_n dX12_looks_194 rfl rfl ?_
                                refine J_aload_n dX12_looks_195 rfl rfl ?_
                                refine J_iload_n dX12_looks_196 rfl rfl ?_
                                refine J_iload_n dX12_looks_197 rfl rfl ?_
                                refine Z_iconst (n := 1) dX12_looks_198 ?_
                                refine Z_iadd (c := k_182 + 1) dX12_looks_199 rfl ?_
                                refine J_aload_n dX12_looks_200 rfl rfl ?_
                                refine J_get (v := .int (zI z2)) dX12_looks_201 fl_X12_293 rfl rfl ?_
                                refine Z_irem dX12_looks_204 (v_22414a4ebf h14 i182_0 h25) (v_2ee1de483d h13 h14) (v_cd93c65d7d i182_0) (v_06937fa40d h13 h24) ?_
                                obtain ⟨z40, ez40⟩ : ∃ z : Int, (k_182 + 1) % z2 = z := ⟨_, rfl⟩
                                rw [ez40]
                                have h41 : 0 ≤ z40 ∧ z40 < z2 := md_lem ez40 (v_06937fa40d h13 h24)
                                refine J_callV (st := [.int (zI k_182), .ref 117]) dX12_looks_205 cv_X12_290 (k_colourOf h_49 z40 f4 ms mv mt mfa mtn mtk mlv mbd go_66 ge_66 bk_66 tt_66 tl_66 z1 z2 z3 mv mfu mdm mla i49_0 (v_610e7c4416 h12 h18) h41.1 (v_77953abf68 h14 h41.2) rfl rfl) rfl rfl rfl (Nat.le_of_ble_eq_true rfl) ⟨(Nat.le_of_ble_eq_true rfl), (Nat.le_of_ble_eq_true rfl)⟩ ⟨(Nat.le_of_ble_eq_true rfl), (Nat.le_of_ble_eq_true rfl)⟩ (fun r h9 hp => ?_)
                                obtain ⟨z42, rfl, rfl, h43⟩ := hp
                                refine J_nf (nh2 := nh) (ck2 := 0) (sk2 := 0) (st2 := [.int (zI z42), .int (zI k_182), .ref 117]) rfl rfl rfl rfl ?_
                                have grc := HouT.col (h := h_49) (j := z40) h9 q0.1 h7 (v_2b02420001 i49_0) (v_fe9ea41faa h18) (v_2b02420001 h41.1) (v_d7c2909a09 h8 h41.2) ((congrArg f4 (by omega)).trans h43)
                                refine Y_iast (v := z42) 7 dX12_looks_208 rfl rfl (by decide) (v_2b02420001 i182_0) (v_3549d48a69 h14 h25) (fun f44 ef44 => ?_)
                                have h45 : Rg f44 7 0 4 := Rg.ups i182_2 ef44 (v_2b02420001 grc.2.1) (v_77407988c7 grc.2.2)
                                refine Z_iinc (c := k_182 + 1) (ls2 := [some (.ref 98), some (.int (zI h_49)), some (.int (zI (k_182 + 1))), none]) dX12_looks_209 rfl (Nat.le_of_ble_eq_true rfl) rfl rfl rfl ?_
                                refine J_goto (tgt := 182) dX12_looks_212 (by decide) ?_
                                refine J_mask (L2 := [(117, .inl (0, 7, .inl (zA f44))), (114, .inl (0, 1260, .inl (zA sm_66))), (115, .inl (0, 27720, .inl (zA cf_66))), (113, .inl (0, 27720, .inl (zA tk_66))), (112, .inl (0, 27720, .inl (zA st_66))), (109, .inl (0, 8, .inl (zA aq_66))), (116, .inl (0, 1260, .inl (zA cm_66))), (98, .inr (12, (.int (zI ms) :: .int (zI mv) :: .ref 99 :: .ref 100 :: .ref 101 :: .ref 102 :: .ref 103 :: .ref 104 :: .ref 105 :: .int (zI mt) :: .int (zI mfa) :: .ref 106 :: .ref 107 :: .ref 108 :: .int (zI mtn) :: .int (zI mtk) :: .int (zI mlv) :: .int (zI mbd) :: .int (zI go_66) :: .int (zI ge_66) :: .int (zI bk_66) :: .ref 109 :: .int (zI tt_66) :: .int (zI tl_66) :: .ref 110 :: .ref 111 :: .ref 112 :: .ref 113 :: .ref 114 :: .ref 115 :: .ref 116 :: .ref 117 :: .int (zI z1) :: .int (zI z2) :: .int (zI z3) :: .int (zI mv) :: .ref 118 :: .ref 119 :: .ref 120 :: .ref 121 :: .ref 122 :: .ref 123 :: .ref 124 :: .ref 125 :: .ref 126 :: .ref 127 :: .ref 128 :: .ref 129 :: .int (zI mfu) :: .ref 130 :: .ref 131 :: .ref 132 :: .ref 133 :: .ref 134 :: .int (zI mdm) :: .int (zI mla) :: []))), (110, .inl (0, 8820, .inl (zA f4))), (111, .inl (0, 1260, .inl (zA f5)))]) (ks := [117, 114, 115, 113, 112, 109, 116, 98, 110, 111, 117]) [true, true, true, true, true, true, true, true, true, true, false] rfl (by decide +kernel) rfl ?_
                                refine J_touch (k := 117) (e := .inl (0, 7, .inl (zA f44))) rfl ?_
                                refine J_touch (k := 111) (e := .inl (0, 1260, .inl (zA f5))) rfl ?_
                                refine J_touch (k := 110) (e := .inl (0, 8820, .inl (zA f4))) rfl ?_
                                refine J_touch (k := 98) (e := .inr (12, (.int (zI ms) :: .int (zI mv) :: .ref 99 :: .ref 100 :: .ref 101 :: .ref 102 :: .ref 103 :: .ref 104 :: .ref 105 :: .int (zI mt) :: .int (zI mfa) :: .ref 106 :: .ref 107 :: .ref 108 :: .int (zI mtn) :: .int (zI mtk) :: .int (zI mlv) :: .int (zI mbd) :: .int (zI go_66) :: .int (zI ge_66) :: .int (zI bk_66) :: .ref 109 :: .int (zI tt_66) :: .int (zI tl_66) :: .ref 110 :: .ref 111 :: .ref 112 :: .ref 113 :: .ref 114 :: .ref 115 :: .ref 116 :: .ref 117 :: .int (zI z1) :: .int (zI z2) :: .int (zI z3) :: .int (zI mv) :: .ref 118 :: .ref 119 :: .ref 120 :: .ref 121 :: .ref 122 :: .ref 123 :: .ref 124 :: .ref 125 :: .ref 126 :: .ref 127 :: .ref 128 :: .ref 129 :: .int (zI mfu) :: .ref 130 :: .ref 131 :: .ref 132 :: .ref 133 :: .ref 134 :: .int (zI mdm) :: .int (zI mla) :: []))) rfl ?_
                                refine J_touch (k := 116) (e := .inl (0, 1260, .inl (zA cm_66))) rfl ?_
                                refine J_touch (k := 109) (e := .inl (0, 8, .inl (zA aq_66))) rfl ?_
                                refine J_touch (k := 112) (e := .inl (0, 27720, .inl (zA st_66))) rfl ?_
                                refine J_touch (k := 113) (e := .inl (0, 27720, .inl (zA tk_66))) rfl ?_
                                refine J_touch (k := 115) (e := .inl (0, 27720, .inl (zA cf_66))) rfl ?_
                                refine J_touch (k := 114) (e := .inl (0, 1260, .inl (zA sm_66))) rfl ?_
                                refine J_mask (L2 := [(114, .inl (0, 1260, .inl (zA sm_66))), (115, .inl (0, 27720, .inl (zA cf_66))), (113, .inl (0, 27720, .inl (zA tk_66))), (112, .inl (0, 27720, .inl (zA st_66))), (109, .inl (0, 8, .inl (zA aq_66))), (116, .inl (0, 1260, .inl (zA cm_66))), (98, .inr (12, (.int (zI ms) :: .int (zI mv) :: .ref 99 :: .ref 100 :: .ref 101 :: .ref 102 :: .ref 103 :: .ref 104 :: .ref 105 :: .int (zI mt) :: .int (zI mfa) :: .ref 106 :: .ref 107 :: .ref 108 :: .int (zI mtn) :: .int (zI mtk) :: .int (zI mlv) :: .int (zI mbd) :: .int (zI go_66) :: .int (zI ge_66) :: .int (zI bk_66) :: .ref 109 :: .int (zI tt_66) :: .int (zI tl_66) :: .ref 110 :: .ref 111 :: .ref 112 :: .ref 113 :: .ref 114 :: .ref 115 :: .ref 116 :: .ref 117 :: .int (zI z1) :: .int (zI z2) :: .int (zI z3) :: .int (zI mv) :: .ref 118 :: .ref 119 :: .ref 120 :: .ref 121 :: .ref 122 :: .ref 123 :: .ref 124 :: .ref 125 :: .ref 126 :: .ref 127 :: .ref 128 :: .ref 129 :: .int (zI mfu) :: .ref 130 :: .ref 131 :: .ref 132 :: .ref 133 :: .ref 134 :: .int (zI mdm) :: .int (zI mla) :: []))), (110, .inl (0, 8820, .inl (zA f4))), (111, .inl (0, 1260, .inl (zA f5))), (117, .inl (0, 7, .inl (zA f44)))]) (ks := [114, 115, 113, 112, 109, 116, 98, 110, 111, 117, 117, 114, 115, 113, 112, 109, 116, 98, 110, 111]) [true, true, true, true, true, true, true, true, true, true, false, false, false, false, false, false, false, false, false, false] rfl (by decide +kernel) rfl ?_
                                exact ih182 (k_182 + 1) f44 (v_da458fa48a i182_0) (v_e390a36114 h25) h45 (RotT.push i182_3 ef44 (by rw [ez40]; exact grc.1)) (meas_lt v_90eacd6fd4 (v_8b7dd7d486 h25) hm182)
                          exact lp182 _ 0 o_66 v_939070ca3f h13 i66_6 (RotT_0) (Nat.lt_succ_self _)
                        · refine J_goto (tgt := 229) dX12_looks_177 (by decide) ?_
                          refine Z_iinc (c := h_49 + 1) (ls2 := [some (.ref 98), some (.int (zI (h_49 + 1))), some (.int (zI a_66)), none]) dX12_looks_229 rfl (Nat.le_of_ble_eq_true rfl) rfl rfl rfl ?_
                          refine J_goto (tgt := 49) dX12_looks_232 (by decide) ?_
                          refine J_touch (k := 117) (e := .inl (0, 7, .inl (zA o_66))) rfl ?_
                          refine J_touch (k := 111) (e := .inl (0, 1260, .inl (zA f5))) rfl ?_
                          refine J_touch (k := 110) (e := .inl (0, 8820, .inl (zA f4))) rfl ?_
                          refine J_touch (k := 98) (e := .inr (12, (.int (zI ms) :: .int (zI mv) :: .ref 99 :: .ref 100 :: .ref 101 :: .ref 102 :: .ref 103 :: .ref 104 :: .ref 105 :: .int (zI mt) :: .int (zI mfa) :: .ref 106 :: .ref 107 :: .ref 108 :: .int (zI mtn) :: .int (zI mtk) :: .int (zI mlv) :: .int (zI mbd) :: .int (zI go_66) :: .int (zI ge_66) :: .int (zI bk_66) :: .ref 109 :: .int (zI tt_66) :: .int (zI tl_66) :: .ref 110 :: .ref 111 :: .ref 112 :: .ref 113 :: .ref 114 :: .ref 115 :: .ref 116 :: .ref 117 :: .int (zI z1) :: .int (zI z2) :: .int (zI z3) :: .int (zI mv) :: .ref 118 :: .ref 119 :: .ref 120 :: .ref 121 :: .ref 122 :: .ref 123 :: .ref 124 :: .ref 125 :: .ref 126 :: .ref 127 :: .ref 128 :: .ref 129 :: .int (zI mfu) :: .ref 130 :: .ref 131 :: .ref 132 :: .ref 133 :: .ref 134 :: .int (zI mdm) :: .int (zI mla) :: []))) rfl ?_
                          refine J_touch (k := 116) (e := .inl (0, 1260, .inl (zA cm_66))) rfl ?_
                          refine J_touch (k := 109) (e := .inl (0, 8, .inl (zA aq_66))) rfl ?_
                          refine J_touch (k := 112) (e := .inl (0, 27720, .inl (zA st_66))) rfl ?_
                          refine J_touch (k := 113) (e := .inl (0, 27720, .inl (zA tk_66))) rfl ?_
                          refine J_touch (k := 114) (e := .inl (0, 1260, .inl (zA sm_66))) rfl ?_
                          refine J_touch (k := 115) (e := .inl (0, 27720, .inl (zA cf_66))) rfl ?_
                          refine J_mask (L2 := [(115, .inl (0, 27720, .inl (zA cf_66))), (114, .inl (0, 1260, .inl (zA sm_66))), (113, .inl (0, 27720, .inl (zA tk_66))), (112, .inl (0, 27720, .inl (zA st_66))), (109, .inl (0, 8, .inl (zA aq_66))), (116, .inl (0, 1260, .inl (zA cm_66))), (98, .inr (12, (.int (zI ms) :: .int (zI mv) :: .ref 99 :: .ref 100 :: .ref 101 :: .ref 102 :: .ref 103 :: .ref 104 :: .ref 105 :: .int (zI mt) :: .int (zI mfa) :: .ref 106 :: .ref 107 :: .ref 108 :: .int (zI mtn) :: .int (zI mtk) :: .int (zI mlv) :: .int (zI mbd) :: .int (zI go_66) :: .int (zI ge_66) :: .int (zI bk_66) :: .ref 109 :: .int (zI tt_66) :: .int (zI tl_66) :: .ref 110 :: .ref 111 :: .ref 112 :: .ref 113 :: .ref 114 :: .ref 115 :: .ref 116 :: .ref 117 :: .int (zI z1) :: .int (zI z2) :: .int (zI z3) :: .int (zI mv) :: .ref 118 :: .ref 119 :: .ref 120 :: .ref 121 :: .ref 122 :: .ref 123 :: .ref 124 :: .ref 125 :: .ref 126 :: .ref 127 :: .ref 128 :: .ref 129 :: .int (zI mfu) :: .ref 130 :: .ref 131 :: .ref 132 :: .ref 133 :: .ref 134 :: .int (zI mdm) :: .int (zI mla) :: []))), (110, .inl (0, 8820, .inl (zA f4))), (111, .inl (0, 1260, .inl (zA f5))), (117, .inl (0, 7, .inl (zA o_66)))]) (ks := [115, 114, 113, 112, 109, 116, 98, 110, 111, 117, 114, 115, 113, 112, 109, 116, 98, 110, 111, 117]) [true, true, true, true, true, true, true, true, true, true, false, false, false, false, false, false, false, false, false, false] rfl (by decide +kernel) rfl ?_
                          refine J_drop (ls2 := [some (.ref 98), some (.int (zI (h_49 + 1))), none, none]) [true, true, false, false] rfl ?_
                          exact ih49 (h_49 + 1) go_66 ge_66 bk_66 tt_66 tl_66 aq_66 st_66 tk_66 sm_66 cf_66 cm_66 o_66 (v_da458fa48a i49_0) (v_e390a36114 h18) i66_2 i66_3 i66_4 i66_5 i66_6 (meas_lt v_90eacd6fd4 (v_8b7dd7d486 h18) hm49)
                    · refine J_iload_n dX12_looks_74 rfl rfl ?_
                      refine Z_iconst (n := 1) dX12_looks_75 ?_
                      refine Z_iadd (c := a_66 + 1) dX12_looks_76 rfl ?_
                      refine J_istore_n dX12_looks_77 rfl (Nat.le_of_ble_eq_true rfl) rfl ?_
                      refine J_ls (ls2 := [some (.ref 98), some (.int (zI h_49)), some (.int (zI a_66)), some (.int (zI (a_66 + 1)))]) rfl ?_
                      have lp78 : ∀ (N78 : Nat) (b_78 : Int) (go_78 : Int) (ge_78 : Int) (bk_78 : Int) (tt_78 : Int) (tl_78 : Int) (aq_78 : Int → Int) (st_78 : Int → Int) (tk_78 : Int → Int) (sm_78 : Int → Int) (cf_78 : Int → Int) (cm_78 : Int → Int) (o_78 : Int → Int), (a_66 < b_78) → (b_78 ≤ z2) → (LkI K st_78 tk_78 sm_78 cf_78 cm_78 (h_49 + 1) z1) → (0 ≤ bk_78) → (bk_78 ≤ 1) → (Rg aq_78 8 (-2147483648) 2147483647) → (Rg o_78 7 0 4) → (sm_78 h_49 ≤ prp a_66 + (b_78 - a_66 - 1)) → (z2 - b_78).toNat < N78 → J l G MX12_looks { frames := 42, cells := 0, slots := 0, locals := 995 } jE (jMQ G { frames := 42, cells := 0, slots := 0, locals := 995 } (fun rr h9 => ∃ hm2 : Int, ∃ pm2 : Int, ∃ hb2 : Int, ∃ co2 : Int → Int, ∃ cd2 : Int → Int, ∃ of2 : Int → Int, ∃ sb2 : Int, ∃ st2 : Int → Int, ∃ tk2 : Int → Int, ∃ sm2 : Int → Int, ∃ cf2 : Int → Int, ∃ cm2 : Int → Int, ∃ aq2 : Int → Int, ∃ go2 : Int, ∃ ge2 : Int, ∃ bk2 : Int, ∃ tt2 : Int, ∃ tl2 : Int, rr = none ∧ h9 = (nh, hc fh [(98, .inr (12, (.int (zI ms) :: .int (zI mv) :: .ref 99 :: .ref 100 :: .ref 101 :: .ref 102 :: .ref 103 :: .ref 104 :: .ref 105 :: .int (zI mt) :: .int (zI mfa) :: .ref 106 :: .ref 107 :: .ref 108 :: .int (zI mtn) :: .int (zI mtk) :: .int (zI mlv) :: .int (zI mbd) :: .int (zI go2) :: .int (zI ge2) :: .int (zI bk2) :: .ref 109 :: .int (zI tt2) :: .int (zI tl2) :: .ref 110 :: .ref 111 :: .ref 112 :: .ref 113 :: .ref 114 :: .ref 115 :: .ref 116 :: .ref 117 :: .int (zI hm2) :: .int (zI pm2) :: .int (zI hb2) :: .int (zI sb2) :: .ref 118 :: .ref 119 :: .ref 120 :: .ref 121 :: .ref 122 :: .ref 123 :: .ref 124 :: .ref 125 :: .ref 126 :: .ref 127 :: .ref 128 :: .ref 129 :: .int (zI mfu) :: .ref 130 :: .ref 131 :: .ref 132 :: .ref 133 :: .ref 134 :: .int (zI mdm) :: .int (zI mla) :: []))), (110, .inl (0, 8820, .inl (zA co2))), (111, .inl (0, 1260, .inl (zA cd2))), (117, .inl (0, 7, .inl (zA of2))), (112, .inl (0, 27720, .inl (zA st2))), (113, .inl (0, 27720, .inl (zA tk2))), (114, .inl (0, 1260, .inl (zA sm2))), (115, .inl (0, 27720, .inl (zA cf2))), (116, .inl (0, 1260, .inl (zA cm2))), (109, .inl (0, 8, .inl (zA aq2)))]) ∧ (hm2 = Hi K) ∧ (pm2 = bsum K) ∧ (HouT co2 cd2 K hm2) ∧ (Rg of2 7 0 4) ∧ (1 ≤ hm2) ∧ (hm2 ≤ 1260) ∧ (0 ≤ pm2) ∧ (pm2 ≤ 7) ∧ (hb2 = mv) ∧ (sb2 = mv) ∧ (StM st2 tk2 sm2 hm2) ∧ (CoM cf2 cm2 st2 sm2 hm2) ∧ (0 ≤ bk2) ∧ (bk2 ≤ 1) ∧ (Rg aq2 8 (-2147483648) 2147483647))) (nh, hc fh [(114, .inl (0, 1260, .inl (zA sm_78))), (115, .inl (0, 27720, .inl (zA cf_78))), (113, .inl (0, 27720, .inl (zA tk_78))), (112, .inl (0, 27720, .inl (zA st_78))), (109, .inl (0, 8, .inl (zA aq_78))), (116, .inl (0, 1260, .inl (zA cm_78))), (98, .inr (12, (.int (zI ms) :: .int (zI mv) :: .ref 99 :: .ref 100 :: .ref 101 :: .ref 102 :: .ref 103 :: .ref 104 :: .ref 105 :: .int (zI mt) :: .int (zI mfa) :: .ref 106 :: .ref 107 :: .ref 108 :: .int (zI mtn) :: .int (zI mtk) :: .int (zI mlv) :: .int (zI mbd) :: .int (zI go_78) :: .int (zI ge_78) :: .int (zI bk_78) :: .ref 109 :: .int (zI tt_78) :: .int (zI tl_78) :: .ref 110 :: .ref 111 :: .ref 112 :: .ref 113 :: .ref 114 :: .ref 115 :: .ref 116 :: .ref 117 :: .int (zI z1) :: .int (zI z2) :: .int (zI z3) :: .int (zI mv) :: .ref 118 :: .ref 119 :: .ref 120 :: .ref 121 :: .ref 122 :: .ref 123 :: .ref 124 :: .ref 125 :: .ref 126 :: .ref 127 :: .ref 128 :: .ref 129 :: .int (zI mfu) :: .ref 130 :: .ref 131 :: .ref 132 :: .ref 133 :: .ref 134 :: .int (zI mdm) :: .int (zI mla) :: []))), (110, .inl (0, 8820, .inl (zA f4))), (111, .inl (0, 1260, .inl (zA f5))), (117, .inl (0, 7, .inl (zA o_78)))]) 0 0 78 [some (.ref 98), some (.int (zI h_49)), some (.int (zI a_66)), some (.int (zI b_78))] [] := by
                        intro N78
                        induction N78 with
                        | zero => intro b_78 go_78 ge_78 bk_78 tt_78 tl_78 aq_78 st_78 tk_78 sm_78 cf_78 cm_78 o_78 i78_0 i78_1 i78_2 i78_3 i78_4 i78_5 i78_6 i78_7 hm; exact absurd hm (Nat.not_lt_zero _)
                        | succ N78 ih78 =>
                          intro b_78 go_78 ge_78 bk_78 tt_78 tl_78 aq_78 st_78 tk_78 sm_78 cf_78 cm_78 o_78 i78_0 i78_1 i78_2 i78_3 i78_4 i78_5 i78_6 i78_7 hm78
                          refine J_iload_n dX12_looks_78 rfl rfl ?_
                          refine J_aload_n dX12_looks_79 rfl rfl ?_
                          refine J_get (v := .int (zI z2)) dX12_looks_80 fl_X12_293 rfl rfl ?_
                          refine Z_icmp_ge (tgt := 155) dX12_looks_83 (by decide) (v_26b4cfe68b h14 i66_0 i78_0 i78_1) (v_2ee1de483d h13 h14) (fun h46 => ?_) (fun h46 => ?_)
                          · refine Z_iinc (c := a_66 + 1) (ls2 := [some (.ref 98), some (.int (zI h_49)), some (.int (zI (a_66 + 1))), some (.int (zI b_78))]) dX12_looks_155 rfl (Nat.le_of_ble_eq_true rfl) rfl rfl rfl ?_
                            refine J_goto (tgt := 66) dX12_looks_158 (by decide) ?_
                            refine J_drop (ls2 := [some (.ref 98), some (.int (zI h_49)), some (.int (zI (a_66 + 1))), none]) [true, true, true, false] rfl ?_
                            exact ih66 (a_66 + 1) go_78 ge_78 bk_78 tt_78 tl_78 aq_78 st_78 tk_78 sm_78 cf_78 cm_78 o_78 (v_da458fa48a i66_0) (v_e390a36114 h20) i78_2 i78_3 i78_4 i78_5 i78_6 (prp_next i66_0 (v_fe9ea41faa h20) (v_dc59a041dc h14) (by rw [← (v_9b8f42b01e i78_1 h46)]; exact i78_7)) (meas_lt v_90eacd6fd4 (v_8b7dd7d486 h20) hm66)
                          · refine J_aload_n dX12_looks_86 rfl rfl ?_
                            refine J_iload_n dX12_looks_87 rfl rfl ?_
                            refine J_iload_n dX12_looks_88 rfl rfl ?_
                            refine J_callV (st := []) dX12_looks_89 cv_X12_290 (k_colourOf h_49 a_66 f4 ms mv mt mfa mtn mtk mlv mbd go_78 ge_78 bk_78 tt_78 tl_78 z1 z2 z3 mv mfu mdm mla i49_0 (v_610e7c4416 h12 h18) i66_0 (v_3549d48a69 h14 h20) rfl rfl) rfl rfl rfl (Nat.le_of_ble_eq_true rfl) ⟨(Nat.le_of_ble_eq_true rfl), (Nat.le_of_ble_eq_true rfl)⟩ ⟨(Nat.le_of_ble_eq_true rfl), (Nat.le_of_ble_eq_true rfl)⟩ (fun r h9 hp => ?_)
                            obtain ⟨z47, rfl, rfl, h48⟩ := hp
                            refine J_nf (nh2 := nh) (ck2 := 0) (sk2 := 0) (st2 := [.int (zI z47)]) rfl rfl rfl rfl ?_
                            have g49 := HouT.col (h := h_49) (j := a_66) h9 q0.1 h7 (v_2b02420001 i49_0) (v_fe9ea41faa h18) (v_2b02420001 i66_0) (v_b7686aa830 h8 h20) ((congrArg f4 (by omega)).trans h48)
                            refine J_aload_n dX12_looks_92 rfl rfl ?_
                            refine J_iload_n dX12_looks_93 rfl rfl ?_
                            refine J_iload_n dX12_looks_94 rfl rfl ?_
                            refine J_callV (st := [.int (zI z47)]) dX12_looks_95 cv_X12_290 (k_colourOf h_49 b_78 f4 ms mv mt mfa mtn mtk mlv mbd go_78 ge_78 bk_78 tt_78 tl_78 z1 z2 z3 mv mfu mdm mla i49_0 (v_610e7c4416 h12 h18) (v_156421639c i66_0 i78_0) (v_3549d48a69 h14 h46) rfl rfl) rfl rfl rfl (Nat.le_of_ble_eq_true rfl) ⟨(Nat.le_of_ble_eq_true rfl), (Nat.le_of_ble_eq_true rfl)⟩ ⟨(Nat.le_of_ble_eq_true rfl), (Nat.le_of_ble_eq_true rfl)⟩ (fun r h9 hp => ?_)
                            obtain ⟨z50, rfl, rfl, h51⟩ := hp
                            refine J_nf (nh2 := nh) (ck2 := 0) (sk2 := 0) (st2 := [.int (zI z50), .int (zI z47)]) rfl rfl rfl rfl ?_
                            have g52 := HouT.col (h := h_49) (j := b_78) h9 q0.1 h7 (v_2b02420001 i49_0) (v_fe9ea41faa h18) (v_156421639c i66_0 i78_0) (v_b7686aa830 h8 h46) ((congrArg f4 (by omega)).trans h51)
                            refine Z_icmp_ne (tgt := 104) dX12_looks_98 (by decide) (v_573cdf4e23 g49.2.1 g49.2.2) (v_573cdf4e23 g52.2.1 g52.2.2) (fun h53 => ?_) (fun h53 => ?_)
                            · refine J_aload_n dX12_looks_104 rfl rfl ?_
                              refine J_iload_n dX12_looks_105 rfl rfl ?_
                              refine J_iload_n dX12_looks_106 rfl rfl ?_
                              refine J_iload_n dX12_looks_107 rfl rfl ?_
                              refine J_callV (st := []) dX12_looks_108 cv_X12_312 (k_asksOf h_49 a_66 b_78 ms mv mt mfa mtn mtk mlv mbd go_78 ge_78 bk_78 tt_78 tl_78 z1 z2 z3 mv mfu mdm mla K f4 f5 o_78 aq_78 i49_0 (v_fe9ea41faa h18) i66_0 i78_0 (v_fe9ea41faa h46) i78_3 i78_4 q0.2.2.2.2.2.2.2.1.1 q0.2.2.2.2.2.2.2.1.2 q0.2.2.2.2.2.2.1.1 q0.2.2.2.2.2.2.1.2 q0.2.2.2.2.2.2.2.2.2 q0.2.2.2.2.2.2.2.2.1 i78_5 q0.1 h7 h8 h9 i78_6 h11 h12 h13 h14 rfl hk100 rfl rfl rfl rfl) rfl rfl rfl (Nat.le_of_ble_eq_true rfl) ⟨(Nat.le_of_ble_eq_true rfl), (Nat.le_of_ble_eq_true rfl)⟩ ⟨(Nat.le_of_ble_eq_true rfl), (Nat.le_of_ble_eq_true rfl)⟩ (fun r h9 hp => ?_)
                              obtain ⟨z54, z55, z56, z57, z58, f59, rfl, rfl, h60, h61, h62, h63, h64, h65, h66⟩ := hp
                              refine J_nf (nh2 := nh) (ck2 := 0) (sk2 := 0) (st2 := []) rfl rfl rfl rfl ?_
                              refine J_app (L3 := [(98, .inr (12, (.int (zI ms) :: .int (zI mv) :: .ref 99 :: .ref 100 :: .ref 101 :: .ref 102 :: .ref 103 :: .ref 104 :: .ref 105 :: .int (zI mt) :: .int (zI mfa) :: .ref 106 :: .ref 107 :: .ref 108 :: .int (zI mtn) :: .int (zI mtk) :: .int (zI mlv) :: .int (zI mbd) :: .int (zI z54) :: .int (zI z55) :: .int (zI z56) :: .ref 109 :: .int (zI z57) :: .int (zI z58) :: .ref 110 :: .ref 111 :: .ref 112 :: .ref 113 :: .ref 114 :: .ref 115 :: .ref 116 :: .ref 117 :: .int (zI z1) :: .int (zI z2) :: .int (zI z3) :: .int (zI mv) :: .ref 118 :: .ref 119 :: .ref 120 :: .ref 121 :: .ref 122 :: .ref 123 :: .ref 124 :: .ref 125 :: .ref 126 :: .ref 127 :: .ref 128 :: .ref 129 :: .int (zI mfu) :: .ref 130 :: .ref 131 :: .ref 132 :: .ref 133 :: .ref 134 :: .int (zI mdm) :: .int (zI mla) :: []))), (109, .inl (0, 8, .inl (zA f59))), (114, .inl (0, 1260, .inl (zA sm_78))), (115, .inl (0, 27720, .inl (zA cf_78))), (113, .inl (0, 27720, .inl (zA tk_78))), (112, .inl (0, 27720, .inl (zA st_78))), (109, .inl (0, 8, .inl (zA aq_78))), (116, .inl (0, 1260, .inl (zA cm_78))), (98, .inr (12, (.int (zI ms) :: .int (zI mv) :: .ref 99 :: .ref 100 :: .ref 101 :: .ref 102 :: .ref 103 :: .ref 104 :: .ref 105 :: .int (zI mt) :: .int (zI mfa) :: .ref 106 :: .ref 107 :: .ref 108 :: .int (zI mtn) :: .int (zI mtk) :: .int (zI mlv) :: .int (zI mbd) :: .int (zI go_78) :: .int (zI ge_78) :: .int (zI bk_78) :: .ref 109 :: .int (zI tt_78) :: .int (zI tl_78) :: .ref 110 :: .ref 111 :: .ref 112 :: .ref 113 :: .ref 114 :: .ref 115 :: .ref 116 :: .ref 117 :: .int (zI z1) :: .int (zI z2) :: .int (zI z3) :: .int (zI mv) :: .ref 118 :: .ref 119 :: .ref 120 :: .ref 121 :: .ref 122 :: .ref 123 :: .ref 124 :: .ref 125 :: .ref 126 :: .ref 127 :: .ref 128 :: .ref 129 :: .int (zI mfu) :: .ref 130 :: .ref 131 :: .ref 132 :: .ref 133 :: .ref 134 :: .int (zI mdm) :: .int (zI mla) :: []))), (110, .inl (0, 8820, .inl (zA f4))), (111, .inl (0, 1260, .inl (zA f5))), (117, .inl (0, 7, .inl (zA o_78)))]) rfl ?_
                              refine J_mask (L2 := [(98, .inr (12, (.int (zI ms) :: .int (zI mv) :: .ref 99 :: .ref 100 :: .ref 101 :: .ref 102 :: .ref 103 :: .ref 104 :: .ref 105 :: .int (zI mt) :: .int (zI mfa) :: .ref 106 :: .ref 107 :: .ref 108 :: .int (zI mtn) :: .int (zI mtk) :: .int (zI mlv) :: .int (zI mbd) :: .int (zI z54) :: .int (zI z55) :: .int (zI z56) :: .ref 109 :: .int (zI z57) :: .int (zI z58) :: .ref 110 :: .ref 111 :: .ref 112 :: .ref 113 :: .ref 114 :: .ref 115 :: .ref 116 :: .ref 117 :: .int (zI z1) :: .int (zI z2) :: .int (zI z3) :: .int (zI mv) :: .ref 118 :: .ref 119 :: .ref 120 :: .ref 121 :: .ref 122 :: .ref 123 :: .ref 124 :: .ref 125 :: .ref 126 :: .ref 127 :: .ref 128 :: .ref 129 :: .int (zI mfu) :: .ref 130 :: .ref 131 :: .ref 132 :: .ref 133 :: .ref 134 :: .int (zI mdm) :: .int (zI mla) :: []))), (109, .inl (0, 8, .inl (zA f59))), (114, .inl (0, 1260, .inl (zA sm_78))), (115, .inl (0, 27720, .inl (zA cf_78))), (113, .inl (0, 27720, .inl (zA tk_78))), (112, .inl (0, 27720, .inl (zA st_78))), (116, .inl (0, 1260, .inl (zA cm_78))), (110, .inl (0, 8820, .inl (zA f4))), (111, .inl (0, 1260, .inl (zA f5))), (117, .inl (0, 7, .inl (zA o_78)))]) (ks := [98, 109, 114, 115, 113, 112, 109, 116, 98, 110, 111, 117]) [true, true, true, true, true, true, false, true, false, true, true, true] rfl (by decide +kernel) rfl ?_
                              refine J_aload_n dX12_looks_111 rfl rfl ?_
                              refine J_get (v := .int (zI z58)) dX12_looks_112 fl_X12_287 rfl rfl ?_
                              refine Z_if_ne (tgt := 121) dX12_looks_115 (by decide) (v_5f10a759cd h62 h63) (fun h67 => ?_) (fun h67 => ?_)
                              · refine J_aload_n dX12_looks_121 rfl rfl ?_
                                refine J_iload_n dX12_looks_122 rfl rfl ?_
                                refine J_callV (st := []) dX12_looks_123 cv_X12_316 (k_takesOrder h_49 K f4 f5 o_78 ms mv mt mfa mtn mtk mlv mbd z54 z55 z56 z57 z58 z1 z2 z3 mv mfu mdm mla i49_0 (v_fe9ea41faa h18) q0.1 h7 h8 h9 i78_6 h11 h12 h13 h14 rfl hk100 rfl rfl rfl) rfl rfl rfl (Nat.le_of_ble_eq_true rfl) ⟨(Nat.le_of_ble_eq_true rfl), (Nat.le_of_ble_eq_true rfl)⟩ ⟨(Nat.le_of_ble_eq_true rfl), (Nat.le_of_ble_eq_true rfl)⟩ (fun r h9 hp => ?_)
                                obtain ⟨f68, rfl, rfl, h69, h70⟩ := hp
                                refine J_nf (nh2 := nh) (ck2 := 0) (sk2 := 0) (st2 := []) rfl rfl rfl rfl ?_
                                refine J_app (L3 := [(117, .inl (0, 7, .inl (zA f68))), (98, .inr (12, (.int (zI ms) :: .int (zI mv) :: .ref 99 :: .ref 100 :: .ref 101 :: .ref 102 :: .ref 103 :: .ref 104 :: .ref 105 :: .int (zI mt) :: .int (zI mfa) :: .ref 106 :: .ref 107 :: .ref 108 :: .int (zI mtn) :: .int (zI mtk) :: .int (zI mlv) :: .int (zI mbd) :: .int (zI z54) :: .int (zI z55) :: .int (zI z56) :: .ref 109 :: .int (zI z57) :: .int (zI z58) :: .ref 110 :: .ref 111 :: .ref 112 :: .ref 113 :: .ref 114 :: .ref 115 :: .ref 116 :: .ref 117 :: .int (zI z1) :: .int (zI z2) :: .int (zI z3) :: .int (zI mv) :: .ref 118 :: .ref 119 :: .ref 120 :: .ref 121 :: .ref 122 :: .ref 123 :: .ref 124 :: .ref 125 :: .ref 126 :: .ref 127 :: .ref 128 :: .ref 129 :: .int (zI mfu) :: .ref 130 :: .ref 131 :: .ref 132 :: .ref 133 :: .ref 134 :: .int (zI mdm) :: .int (zI mla) :: []))), (109, .inl (0, 8, .inl (zA f59))), (114, .inl (0, 1260, .inl (zA sm_78))), (115, .inl (0, 27720, .inl (zA cf_78))), (113, .inl (0, 27720, .inl (zA tk_78))), (112, .inl (0, 27720, .inl (zA st_78))), (116, .inl (0, 1260, .inl (zA cm_78))), (110, .inl (0, 8820, .inl (zA f4))), (111, .inl (0, 1260, .inl (zA f5))), (117, .inl (0, 7, .inl (zA o_78)))]) rfl ?_
                                refine J_mask (L2 := [(117, .inl (0, 7, .inl (zA f68))), (98, .inr (12, (.int (zI ms) :: .int (zI mv) :: .ref 99 :: .ref 100 :: .ref 101 :: .ref 102 :: .ref 103 :: .ref 104 :: .ref 105 :: .int (zI mt) :: .int (zI mfa) :: .ref 106 :: .ref 107 :: .ref 108 :: .int (zI mtn) :: .int (zI mtk) :: .int (zI mlv) :: .int (zI mbd) :: .int (zI z54) :: .int (zI z55) :: .int (zI z56) :: .ref 109 :: .int (zI z57) :: .int (zI z58) :: .ref 110 :: .ref 111 :: .ref 112 :: .ref 113 :: .ref 114 :: .ref 115 :: .ref 116 :: .ref 117 :: .int (zI z1) :: .int (zI z2) :: .int (zI z3) :: .int (zI mv) :: .ref 118 :: .ref 119 :: .ref 120 :: .ref 121 :: .ref 122 :: .ref 123 :: .ref 124 :: .ref 125 :: .ref 126 :: .ref 127 :: .ref 128 :: .ref 129 :: .int (zI mfu) :: .ref 130 :: .ref 131 :: .ref 132 :: .ref 133 :: .ref 134 :: .int (zI mdm) :: .int (zI mla) :: []))), (109, .inl (0, 8, .inl (zA f59))), (114, .inl (0, 1260, .inl (zA sm_78))), (115, .inl (0, 27720, .inl (zA cf_78))), (113, .inl (0, 27720, .inl (zA tk_78))), (112, .inl (0, 27720, .inl (zA st_78))), (116, .inl (0, 1260, .inl (zA cm_78))), (110, .inl (0, 8820, .inl (zA f4))), (111, .inl (0, 1260, .inl (zA f5)))]) (ks := [117, 98, 109, 114, 115, 113, 112, 116, 110, 111, 117]) [true, true, true, true, true, true, true, true, true, true, false] rfl (by decide +kernel) rfl ?_
                                refine J_aload_n dX12_looks_126 rfl rfl ?_
                                refine J_iload_n dX12_looks_127 rfl rfl ?_
                                refine J_iload_n dX12_looks_128 rfl rfl ?_
                                refine J_callV (st := []) dX12_looks_129 cv_X12_304 (k_changes a_66 b_78 f68 ms mv mt mfa mtn mtk mlv mbd z54 z55 z56 z57 z58 z1 z2 z3 mv mfu mdm mla i66_0 (v_3549d48a69 h14 h20) (v_156421639c i66_0 i78_0) (v_3549d48a69 h14 h46) rfl rfl) rfl rfl rfl (Nat.le_of_ble_eq_true rfl) ⟨(Nat.le_of_ble_eq_true rfl), (Nat.le_of_ble_eq_true rfl)⟩ ⟨(Nat.le_of_ble_eq_true rfl), (Nat.le_of_ble_eq_true rfl)⟩ (fun r h9 hp => ?_)
                                obtain ⟨f71, rfl, rfl, h72⟩ := hp
                                refine J_nf (nh2 := nh) (ck2 := 0) (sk2 := 0) (st2 := []) rfl rfl rfl rfl ?_
                                refine J_app (L3 := [(117, .inl (0, 7, .inl (zA f71))), (117, .inl (0, 7, .inl (zA f68))), (98, .inr (12, (.int (zI ms) :: .int (zI mv) :: .ref 99 :: .ref 100 :: .ref 101 :: .ref 102 :: .ref 103 :: .ref 104 :: .ref 105 :: .int (zI mt) :: .int (zI mfa) :: .ref 106 :: .ref 107 :: .ref 108 :: .int (zI mtn) :: .int (zI mtk) :: .int (zI mlv) :: .int (zI mbd) :: .int (zI z54) :: .int (zI z55) :: .int (zI z56) :: .ref 109 :: .int (zI z57) :: .int (zI z58) :: .ref 110 :: .ref 111 :: .ref 112 :: .ref 113 :: .ref 114 :: .ref 115 :: .ref 116 :: .ref 117 :: .int (zI z1) :: .int (zI z2) :: .int (zI z3) :: .int (zI mv) :: .ref 118 :: .ref 119 :: .ref 120 :: .ref 121 :: .ref 122 :: .ref 123 :: .ref 124 :: .ref 125 :: .ref 126 :: .ref 127 :: .ref 128 :: .ref 129 :: .int (zI mfu) :: .ref 130 :: .ref 131 :: .ref 132 :: .ref 133 :: .ref 134 :: .int (zI mdm) :: .int (zI mla) :: []))), (109, .inl (0, 8, .inl (zA f59))), (114, .inl (0, 1260, .inl (zA sm_78))), (115, .inl (0, 27720, .inl (zA cf_78))), (113, .inl (0, 27720, .inl (zA tk_78))), (112, .inl (0, 27720, .inl (zA st_78))), (116, .inl (0, 1260, .inl (zA cm_78))), (110, .inl (0, 8820, .inl (zA f4))), (111, .inl (0, 1260, .inl (zA f5)))]) rfl ?_
                                refine J_mask (L2 := [(117, .inl (0, 7, .inl (zA f71))), (98, .inr (12, (.int (zI ms) :: .int (zI mv) :: .ref 99 :: .ref 100 :: .ref 101 :: .ref 102 :: .ref 103 :: .ref 104 :: .ref 105 :: .int (zI mt) :: .int (zI mfa) :: .ref 106 :: .ref 107 :: .ref 108 :: .int (zI mtn) :: .int (zI mtk) :: .int (zI mlv) :: .int (zI mbd) :: .int (zI z54) :: .int (zI z55) :: .int (zI z56) :: .ref 109 :: .int (zI z57) :: .int (zI z58) :: .ref 110 :: .ref 111 :: .ref 112 :: .ref 113 :: .ref 114 :: .ref 115 :: .ref 116 :: .ref 117 :: .int (zI z1) :: .int (zI z2) :: .int (zI z3) :: .int (zI mv) :: .ref 118 :: .ref 119 :: .ref 120 :: .ref 121 :: .ref 122 :: .ref 123 :: .ref 124 :: .ref 125 :: .ref 126 :: .ref 127 :: .ref 128 :: .ref 129 :: .int (zI mfu) :: .ref 130 :: .ref 131 :: .ref 132 :: .ref 133 :: .ref 134 :: .int (zI mdm) :: .int (zI mla) :: []))), (109, .inl (0, 8, .inl (zA f59))), (114, .inl (0, 1260, .inl (zA sm_78))), (115, .inl (0, 27720, .inl (zA cf_78))), (113, .inl (0, 27720, .inl (zA tk_78))), (112, .inl (0, 27720, .inl (zA st_78))), (116, .inl (0, 1260, .inl (zA cm_78))), (110, .inl (0, 8820, .inl (zA f4))), (111, .inl (0, 1260, .inl (zA f5)))]) (ks := [117, 117, 98, 109, 114, 115, 113, 112, 116, 110, 111]) [true, false, true, true, true, true, true, true, true, true, true] rfl (by decide +kernel) rfl ?_
                                refine J_aload_n dX12_looks_132 rfl rfl ?_
                                refine J_iload_n dX12_looks_133 rfl rfl ?_
                                refine J_aload_n dX12_looks_134 rfl rfl ?_
                                refine J_aload_n dX12_looks_135 rfl rfl ?_
                                have g73 : Rg f71 7 0 4 := swp_Rg h69 (v_2b02420001 i66_0) (v_3549d48a69 h14 h20) (v_156421639c i66_0 i78_0) (v_3549d48a69 h14 h46) h72
                                refine J_callV (st := [.ref 98, .int (zI h_49), .ref 98]) dX12_looks_136 cv_X12_319 (k_orderCode f71 ms mv mt mfa mtn mtk mlv mbd z54 z55 z56 z57 z58 z1 z2 z3 mv mfu mdm mla h13 h14 rfl rfl) rfl rfl rfl (Nat.le_of_ble_eq_true rfl) ⟨(Nat.le_of_ble_eq_true rfl), (Nat.le_of_ble_eq_true rfl)⟩ ⟨(Nat.le_of_ble_eq_true rfl), (Nat.le_of_ble_eq_true rfl)⟩ (fun r h9 hp => ?_)
                                obtain ⟨z74, rfl, rfl, h75⟩ := hp
                                refine J_nf (nh2 := nh) (ck2 := 0) (sk2 := 0) (st2 := [.int (zI z74), .ref 98, .int (zI h_49), .ref 98]) rfl rfl rfl rfl ?_
                                have g76 := cod5_lim g73 (v_dc59a041dc h14) h75
                                refine J_callV (st := [.int (zI h_49), .ref 98]) dX12_looks_139 cv_X12_162 (k_houseOf z74 K f4 f5 ms mv mt mfa mtn mtk mlv mbd z54 z55 z56 z57 z58 z1 z2 z3 mv mfu mdm mla (v_ae3ec8d5bc g76.1 g76.2) q0.1 h7 h9 h11 h12 rfl hk100 rfl rfl) rfl rfl rfl (Nat.le_of_ble_eq_true rfl) ⟨(Nat.le_of_ble_eq_true rfl), (Nat.le_of_ble_eq_true rfl)⟩ ⟨(Nat.le_of_ble_eq_true rfl), (Nat.le_of_ble_eq_true rfl)⟩ (fun r h9 hp => ?_)
                                obtain ⟨z77, rfl, rfl, h78, h79, h80⟩ := hp
                                refine J_nf (nh2 := nh) (ck2 := 0) (sk2 := 0) (st2 := [.int (zI z77), .int (zI h_49), .ref 98]) rfl rfl rfl rfl ?_
                                have gsw := src_swap (h := h_49) (a := a_66) (b := b_78) h9 q0.1 h7 (v_2b02420001 i49_0) (v_fe9ea41faa h18) h70 (v_2b02420001 i66_0) (v_b9aca61388 i78_0) (v_fe9ea41faa h46) h8 h72 h75 h80
                                have gpl := prp_lim (x := a_66) (r := b_78) (v_2b02420001 i66_0) (v_b9aca61388 i78_0) (v_3549d48a69 h14 h46)
                                refine J_aload_n dX12_looks_142 rfl rfl ?_
                                refine J_get (v := .int (zI z57)) dX12_looks_143 fl_X12_284 rfl rfl ?_
                                refine J_callV (st := []) dX12_looks_146 cv_X12_322 (k_addsStep h_49 z77 z57 K f4 f5 ms mv mt mfa mtn mtk mlv mbd z54 z55 z56 z57 z58 z1 z2 z3 mv mfu mdm mla st_78 tk_78 sm_78 cf_78 cm_78 i49_0 (v_fe9ea41faa h18) gsw.1 h79 h60 h61 gsw.2 i78_2 (v_6ac4eebecf i78_7 gpl) q0.2.1.1 q0.2.1.2 q0.2.2.2.2.2.2.2.2.1 q0.1 h7 h9 h11 h12 rfl hk100 rfl rfl rfl rfl rfl rfl rfl) rfl rfl rfl (Nat.le_of_ble_eq_true rfl) ⟨(Nat.le_of_ble_eq_true rfl), (Nat.le_of_ble_eq_true rfl)⟩ ⟨(Nat.le_of_ble_eq_true rfl), (Nat.le_of_ble_eq_true rfl)⟩ (fun r h9 hp => ?_)
                                obtain ⟨f81, f82, f83, f84, f85, rfl, rfl, h86, h87⟩ := hp
                                refine J_nf (nh2 := nh) (ck2 := 0) (sk2 := 0) (st2 := []) rfl rfl rfl rfl ?_
                                refine J_app (L3 := [(112, .inl (0, 27720, .inl (zA f81))), (113, .inl (0, 27720, .inl (zA f82))), (114, .inl (0, 1260, .inl (zA f83))), (115, .inl (0, 27720, .inl (zA f84))), (116, .inl (0, 1260, .inl (zA f85))), (117, .inl (0, 7, .inl (zA f71))), (98, .inr (12, (.int (zI ms) :: .int (zI mv) :: .ref 99 :: .ref 100 :: .ref 101 :: .ref 102 :: .ref 103 :: .ref 104 :: .ref 105 :: .int (zI mt) :: .int (zI mfa) :: .ref 106 :: .ref 107 :: .ref 108 :: .int (zI mtn) :: .int (zI mtk) :: .int (zI mlv) :: .int (zI mbd) :: .int (zI z54) :: .int (zI z55) :: .int (zI z56) :: .ref 109 :: .int (zI z57) :: .int (zI z58) :: .ref 110 :: .ref 111 :: .ref 112 :: .ref 113 :: .ref 114 :: .ref 115 :: .ref 116 :: .ref 117 :: .int (zI z1) :: .int (zI z2) :: .int (zI z3) :: .int (zI mv) :: .ref 118 :: .ref 119 :: .ref 120 :: .ref 121 :: .ref 122 :: .ref 123 :: .ref 124 :: .ref 125 :: .ref 126 :: .ref 127 :: .ref 128 :: .ref 129 :: .int (zI mfu) :: .ref 130 :: .ref 131 :: .ref 132 :: .ref 133 :: .ref 134 :: .int (zI mdm) :: .int (zI mla) :: []))), (109, .inl (0, 8, .inl (zA f59))), (114, .inl (0, 1260, .inl (zA sm_78))), (115, .inl (0, 27720, .inl (zA cf_78))), (113, .inl (0, 27720, .inl (zA tk_78))), (112, .inl (0, 27720, .inl (zA st_78))), (116, .inl (0, 1260, .inl (zA cm_78))), (110, .inl (0, 8820, .inl (zA f4))), (111, .inl (0, 1260, .inl (zA f5)))]) rfl ?_
                                refine J_mask (L2 := [(112, .inl (0, 27720, .inl (zA f81))), (113, .inl (0, 27720, .inl (zA f82))), (114, .inl (0, 1260, .inl (zA f83))), (115, .inl (0, 27720, .inl (zA f84))), (116, .inl (0, 1260, .inl (zA f85))), (117, .inl (0, 7, .inl (zA f71))), (98, .inr (12, (.int (zI ms) :: .int (zI mv) :: .ref 99 :: .ref 100 :: .ref 101 :: .ref 102 :: .ref 103 :: .ref 104 :: .ref 105 :: .int (zI mt) :: .int (zI mfa) :: .ref 106 :: .ref 107 :: .ref 108 :: .int (zI mtn) :: .int (zI mtk) :: .int (zI mlv) :: .int (zI mbd) :: .int (zI z54) :: .int (zI z55) :: .int (zI z56) :: .ref 109 :: .int (zI z57) :: .int (zI z58) :: .ref 110 :: .ref 111 :: .ref 112 :: .ref 113 :: .ref 114 :: .ref 115 :: .ref 116 :: .ref 117 :: .int (zI z1) :: .int (zI z2) :: .int (zI z3) :: .int (zI mv) :: .ref 118 :: .ref 119 :: .ref 120 :: .ref 121 :: .ref 122 :: .ref 123 :: .ref 124 :: .ref 125 :: .ref 126 :: .ref 127 :: .ref 128 :: .ref 129 :: .int (zI mfu) :: .ref 130 :: .ref 131 :: .ref 132 :: .ref 133 :: .ref 134 :: .int (zI mdm) :: .int (zI mla) :: []))), (109, .inl (0, 8, .inl (zA f59))), (110, .inl (0, 8820, .inl (zA f4))), (111, .inl (0, 1260, .inl (zA f5)))]) (ks := [112, 113, 114, 115, 116, 117, 98, 109, 114, 115, 113, 112, 116, 110, 111]) [true, true, true, true, true, true, true, true, false, false, false, false, false, true, true] rfl (by decide +kernel) rfl ?_
                                refine Z_iinc (c := b_78 + 1) (ls2 := [some (.ref 98), some (.int (zI h_49)), some (.int (zI a_66)), some (.int (zI (b_78 + 1)))]) dX12_looks_149 rfl (Nat.le_of_ble_eq_true rfl) rfl rfl rfl ?_
                                refine J_goto (tgt := 78) dX12_looks_152 (by decide) ?_
                                refine J_touch (k := 117) (e := .inl (0, 7, .inl (zA f71))) rfl ?_
                                refine J_touch (k := 111) (e := .inl (0, 1260, .inl (zA f5))) rfl ?_
                                refine J_touch (k := 110) (e := .inl (0, 8820, .inl (zA f4))) rfl ?_
                                refine J_touch (k := 98) (e := .inr (12, (.int (zI ms) :: .int (zI mv) :: .ref 99 :: .ref 100 :: .ref 101 :: .ref 102 :: .ref 103 :: .ref 104 :: .ref 105 :: .int (zI mt) :: .int (zI mfa) :: .ref 106 :: .ref 107 :: .ref 108 :: .int (zI mtn) :: .int (zI mtk) :: .int (zI mlv) :: .int (zI mbd) :: .int (zI z54) :: .int (zI z55) :: .int (zI z56) :: .ref 109 :: .int (zI z57) :: .int (zI z58) :: .ref 110 :: .ref 111 :: .ref 112 :: .ref 113 :: .ref 114 :: .ref 115 :: .ref 116 :: .ref 117 :: .int (zI z1) :: .int (zI z2) :: .int (zI z3) :: .int (zI mv) :: .ref 118 :: .ref 119 :: .ref 120 :: .ref 121 :: .ref 122 :: .ref 123 :: .ref 124 :: .ref 125 :: .ref 126 :: .ref 127 :: .ref 128 :: .ref 129 :: .int (zI mfu) :: .ref 130 :: .ref 131 :: .ref 132 :: .ref 133 :: .ref 134 :: .int (zI mdm) :: .int (zI mla) :: []))) rfl ?_
                                refine J_touch (k := 116) (e := .inl (0, 1260, .inl (zA f85))) rfl ?_
                                refine J_touch (k := 109) (e := .inl (0, 8, .inl (zA f59))) rfl ?_
                                refine J_touch (k := 112) (e := .inl (0, 27720, .inl (zA f81))) rfl ?_
                                refine J_touch (k := 113) (e := .inl (0, 27720, .inl (zA f82))) rfl ?_
                                refine J_touch (k := 115) (e := .inl (0, 27720, .inl (zA f84))) rfl ?_
                                refine J_touch (k := 114) (e := .inl (0, 1260, .inl (zA f83))) rfl ?_
                                refine J_mask (L2 := [(114, .inl (0, 1260, .inl (zA f83))), (115, .inl (0, 27720, .inl (zA f84))), (113, .inl (0, 27720, .inl (zA f82))), (112, .inl (0, 27720, .inl (zA f81))), (109, .inl (0, 8, .inl (zA f59))), (116, .inl (0, 1260, .inl (zA f85))), (98, .inr (12, (.int (zI ms) :: .int (zI mv) :: .ref 99 :: .ref 100 :: .ref 101 :: .ref 102 :: .ref 103 :: .ref 104 :: .ref 105 :: .int (zI mt) :: .int (zI mfa) :: .ref 106 :: .ref 107 :: .ref 108 :: .int (zI mtn) :: .int (zI mtk) :: .int (zI mlv) :: .int (zI mbd) :: .int (zI z54) :: .int (zI z55) :: .int (zI z56) :: .ref 109 :: .int (zI z57) :: .int (zI z58) :: .ref 110 :: .ref 111 :: .ref 112 :: .ref 113 :: .ref 114 :: .ref 115 :: .ref 116 :: .ref 117 :: .int (zI z1) :: .int (zI z2) :: .int (zI z3) :: .int (zI mv) :: .ref 118 :: .ref 119 :: .ref 120 :: .ref 121 :: .ref 122 :: .ref 123 :: .ref 124 :: .ref 125 :: .ref 126 :: .ref 127 :: .ref 128 :: .ref 129 :: .int (zI mfu) :: .ref 130 :: .ref 131 :: .ref 132 :: .ref 133 :: .ref 134 :: .int (zI mdm) :: .int (zI mla) :: []))), (110, .inl (0, 8820, .inl (zA f4))), (111, .inl (0, 1260, .inl (zA f5))), (117, .inl (0, 7, .inl (zA f71)))]) (ks := [114, 115, 113, 112, 109, 116, 98, 110, 111, 117, 112, 113, 114, 115, 116, 117, 98, 109, 110, 111]) [true, true, true, true, true, true, true, true, true, true, false, false, false, false, false, false, false, false, false, false] rfl (by decide +kernel) rfl ?_
                                exact ih78 (b_78 + 1) z54 z55 z56 z57 z58 f59 f81 f82 f83 f84 f85 f71 (v_d6f53c5707 i78_0) (v_e390a36114 h46) h86 h64 h65 h66 (g73) (by have u := i78_7; have w := h87; omega) (meas_lt v_90eacd6fd4 (v_8b7dd7d486 h46) hm78)
                              · refine J_goto (tgt := 149) dX12_looks_118 (by decide) ?_
                                refine Z_iinc (c := b_78 + 1) (ls2 := [some (.ref 98), some (.int (zI h_49)), some (.int (zI a_66)), some (.int (zI (b_78 + 1)))]) dX12_looks_149 rfl (Nat.le_of_ble_eq_true rfl) rfl rfl rfl ?_
                                refine J_goto (tgt := 78) dX12_looks_152 (by decide) ?_
                                refine J_touch (k := 117) (e := .inl (0, 7, .inl (zA o_78))) rfl ?_
                                refine J_touch (k := 111) (e := .inl (0, 1260, .inl (zA f5))) rfl ?_
                                refine J_touch (k := 110) (e := .inl (0, 8820, .inl (zA f4))) rfl ?_
                                refine J_touch (k := 98) (e := .inr (12, (.int (zI ms) :: .int (zI mv) :: .ref 99 :: .ref 100 :: .ref 101 :: .ref 102 :: .ref 103 :: .ref 104 :: .ref 105 :: .int (zI mt) :: .int (zI mfa) :: .ref 106 :: .ref 107 :: .ref 108 :: .int (zI mtn) :: .int (zI mtk) :: .int (zI mlv) :: .int (zI mbd) :: .int (zI z54) :: .int (zI z55) :: .int (zI z56) :: .ref 109 :: .int (zI z57) :: .int (zI z58) :: .ref 110 :: .ref 111 :: .ref 112 :: .ref 113 :: .ref 114 :: .ref 115 :: .ref 116 :: .ref 117 :: .int (zI z1) :: .int (zI z2) :: .int (zI z3) :: .int (zI mv) :: .ref 118 :: .ref 119 :: .ref 120 :: .ref 121 :: .ref 122 :: .ref 123 :: .ref 124 :: .ref 125 :: .ref 126 :: .ref 127 :: .ref 128 :: .ref 129 :: .int (zI mfu) :: .ref 130 :: .ref 131 :: .ref 132 :: .ref 133 :: .ref 134 :: .int (zI mdm) :: .int (zI mla) :: []))) rfl ?_
                                refine J_touch (k := 116) (e := .inl (0, 1260, .inl (zA cm_78))) rfl ?_
                                refine J_touch (k := 109) (e := .inl (0, 8, .inl (zA f59))) rfl ?_
                                refine J_touch (k := 112) (e := .inl (0, 27720, .inl (zA st_78))) rfl ?_
                                refine J_touch (k := 113) (e := .inl (0, 27720, .inl (zA tk_78))) rfl ?_
                                refine J_touch (k := 115) (e := .inl (0, 27720, .inl (zA cf_78))) rfl ?_
                                refine J_touch (k := 114) (e := .inl (0, 1260, .inl (zA sm_78))) rfl ?_
                                refine J_mask (L2 := [(114, .inl (0, 1260, .inl (zA sm_78))), (115, .inl (0, 27720, .inl (zA cf_78))), (113, .inl (0, 27720, .inl (zA tk_78))), (112, .inl (0, 27720, .inl (zA st_78))), (109, .inl (0, 8, .inl (zA f59))), (116, .inl (0, 1260, .inl (zA cm_78))), (98, .inr (12, (.int (zI ms) :: .int (zI mv) :: .ref 99 :: .ref 100 :: .ref 101 :: .ref 102 :: .ref 103 :: .ref 104 :: .ref 105 :: .int (zI mt) :: .int (zI mfa) :: .ref 106 :: .ref 107 :: .ref 108 :: .int (zI mtn) :: .int (zI mtk) :: .int (zI mlv) :: .int (zI mbd) :: .int (zI z54) :: .int (zI z55) :: .int (zI z56) :: .ref 109 :: .int (zI z57) :: .int (zI z58) :: .ref 110 :: .ref 111 :: .ref 112 :: .ref 113 :: .ref 114 :: .ref 115 :: .ref 116 :: .ref 117 :: .int (zI z1) :: .int (zI z2) :: .int (zI z3) :: .int (zI mv) :: .ref 118 :: .ref 119 :: .ref 120 :: .ref 121 :: .ref 122 :: .ref 123 :: .ref 124 :: .ref 125 :: .ref 126 :: .ref 127 :: .ref 128 :: .ref 129 :: .int (zI mfu) :: .ref 130 :: .ref 131 :: .ref 132 :: .ref 133 :: .ref 134 :: .int (zI mdm) :: .int (zI mla) :: []))), (110, .inl (0, 8820, .inl (zA f4))), (111, .inl (0, 1260, .inl (zA f5))), (117, .inl (0, 7, .inl (zA o_78)))]) (ks := [114, 115, 113, 112, 109, 116, 98, 110, 111, 117, 98, 109, 114, 115, 113, 112, 116, 110, 111, 117]) [true, true, true, true, true, true, true, true, true, true, false, false, false, false, false, false, false, false, false, false] rfl (by decide +kernel) rfl ?_
                                exact ih78 (b_78 + 1) z54 z55 z56 z57 z58 f59 st_78 tk_78 sm_78 cf_78 cm_78 o_78 (v_d6f53c5707 i78_0) (v_e390a36114 h46) i78_2 h64 h65 h66 (i78_6) (by have u := i78_7; omega) (meas_lt v_90eacd6fd4 (v_8b7dd7d486 h46) hm78)
                            · refine J_goto (tgt := 149) dX12_looks_101 (by decide) ?_
                              refine Z_iinc (c := b_78 + 1) (ls2 := [some (.ref 98), some (.int (zI h_49)), some (.int (zI a_66)), some (.int (zI (b_78 + 1)))]) dX12_looks_149 rfl (Nat.le_of_ble_eq_true rfl) rfl rfl rfl ?_
                              refine J_goto (tgt := 78) dX12_looks_152 (by decide) ?_
                              exact ih78 (b_78 + 1) go_78 ge_78 bk_78 tt_78 tl_78 aq_78 st_78 tk_78 sm_78 cf_78 cm_78 o_78 (v_d6f53c5707 i78_0) (v_e390a36114 h46) i78_2 i78_3 i78_4 i78_5 (i78_6) (by have u := i78_7; omega) (meas_lt v_90eacd6fd4 (v_8b7dd7d486 h46) hm78)
                      exact lp78 _ (a_66 + 1) go_66 ge_66 bk_66 tt_66 tl_66 aq_66 st_66 tk_66 sm_66 cf_66 cm_66 o_66 v_97c7d6ad5b (v_e390a36114 h20) i66_2 i66_3 i66_4 i66_5 i66_6 (by have u := i66_7; omega) (Nat.lt_succ_self _)
                exact lp66 _ 0 go_49 ge_49 bk_49 tt_49 tl_49 aq_49 st_49 tk_49 f19 cf_49 cm_49 o_49 v_939070ca3f h13 (LkI.begin i49_2 ef19 rfl rfl) i49_3 i49_4 i49_5 i49_6 (by rw [ef19, up_same, prp_0]; decide) (Nat.lt_succ_self _)
          exact lp49 _ 0 mgo mge mbk mtt mtl aq st tk sm cf cm_26 f6 v_939070ca3f (v_632d2dbe78 h11) (LkI_0 (Rg.mono i26_2 (v_d464d4c634 h17) v_939070ca3f v_939070ca3f)) q9 q10 q11 h10 (Nat.lt_succ_self _)
        · refine J_aload_n dX12_looks_34 rfl rfl ?_
          refine J_get (v := .ref 116) dX12_looks_35 fl_X12_73 rfl rfl ?_
          refine J_iload_n dX12_looks_38 rfl rfl ?_
          refine Z_iconst (n := 0) dX12_looks_39 ?_
          refine Y_iast (v := 0) 1260 dX12_looks_40 rfl rfl (by decide) (v_2b02420001 i26_0) (v_610e7c4416 h12 h17) (fun f88 ef88 => ?_)
          have h89 : Rg f88 (h_26 + 1) 0 0 := Rg.push i26_2 ef88 v_a0572702c4 v_e828b09c4d v_939070ca3f v_939070ca3f
          refine Z_iinc (c := h_26 + 1) (ls2 := [some (.ref 98), some (.int (zI (h_26 + 1))), none, none]) dX12_looks_41 rfl (Nat.le_of_ble_eq_true rfl) rfl rfl rfl ?_
          refine J_goto (tgt := 26) dX12_looks_44 (by decide) ?_
          refine J_mask (L2 := [(116, .inl (0, 1260, .inl (zA f88))), (98, .inr (12, (.int (zI ms) :: .int (zI mv) :: .ref 99 :: .ref 100 :: .ref 101 :: .ref 102 :: .ref 103 :: .ref 104 :: .ref 105 :: .int (zI mt) :: .int (zI mfa) :: .ref 106 :: .ref 107 :: .ref 108 :: .int (zI mtn) :: .int (zI mtk) :: .int (zI mlv) :: .int (zI mbd) :: .int (zI mgo) :: .int (zI mge) :: .int (zI mbk) :: .ref 109 :: .int (zI mtt) :: .int (zI mtl) :: .ref 110 :: .ref 111 :: .ref 112 :: .ref 113 :: .ref 114 :: .ref 115 :: .ref 116 :: .ref 117 :: .int (zI z1) :: .int (zI z2) :: .int (zI z3) :: .int (zI mv) :: .ref 118 :: .ref 119 :: .ref 120 :: .ref 121 :: .ref 122 :: .ref 123 :: .ref 124 :: .ref 125 :: .ref 126 :: .ref 127 :: .ref 128 :: .ref 129 :: .int (zI mfu) :: .ref 130 :: .ref 131 :: .ref 132 :: .ref 133 :: .ref 134 :: .int (zI mdm) :: .int (zI mla) :: []))), (110, .inl (0, 8820, .inl (zA f4))), (111, .inl (0, 1260, .inl (zA f5))), (117, .inl (0, 7, .inl (zA f6)))]) (ks := [116, 116, 98, 110, 111, 117]) [true, false, true, true, true, true] rfl (by decide +kernel) rfl ?_
          exact ih26 (h_26 + 1) f88 (v_da458fa48a i26_0) (v_e390a36114 h17) h89 (meas_lt v_90eacd6fd4 (v_8b7dd7d486 h17) hm26)
    exact lp26 _ 0 cm v_939070ca3f (v_632d2dbe78 h11) (Rg.nil v_939070ca3f) (Nat.lt_succ_self _)
  · refine J_touch (k := 109) (e := .inl (0, 8, .inl (zA aq))) hk109 ?_
    refine J_touch (k := 116) (e := .inl (0, 1260, .inl (zA cm))) hk116 ?_
    refine J_touch (k := 115) (e := .inl (0, 27720, .inl (zA cf))) hk115 ?_
    refine J_touch (k := 114) (e := .inl (0, 1260, .inl (zA sm))) hk114 ?_
    refine J_touch (k := 113) (e := .inl (0, 27720, .inl (zA tk))) hk113 ?_
    refine J_touch (k := 112) (e := .inl (0, 27720, .inl (zA st))) hk112 ?_
    refine J_touch (k := 117) (e := .inl (0, 7, .inl (zA f6))) rfl ?_
    refine J_touch (k := 111) (e := .inl (0, 1260, .inl (zA f5))) rfl ?_
    refine J_touch (k := 110) (e := .inl (0, 8820, .inl (zA f4))) rfl ?_
    refine J_touch (k := 98) (e := .inr (12, (.int (zI ms) :: .int (zI mv) :: .ref 99 :: .ref 100 :: .ref 101 :: .ref 102 :: .ref 103 :: .ref 104 :: .ref 105 :: .int (zI mt) :: .int (zI mfa) :: .ref 106 :: .ref 107 :: .ref 108 :: .int (zI mtn) :: .int (zI mtk) :: .int (zI mlv) :: .int (zI mbd) :: .int (zI mgo) :: .int (zI mge) :: .int (zI mbk) :: .ref 109 :: .int (zI mtt) :: .int (zI mtl) :: .ref 110 :: .ref 111 :: .ref 112 :: .ref 113 :: .ref 114 :: .ref 115 :: .ref 116 :: .ref 117 :: .int (zI z1) :: .int (zI z2) :: .int (zI z3) :: .int (zI sb) :: .ref 118 :: .ref 119 :: .ref 120 :: .ref 121 :: .ref 122 :: .ref 123 :: .ref 124 :: .ref 125 :: .ref 126 :: .ref 127 :: .ref 128 :: .ref 129 :: .int (zI mfu) :: .ref 130 :: .ref 131 :: .ref 132 :: .ref 133 :: .ref 134 :: .int (zI mdm) :: .int (zI mla) :: []))) rfl ?_
    refine J_mask (L2 := [(98, .inr (12, (.int (zI ms) :: .int (zI mv) :: .ref 99 :: .ref 100 :: .ref 101 :: .ref 102 :: .ref 103 :: .ref 104 :: .ref 105 :: .int (zI mt) :: .int (zI mfa) :: .ref 106 :: .ref 107 :: .ref 108 :: .int (zI mtn) :: .int (zI mtk) :: .int (zI mlv) :: .int (zI mbd) :: .int (zI mgo) :: .int (zI mge) :: .int (zI mbk) :: .ref 109 :: .int (zI mtt) :: .int (zI mtl) :: .ref 110 :: .ref 111 :: .ref 112 :: .ref 113 :: .ref 114 :: .ref 115 :: .ref 116 :: .ref 117 :: .int (zI z1) :: .int (zI z2) :: .int (zI z3) :: .int (zI sb) :: .ref 118 :: .ref 119 :: .ref 120 :: .ref 121 :: .ref 122 :: .ref 123 :: .ref 124 :: .ref 125 :: .ref 126 :: .ref 127 :: .ref 128 :: .ref 129 :: .int (zI mfu) :: .ref 130 :: .ref 131 :: .ref 132 :: .ref 133 :: .ref 134 :: .int (zI mdm) :: .int (zI mla) :: []))), (110, .inl (0, 8820, .inl (zA f4))), (111, .inl (0, 1260, .inl (zA f5))), (117, .inl (0, 7, .inl (zA f6))), (112, .inl (0, 27720, .inl (zA st))), (113, .inl (0, 27720, .inl (zA tk))), (114, .inl (0, 1260, .inl (zA sm))), (115, .inl (0, 27720, .inl (zA cf))), (116, .inl (0, 1260, .inl (zA cm))), (109, .inl (0, 8, .inl (zA aq)))]) (ks := [98, 110, 111, 117, 112, 113, 114, 115, 116, 109, 98, 110, 111, 117]) [true, true, true, true, true, true, true, true, true, true, false, false, false, false] rfl (by decide +kernel) rfl ?_
    exact J_vret dX12_looks_15 rfl (Nat.le_of_ble_eq_true rfl) (Nat.le_of_ble_eq_true rfl) ⟨z1, z2, z3, f4, f5, f6, sb, st, tk, sm, cf, cm, aq, mgo, mge, mbk, mtt, mtl, rfl, rfl, h7, h8, h9, h10, h11, h12, h13, h14, h15, h16, (by rw [h7]; exact (q6 (v_6b24684dc2 q8 h16)).1), (by rw [h7]; exact (q6 (v_6b24684dc2 q8 h16)).2), q9, q10, q11⟩
