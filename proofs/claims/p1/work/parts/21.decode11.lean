/-! decode rows -/
theorem dX6_init_41 : decode cX6_init 41 = .ok (.aload_n 0, 1) := by decide +kernel
theorem dX6_init_42 : decode cX6_init 42 = .ok (.sipush 1260, 3) := by decide +kernel
theorem dX6_init_45 : decode cX6_init 45 = .ok (.newarray .int, 2) := by decide +kernel
theorem dX6_init_47 : decode cX6_init 47 = .ok (.putfield 29, 3) := by decide +kernel
theorem dX6_init_5 : decode cX6_init 5 = .ok (.sipush 1260, 3) := by decide +kernel
theorem dX6_init_50 : decode cX6_init 50 = .ok (.aload_n 0, 1) := by decide +kernel
theorem dX6_init_51 : decode cX6_init 51 = .ok (.iconst (-1), 1) := by decide +kernel
theorem dX6_init_52 : decode cX6_init 52 = .ok (.putfield 32, 3) := by decide +kernel
theorem dX6_init_55 : decode cX6_init 55 = .ok (.aload_n 0, 1) := by decide +kernel
theorem dX6_init_56 : decode cX6_init 56 = .ok (.iconst (-1), 1) := by decide +kernel
theorem dX6_init_57 : decode cX6_init 57 = .ok (.putfield 35, 3) := by decide +kernel
theorem dX6_init_60 : decode cX6_init 60 = .ok (.aload_n 0, 1) := by decide +kernel
theorem dX6_init_61 : decode cX6_init 61 = .ok (.iconst (-1), 1) := by decide +kernel
theorem dX6_init_62 : decode cX6_init 62 = .ok (.putfield 38, 3) := by decide +kernel
theorem dX6_init_65 : decode cX6_init 65 = .ok (.aload_n 0, 1) := by decide +kernel
theorem dX6_init_66 : decode cX6_init 66 = .ok (.aload_n 1, 1) := by decide +kernel
theorem dX6_init_67 : decode cX6_init 67 = .ok (.putfield 41, 3) := by decide +kernel
theorem dX6_init_70 : decode cX6_init 70 = .ok (.aload_n 0, 1) := by decide +kernel
theorem dX6_init_71 : decode cX6_init 71 = .ok (.aload_n 2, 1) := by decide +kernel
theorem dX6_init_72 : decode cX6_init 72 = .ok (.putfield 45, 3) := by decide +kernel
theorem dX6_init_75 : decode cX6_init 75 = .ok (.aload_n 0, 1) := by decide +kernel
theorem dX6_init_76 : decode cX6_init 76 = .ok (.aload_n 3, 1) := by decide +kernel
theorem dX6_init_77 : decode cX6_init 77 = .ok (.putfield 49, 3) := by decide +kernel
theorem dX6_init_8 : decode cX6_init 8 = .ok (.newarray .boolean, 2) := by decide +kernel
theorem dX6_init_80 : decode cX6_init 80 = .ok (.aload_n 0, 1) := by decide +kernel
theorem dX6_init_81 : decode cX6_init 81 = .ok (.aload 4, 2) := by decide +kernel
theorem dX6_init_83 : decode cX6_init 83 = .ok (.putfield 53, 3) := by decide +kernel
theorem dX6_init_86 : decode cX6_init 86 = .ok (.return_, 1) := by decide +kernel
theorem dX6_leftBy_0 : decode cX6_leftBy 0 = .ok (.aload_n 0, 1) := by decide +kernel
theorem dX6_leftBy_1 : decode cX6_leftBy 1 = .ok (.getfield 26, 3) := by decide +kernel
theorem dX6_leftBy_11 : decode cX6_leftBy 11 = .ok (.iconst 0, 1) := by decide +kernel
theorem dX6_leftBy_12 : decode cX6_leftBy 12 = .ok (.iload_n 1, 1) := by decide +kernel
theorem dX6_leftBy_13 : decode cX6_leftBy 13 = .ok (.iastore, 1) := by decide +kernel
theorem dX6_leftBy_14 : decode cX6_leftBy 14 = .ok (.iconst 1, 1) := by decide +kernel
theorem dX6_leftBy_15 : decode cX6_leftBy 15 = .ok (.istore_n 3, 1) := by decide +kernel
theorem dX6_leftBy_16 : decode cX6_leftBy 16 = .ok (.iconst 1, 1) := by decide +kernel
theorem dX6_leftBy_17 : decode cX6_leftBy 17 = .ok (.istore 4, 2) := by decide +kernel
theorem dX6_leftBy_19 : decode cX6_leftBy 19 = .ok (.aload_n 0, 1) := by decide +kernel
theorem dX6_leftBy_20 : decode cX6_leftBy 20 = .ok (.getfield 9, 3) := by decide +kernel
theorem dX6_leftBy_221 : decode cX6_leftBy 221 = .ok (.iload_n 2, 1) := by decide +kernel
theorem dX6_leftBy_222 : decode cX6_leftBy 222 = .ok (.iload 6, 2) := by decide +kernel
theorem dX6_leftBy_224 : decode cX6_leftBy 224 = .ok (.iload 7, 2) := by decide +kernel
theorem dX6_leftBy_226 : decode cX6_leftBy 226 = .ok (.invokestatic 104, 3) := by decide +kernel
theorem dX6_leftBy_229 : decode cX6_leftBy 229 = .ok (.invokestatic 109, 3) := by decide +kernel
theorem dX6_leftBy_23 : decode cX6_leftBy 23 = .ok (.iload_n 1, 1) := by decide +kernel
theorem dX6_leftBy_232 : decode cX6_leftBy 232 = .ok (.ireturn, 1) := by decide +kernel
theorem dX6_leftBy_24 : decode cX6_leftBy 24 = .ok (.baload, 1) := by decide +kernel
theorem dX6_leftBy_25 : decode cX6_leftBy 25 = .ok (.ifCond .eq 7, 3) := by decide +kernel
theorem dX6_leftBy_28 : decode cX6_leftBy 28 = .ok (.iconst 1, 1) := by decide +kernel
theorem dX6_leftBy_29 : decode cX6_leftBy 29 = .ok (.goto 4, 3) := by decide +kernel
theorem dX6_leftBy_33 : decode cX6_leftBy 33 = .ok (.istore 5, 2) := by decide +kernel
theorem dX6_leftBy_35 : decode cX6_leftBy 35 = .ok (.iload 5, 2) := by decide +kernel
theorem dX6_leftBy_37 : decode cX6_leftBy 37 = .ok (.istore 6, 2) := by decide +kernel
theorem dX6_leftBy_39 : decode cX6_leftBy 39 = .ok (.aload_n 0, 1) := by decide +kernel
theorem dX6_leftBy_4 : decode cX6_leftBy 4 = .ok (.iload_n 1, 1) := by decide +kernel
theorem dX6_leftBy_40 : decode cX6_leftBy 40 = .ok (.getfield 19, 3) := by decide +kernel
theorem dX6_leftBy_43 : decode cX6_leftBy 43 = .ok (.iload 5, 2) := by decide +kernel
theorem dX6_leftBy_45 : decode cX6_leftBy 45 = .ok (.isub, 1) := by decide +kernel
theorem dX6_leftBy_46 : decode cX6_leftBy 46 = .ok (.istore 7, 2) := by decide +kernel
theorem dX6_leftBy_48 : decode cX6_leftBy 48 = .ok (.iconst 0, 1) := by decide +kernel
theorem dX6_leftBy_49 : decode cX6_leftBy 49 = .ok (.istore 5, 2) := by decide +kernel
theorem dX6_leftBy_5 : decode cX6_leftBy 5 = .ok (.iload_n 1, 1) := by decide +kernel
theorem dX6_leftBy_51 : decode cX6_leftBy 51 = .ok (.iconst 0, 1) := by decide +kernel
theorem dX6_leftBy_52 : decode cX6_leftBy 52 = .ok (.istore 8, 2) := by decide +kernel
theorem dX6_leftBy_54 : decode cX6_leftBy 54 = .ok (.iload 8, 2) := by decide +kernel
theorem dX6_leftBy_56 : decode cX6_leftBy 56 = .ok (.iload 4, 2) := by decide +kernel
theorem dX6_leftBy_58 : decode cX6_leftBy 58 = .ok (.if_icmp .ge 163, 3) := by decide +kernel
theorem dX6_leftBy_6 : decode cX6_leftBy 6 = .ok (.iastore, 1) := by decide +kernel
theorem dX6_leftBy_61 : decode cX6_leftBy 61 = .ok (.iload 8, 2) := by decide +kernel
theorem dX6_leftBy_63 : decode cX6_leftBy 63 = .ok (.sipush 1260, 3) := by decide +kernel
theorem dX6_leftBy_66 : decode cX6_leftBy 66 = .ok (.if_icmp .ge 155, 3) := by decide +kernel
theorem dX6_leftBy_69 : decode cX6_leftBy 69 = .ok (.iload 7, 2) := by decide +kernel
theorem dX6_leftBy_7 : decode cX6_leftBy 7 = .ok (.aload_n 0, 1) := by decide +kernel
theorem dX6_leftBy_71 : decode cX6_leftBy 71 = .ok (.iload 6, 2) := by decide +kernel
theorem dX6_leftBy_73 : decode cX6_leftBy 73 = .ok (.if_icmp .le 148, 3) := by decide +kernel
theorem dX6_leftBy_8 : decode cX6_leftBy 8 = .ok (.getfield 29, 3) := by decide +kernel
theorem dX6_many_0 : decode cX6_many 0 = .ok (.aload_n 0, 1) := by decide +kernel
theorem dX6_many_1 : decode cX6_many 1 = .ok (.getfield 19, 3) := by decide +kernel
theorem dX6_many_4 : decode cX6_many 4 = .ok (.ireturn, 1) := by decide +kernel
theorem dX6_refit_0 : decode cX6_refit 0 = .ok (.aload_n 0, 1) := by decide +kernel
theorem dX6_refit_1 : decode cX6_refit 1 = .ok (.getfield 23, 3) := by decide +kernel
theorem dX6_refit_11 : decode cX6_refit 11 = .ok (.if_icmp .ne 4, 3) := by decide +kernel
theorem dX6_refit_143 : decode cX6_refit 143 = .ok (.aload_n 0, 1) := by decide +kernel
theorem dX6_refit_144 : decode cX6_refit 144 = .ok (.iconst 0, 1) := by decide +kernel
theorem dX6_refit_145 : decode cX6_refit 145 = .ok (.putfield 19, 3) := by decide +kernel
theorem dX6_refit_148 : decode cX6_refit 148 = .ok (.iconst 0, 1) := by decide +kernel
theorem dX6_refit_149 : decode cX6_refit 149 = .ok (.istore_n 2, 1) := by decide +kernel
theorem dX6_refit_15 : decode cX6_refit 15 = .ok (.aload_n 0, 1) := by decide +kernel
theorem dX6_refit_150 : decode cX6_refit 150 = .ok (.iload_n 2, 1) := by decide +kernel
theorem dX6_refit_151 : decode cX6_refit 151 = .ok (.iload_n 1, 1) := by decide +kernel
theorem dX6_refit_152 : decode cX6_refit 152 = .ok (.if_icmp .ge 38, 3) := by decide +kernel
theorem dX6_refit_155 : decode cX6_refit 155 = .ok (.aload_n 0, 1) := by decide +kernel
theorem dX6_refit_156 : decode cX6_refit 156 = .ok (.getfield 9, 3) := by decide +kernel
theorem dX6_refit_159 : decode cX6_refit 159 = .ok (.iload_n 2, 1) := by decide +kernel
theorem dX6_refit_16 : decode cX6_refit 16 = .ok (.aload_n 0, 1) := by decide +kernel
theorem dX6_refit_160 : decode cX6_refit 160 = .ok (.baload, 1) := by decide +kernel
theorem dX6_refit_161 : decode cX6_refit 161 = .ok (.ifCond .eq 23, 3) := by decide +kernel
theorem dX6_refit_164 : decode cX6_refit 164 = .ok (.aload_n 0, 1) := by decide +kernel
theorem dX6_refit_165 : decode cX6_refit 165 = .ok (.getfield 15, 3) := by decide +kernel
theorem dX6_refit_168 : decode cX6_refit 168 = .ok (.aload_n 0, 1) := by decide +kernel
theorem dX6_refit_169 : decode cX6_refit 169 = .ok (.getfield 19, 3) := by decide +kernel
theorem dX6_refit_17 : decode cX6_refit 17 = .ok (.getfield 49, 3) := by decide +kernel
theorem dX6_refit_172 : decode cX6_refit 172 = .ok (.iload_n 2, 1) := by decide +kernel
theorem dX6_refit_173 : decode cX6_refit 173 = .ok (.iastore, 1) := by decide +kernel
theorem dX6_refit_174 : decode cX6_refit 174 = .ok (.aload_n 0, 1) := by decide +kernel
theorem dX6_refit_175 : decode cX6_refit 175 = .ok (.dup, 1) := by decide +kernel
theorem dX6_refit_176 : decode cX6_refit 176 = .ok (.getfield 19, 3) := by decide +kernel
theorem dX6_refit_179 : decode cX6_refit 179 = .ok (.iconst 1, 1) := by decide +kernel
theorem dX6_refit_180 : decode cX6_refit 180 = .ok (.iadd, 1) := by decide +kernel
theorem dX6_refit_181 : decode cX6_refit 181 = .ok (.putfield 19, 3) := by decide +kernel
theorem dX6_refit_184 : decode cX6_refit 184 = .ok (.iinc 2 1, 3) := by decide +kernel
theorem dX6_refit_187 : decode cX6_refit 187 = .ok (.goto (-37), 3) := by decide +kernel
theorem dX6_refit_190 : decode cX6_refit 190 = .ok (.return_, 1) := by decide +kernel
theorem dX6_refit_20 : decode cX6_refit 20 = .ok (.invokevirtual 57, 3) := by decide +kernel
theorem dX6_refit_23 : decode cX6_refit 23 = .ok (.putfield 23, 3) := by decide +kernel
theorem dX6_refit_26 : decode cX6_refit 26 = .ok (.aload_n 0, 1) := by decide +kernel
theorem dX6_refit_27 : decode cX6_refit 27 = .ok (.getfield 45, 3) := by decide +kernel
theorem dX6_refit_30 : decode cX6_refit 30 = .ok (.invokevirtual 63, 3) := by decide +kernel
theorem dX6_refit_33 : decode cX6_refit 33 = .ok (.istore_n 1, 1) := by decide +kernel
theorem dX6_refit_34 : decode cX6_refit 34 = .ok (.iconst 0, 1) := by decide +kernel
theorem dX6_refit_35 : decode cX6_refit 35 = .ok (.istore_n 2, 1) := by decide +kernel
theorem dX6_refit_36 : decode cX6_refit 36 = .ok (.iload_n 2, 1) := by decide +kernel
theorem dX6_refit_37 : decode cX6_refit 37 = .ok (.iload_n 1, 1) := by decide +kernel
theorem dX6_refit_38 : decode cX6_refit 38 = .ok (.if_icmp .ge 16, 3) := by decide +kernel
theorem dX6_refit_4 : decode cX6_refit 4 = .ok (.aload_n 0, 1) := by decide +kernel
theorem dX6_refit_41 : decode cX6_refit 41 = .ok (.aload_n 0, 1) := by decide +kernel
theorem dX6_refit_42 : decode cX6_refit 42 = .ok (.getfield 9, 3) := by decide +kernel
theorem dX6_refit_45 : decode cX6_refit 45 = .ok (.iload_n 2, 1) := by decide +kernel
theorem dX6_refit_46 : decode cX6_refit 46 = .ok (.iconst 1, 1) := by decide +kernel
theorem dX6_refit_47 : decode cX6_refit 47 = .ok (.bastore, 1) := by decide +kernel
theorem dX6_refit_48 : decode cX6_refit 48 = .ok (.iinc 2 1, 3) := by decide +kernel
theorem dX6_refit_5 : decode cX6_refit 5 = .ok (.getfield 49, 3) := by decide +kernel
theorem dX6_refit_51 : decode cX6_refit 51 = .ok (.goto (-15), 3) := by decide +kernel
theorem dX6_refit_54 : decode cX6_refit 54 = .ok (.iconst 0, 1) := by decide +kernel
theorem dX6_refit_55 : decode cX6_refit 55 = .ok (.istore_n 2, 1) := by decide +kernel
theorem dX6_refit_56 : decode cX6_refit 56 = .ok (.iload_n 2, 1) := by decide +kernel
theorem dX6_refit_57 : decode cX6_refit 57 = .ok (.aload_n 0, 1) := by decide +kernel
theorem dX6_refit_58 : decode cX6_refit 58 = .ok (.getfield 41, 3) := by decide +kernel
theorem dX6_refit_61 : decode cX6_refit 61 = .ok (.getfield 67, 3) := by decide +kernel
theorem dX6_refit_64 : decode cX6_refit 64 = .ok (.if_icmp .ge 79, 3) := by decide +kernel
theorem dX6_refit_8 : decode cX6_refit 8 = .ok (.invokevirtual 57, 3) := by decide +kernel
theorem dX6_worst_0 : decode cX6_worst 0 = .ok (.aload_n 0, 1) := by decide +kernel
theorem dX6_worst_1 : decode cX6_worst 1 = .ok (.getfield 35, 3) := by decide +kernel
theorem dX6_worst_4 : decode cX6_worst 4 = .ok (.ireturn, 1) := by decide +kernel
theorem dX7_exists_0 : decode cX7_exists 0 = .ok (.aload_n 0, 1) := by decide +kernel
theorem dX7_exists_1 : decode cX7_exists 1 = .ok (.getfield 25, 3) := by decide +kernel
theorem dX7_exists_11 : decode cX7_exists 11 = .ok (.if_icmp .eq 80, 3) := by decide +kernel
theorem dX7_exists_14 : decode cX7_exists 14 = .ok (.aload_n 0, 1) := by decide +kernel
theorem dX7_exists_15 : decode cX7_exists 15 = .ok (.aload_n 0, 1) := by decide +kernel
theorem dX7_exists_16 : decode cX7_exists 16 = .ok (.getfield 33, 3) := by decide +kernel
theorem dX7_exists_19 : decode cX7_exists 19 = .ok (.invokevirtual 43, 3) := by decide +kernel
theorem dX7_exists_22 : decode cX7_exists 22 = .ok (.putfield 25, 3) := by decide +kernel
theorem dX7_exists_25 : decode cX7_exists 25 = .ok (.aload_n 0, 1) := by decide +kernel
theorem dX7_exists_26 : decode cX7_exists 26 = .ok (.getfield 29, 3) := by decide +kernel
theorem dX7_exists_29 : decode cX7_exists 29 = .ok (.invokevirtual 37, 3) := by decide +kernel
theorem dX7_exists_32 : decode cX7_exists 32 = .ok (.istore_n 1, 1) := by decide +kernel
theorem dX7_exists_33 : decode cX7_exists 33 = .ok (.aload_n 0, 1) := by decide +kernel
theorem dX7_exists_34 : decode cX7_exists 34 = .ok (.iconst 0, 1) := by decide +kernel
theorem dX7_exists_35 : decode cX7_exists 35 = .ok (.putfield 21, 3) := by decide +kernel
theorem dX7_exists_38 : decode cX7_exists 38 = .ok (.iload_n 1, 1) := by decide +kernel
theorem dX7_exists_39 : decode cX7_exists 39 = .ok (.iconst 1, 1) := by decide +kernel
theorem dX7_exists_4 : decode cX7_exists 4 = .ok (.aload_n 0, 1) := by decide +kernel
theorem dX7_exists_40 : decode cX7_exists 40 = .ok (.if_icmp .le 39, 3) := by decide +kernel
theorem dX7_exists_5 : decode cX7_exists 5 = .ok (.getfield 33, 3) := by decide +kernel
theorem dX7_exists_79 : decode cX7_exists 79 = .ok (.aload_n 0, 1) := by decide +kernel
theorem dX7_exists_8 : decode cX7_exists 8 = .ok (.invokevirtual 43, 3) := by decide +kernel
theorem dX7_exists_80 : decode cX7_exists 80 = .ok (.getfield 21, 3) := by decide +kernel
theorem dX7_exists_83 : decode cX7_exists 83 = .ok (.ifCond .eq 8, 3) := by decide +kernel
theorem dX7_exists_91 : decode cX7_exists 91 = .ok (.aload_n 0, 1) := by decide +kernel
theorem dX7_exists_92 : decode cX7_exists 92 = .ok (.getfield 21, 3) := by decide +kernel
theorem dX7_exists_95 : decode cX7_exists 95 = .ok (.ireturn, 1) := by decide +kernel
theorem dX7_init_0 : decode cX7_init 0 = .ok (.aload_n 0, 1) := by decide +kernel
theorem dX7_init_1 : decode cX7_init 1 = .ok (.invokespecial 3, 3) := by decide +kernel
theorem dX7_init_12 : decode cX7_init 12 = .ok (.aload_n 0, 1) := by decide +kernel
theorem dX7_init_13 : decode cX7_init 13 = .ok (.bipush 14, 2) := by decide +kernel
theorem dX7_init_15 : decode cX7_init 15 = .ok (.newarray .int, 2) := by decide +kernel
theorem dX7_init_17 : decode cX7_init 17 = .ok (.putfield 15, 3) := by decide +kernel
theorem dX7_init_20 : decode cX7_init 20 = .ok (.aload_n 0, 1) := by decide +kernel
theorem dX7_init_21 : decode cX7_init 21 = .ok (.iconst 0, 1) := by decide +kernel
theorem dX7_init_22 : decode cX7_init 22 = .ok (.newarray .int, 2) := by decide +kernel
theorem dX7_init_24 : decode cX7_init 24 = .ok (.putfield 18, 3) := by decide +kernel
theorem dX7_init_27 : decode cX7_init 27 = .ok (.aload_n 0, 1) := by decide +kernel
theorem dX7_init_28 : decode cX7_init 28 = .ok (.iconst 0, 1) := by decide +kernel
theorem dX7_init_29 : decode cX7_init 29 = .ok (.putfield 21, 3) := by decide +kernel
theorem dX7_init_32 : decode cX7_init 32 = .ok (.aload_n 0, 1) := by decide +kernel
theorem dX7_init_33 : decode cX7_init 33 = .ok (.iconst (-1), 1) := by decide +kernel
theorem dX7_init_34 : decode cX7_init 34 = .ok (.putfield 25, 3) := by decide +kernel
theorem dX7_init_37 : decode cX7_init 37 = .ok (.aload_n 0, 1) := by decide +kernel
theorem dX7_init_38 : decode cX7_init 38 = .ok (.aload_n 1, 1) := by decide +kernel
theorem dX7_init_39 : decode cX7_init 39 = .ok (.putfield 29, 3) := by decide +kernel
theorem dX7_init_4 : decode cX7_init 4 = .ok (.aload_n 0, 1) := by decide +kernel
theorem dX7_init_42 : decode cX7_init 42 = .ok (.aload_n 0, 1) := by decide +kernel
theorem dX7_init_43 : decode cX7_init 43 = .ok (.aload_n 2, 1) := by decide +kernel
theorem dX7_init_44 : decode cX7_init 44 = .ok (.putfield 33, 3) := by decide +kernel
theorem dX7_init_47 : decode cX7_init 47 = .ok (.return_, 1) := by decide +kernel
theorem dX7_init_5 : decode cX7_init 5 = .ok (.bipush 14, 2) := by decide +kernel
theorem dX7_init_7 : decode cX7_init 7 = .ok (.newarray .int, 2) := by decide +kernel
theorem dX7_init_9 : decode cX7_init 9 = .ok (.putfield 11, 3) := by decide +kernel
theorem dX8_addClue_0 : decode cX8_addClue 0 = .ok (.aload_n 0, 1) := by decide +kernel
theorem dX8_addClue_1 : decode cX8_addClue 1 = .ok (.getfield 45, 3) := by decide +kernel
theorem dX8_addClue_10 : decode cX8_addClue 10 = .ok (.getfield 39, 3) := by decide +kernel
theorem dX8_addClue_13 : decode cX8_addClue 13 = .ok (.aload_n 0, 1) := by decide +kernel
theorem dX8_addClue_14 : decode cX8_addClue 14 = .ok (.getfield 45, 3) := by decide +kernel
theorem dX8_addClue_17 : decode cX8_addClue 17 = .ok (.iload_n 1, 1) := by decide +kernel
theorem dX8_addClue_18 : decode cX8_addClue 18 = .ok (.iastore, 1) := by decide +kernel
theorem dX8_addClue_19 : decode cX8_addClue 19 = .ok (.aload_n 0, 1) := by decide +kernel
theorem dX8_addClue_20 : decode cX8_addClue 20 = .ok (.getfield 42, 3) := by decide +kernel
theorem dX8_addClue_23 : decode cX8_addClue 23 = .ok (.aload_n 0, 1) := by decide +kernel
theorem dX8_addClue_24 : decode cX8_addClue 24 = .ok (.getfield 45, 3) := by decide +kernel
theorem dX8_addClue_27 : decode cX8_addClue 27 = .ok (.iload_n 2, 1) := by decide +kernel
theorem dX8_addClue_28 : decode cX8_addClue 28 = .ok (.iastore, 1) := by decide +kernel
theorem dX8_addClue_29 : decode cX8_addClue 29 = .ok (.aload_n 0, 1) := by decide +kernel
theorem dX8_addClue_30 : decode cX8_addClue 30 = .ok (.dup, 1) := by decide +kernel
theorem dX8_addClue_31 : decode cX8_addClue 31 = .ok (.getfield 45, 3) := by decide +kernel
theorem dX8_addClue_34 : decode cX8_addClue 34 = .ok (.iconst 1, 1) := by decide +kernel
theorem dX8_addClue_35 : decode cX8_addClue 35 = .ok (.iadd, 1) := by decide +kernel
theorem dX8_addClue_36 : decode cX8_addClue 36 = .ok (.putfield 45, 3) := by decide +kernel
theorem dX8_addClue_39 : decode cX8_addClue 39 = .ok (.return_, 1) := by decide +kernel
theorem dX8_addClue_4 : decode cX8_addClue 4 = .ok (.bipush 6, 2) := by decide +kernel
theorem dX8_addClue_6 : decode cX8_addClue 6 = .ok (.if_icmp .ge 33, 3) := by decide +kernel
theorem dX8_addClue_9 : decode cX8_addClue 9 = .ok (.aload_n 0, 1) := by decide +kernel
theorem dX8_copyFrom_0 : decode cX8_copyFrom 0 = .ok (.aload_n 1, 1) := by decide +kernel
theorem dX8_copyFrom_1 : decode cX8_copyFrom 1 = .ok (.getfield 9, 3) := by decide +kernel
theorem dX8_copyFrom_10 : decode cX8_copyFrom 10 = .ok (.iconst 5, 1) := by decide +kernel
theorem dX8_copyFrom_100 : decode cX8_copyFrom 100 = .ok (.aload_n 0, 1) := by decide +kernel
theorem dX8_copyFrom_101 : decode cX8_copyFrom 101 = .ok (.aload_n 1, 1) := by decide +kernel
theorem dX8_copyFrom_102 : decode cX8_copyFrom 102 = .ok (.getfield 36, 3) := by decide +kernel
theorem dX8_copyFrom_105 : decode cX8_copyFrom 105 = .ok (.putfield 36, 3) := by decide +kernel
theorem dX8_copyFrom_108 : decode cX8_copyFrom 108 = .ok (.aload_n 1, 1) := by decide +kernel
theorem dX8_copyFrom_109 : decode cX8_copyFrom 109 = .ok (.getfield 39, 3) := by decide +kernel
theorem dX8_copyFrom_11 : decode cX8_copyFrom 11 = .ok (.invokestatic 57, 3) := by decide +kernel
theorem dX8_copyFrom_112 : decode cX8_copyFrom 112 = .ok (.iconst 0, 1) := by decide +kernel
theorem dX8_copyFrom_113 : decode cX8_copyFrom 113 = .ok (.aload_n 0, 1) := by decide +kernel
theorem dX8_copyFrom_114 : decode cX8_copyFrom 114 = .ok (.getfield 39, 3) := by decide +kernel
theorem dX8_copyFrom_117 : decode cX8_copyFrom 117 = .ok (.iconst 0, 1) := by decide +kernel
theorem dX8_copyFrom_118 : decode cX8_copyFrom 118 = .ok (.bipush 6, 2) := by decide +kernel
theorem dX8_copyFrom_120 : decode cX8_copyFrom 120 = .ok (.invokestatic 57, 3) := by decide +kernel
theorem dX8_copyFrom_123 : decode cX8_copyFrom 123 = .ok (.aload_n 1, 1) := by decide +kernel
theorem dX8_copyFrom_124 : decode cX8_copyFrom 124 = .ok (.getfield 42, 3) := by decide +kernel
theorem dX8_copyFrom_127 : decode cX8_copyFrom 127 = .ok (.iconst 0, 1) := by decide +kernel
theorem dX8_copyFrom_128 : decode cX8_copyFrom 128 = .ok (.aload_n 0, 1) := by decide +kernel
theorem dX8_copyFrom_129 : decode cX8_copyFrom 129 = .ok (.getfield 42, 3) := by decide +kernel
theorem dX8_copyFrom_132 : decode cX8_copyFrom 132 = .ok (.iconst 0, 1) := by decide +kernel
theorem dX8_copyFrom_133 : decode cX8_copyFrom 133 = .ok (.bipush 6, 2) := by decide +kernel
theorem dX8_copyFrom_135 : decode cX8_copyFrom 135 = .ok (.invokestatic 57, 3) := by decide +kernel
theorem dX8_copyFrom_138 : decode cX8_copyFrom 138 = .ok (.aload_n 0, 1) := by decide +kernel
theorem dX8_copyFrom_139 : decode cX8_copyFrom 139 = .ok (.aload_n 1, 1) := by decide +kernel
theorem dX8_copyFrom_14 : decode cX8_copyFrom 14 = .ok (.aload_n 1, 1) := by decide +kernel
theorem dX8_copyFrom_140 : decode cX8_copyFrom 140 = .ok (.getfield 45, 3) := by decide +kernel
theorem dX8_copyFrom_143 : decode cX8_copyFrom 143 = .ok (.putfield 45, 3) := by decide +kernel
theorem dX8_copyFrom_146 : decode cX8_copyFrom 146 = .ok (.aload_n 1, 1) := by decide +kernel
theorem dX8_copyFrom_147 : decode cX8_copyFrom 147 = .ok (.getfield 48, 3) := by decide +kernel
theorem dX8_copyFrom_15 : decode cX8_copyFrom 15 = .ok (.getfield 15, 3) := by decide +kernel
theorem dX8_copyFrom_150 : decode cX8_copyFrom 150 = .ok (.iconst 0, 1) := by decide +kernel
theorem dX8_copyFrom_151 : decode cX8_copyFrom 151 = .ok (.aload_n 0, 1) := by decide +kernel
theorem dX8_copyFrom_152 : decode cX8_copyFrom 152 = .ok (.getfield 48, 3) := by decide +kernel
theorem dX8_copyFrom_155 : decode cX8_copyFrom 155 = .ok (.iconst 0, 1) := by decide +kernel
theorem dX8_copyFrom_156 : decode cX8_copyFrom 156 = .ok (.bipush 12, 2) := by decide +kernel
theorem dX8_copyFrom_158 : decode cX8_copyFrom 158 = .ok (.invokestatic 57, 3) := by decide +kernel
theorem dX8_copyFrom_161 : decode cX8_copyFrom 161 = .ok (.aload_n 1, 1) := by decide +kernel
theorem dX8_copyFrom_162 : decode cX8_copyFrom 162 = .ok (.getfield 51, 3) := by decide +kernel
theorem dX8_copyFrom_165 : decode cX8_copyFrom 165 = .ok (.iconst 0, 1) := by decide +kernel
theorem dX8_copyFrom_166 : decode cX8_copyFrom 166 = .ok (.aload_n 0, 1) := by decide +kernel
theorem dX8_copyFrom_167 : decode cX8_copyFrom 167 = .ok (.getfield 51, 3) := by decide +kernel
theorem dX8_copyFrom_170 : decode cX8_copyFrom 170 = .ok (.iconst 0, 1) := by decide +kernel
theorem dX8_copyFrom_171 : decode cX8_copyFrom 171 = .ok (.bipush 12, 2) := by decide +kernel
theorem dX8_copyFrom_173 : decode cX8_copyFrom 173 = .ok (.invokestatic 57, 3) := by decide +kernel
theorem dX8_copyFrom_176 : decode cX8_copyFrom 176 = .ok (.aload_n 0, 1) := by decide +kernel
theorem dX8_copyFrom_177 : decode cX8_copyFrom 177 = .ok (.aload_n 1, 1) := by decide +kernel
theorem dX8_copyFrom_178 : decode cX8_copyFrom 178 = .ok (.getfield 54, 3) := by decide +kernel
theorem dX8_copyFrom_18 : decode cX8_copyFrom 18 = .ok (.iconst 0, 1) := by decide +kernel
theorem dX8_copyFrom_181 : decode cX8_copyFrom 181 = .ok (.putfield 54, 3) := by decide +kernel
theorem dX8_copyFrom_184 : decode cX8_copyFrom 184 = .ok (.return_, 1) := by decide +kernel
theorem dX8_copyFrom_19 : decode cX8_copyFrom 19 = .ok (.aload_n 0, 1) := by decide +kernel
theorem dX8_copyFrom_20 : decode cX8_copyFrom 20 = .ok (.getfield 15, 3) := by decide +kernel
theorem dX8_copyFrom_23 : decode cX8_copyFrom 23 = .ok (.iconst 0, 1) := by decide +kernel
theorem dX8_copyFrom_24 : decode cX8_copyFrom 24 = .ok (.iconst 2, 1) := by decide +kernel
theorem dX8_copyFrom_25 : decode cX8_copyFrom 25 = .ok (.invokestatic 57, 3) := by decide +kernel
theorem dX8_copyFrom_28 : decode cX8_copyFrom 28 = .ok (.iconst 0, 1) := by decide +kernel
theorem dX8_copyFrom_29 : decode cX8_copyFrom 29 = .ok (.istore_n 2, 1) := by decide +kernel
theorem dX8_copyFrom_30 : decode cX8_copyFrom 30 = .ok (.iload_n 2, 1) := by decide +kernel
theorem dX8_copyFrom_31 : decode cX8_copyFrom 31 = .ok (.bipush 6, 2) := by decide +kernel
theorem dX8_copyFrom_33 : decode cX8_copyFrom 33 = .ok (.if_icmp .ge 21, 3) := by decide +kernel
theorem dX8_copyFrom_36 : decode cX8_copyFrom 36 = .ok (.aload_n 0, 1) := by decide +kernel
theorem dX8_copyFrom_37 : decode cX8_copyFrom 37 = .ok (.getfield 20, 3) := by decide +kernel
theorem dX8_copyFrom_4 : decode cX8_copyFrom 4 = .ok (.iconst 0, 1) := by decide +kernel
theorem dX8_copyFrom_40 : decode cX8_copyFrom 40 = .ok (.iload_n 2, 1) := by decide +kernel
theorem dX8_copyFrom_41 : decode cX8_copyFrom 41 = .ok (.aload_n 1, 1) := by decide +kernel
theorem dX8_copyFrom_42 : decode cX8_copyFrom 42 = .ok (.getfield 20, 3) := by decide +kernel
theorem dX8_copyFrom_45 : decode cX8_copyFrom 45 = .ok (.iload_n 2, 1) := by decide +kernel
theorem dX8_copyFrom_46 : decode cX8_copyFrom 46 = .ok (.aaload, 1) := by decide +kernel
theorem dX8_copyFrom_47 : decode cX8_copyFrom 47 = .ok (.aastore, 1) := by decide +kernel
theorem dX8_copyFrom_48 : decode cX8_copyFrom 48 = .ok (.iinc 2 1, 3) := by decide +kernel
theorem dX8_copyFrom_5 : decode cX8_copyFrom 5 = .ok (.aload_n 0, 1) := by decide +kernel
theorem dX8_copyFrom_51 : decode cX8_copyFrom 51 = .ok (.goto (-21), 3) := by decide +kernel
theorem dX8_copyFrom_54 : decode cX8_copyFrom 54 = .ok (.aload_n 0, 1) := by decide +kernel
theorem dX8_copyFrom_55 : decode cX8_copyFrom 55 = .ok (.aload_n 1, 1) := by decide +kernel
theorem dX8_copyFrom_56 : decode cX8_copyFrom 56 = .ok (.getfield 23, 3) := by decide +kernel
theorem dX8_copyFrom_59 : decode cX8_copyFrom 59 = .ok (.putfield 23, 3) := by decide +kernel
theorem dX8_copyFrom_6 : decode cX8_copyFrom 6 = .ok (.getfield 9, 3) := by decide +kernel
theorem dX8_copyFrom_62 : decode cX8_copyFrom 62 = .ok (.aload_n 0, 1) := by decide +kernel
theorem dX8_copyFrom_63 : decode cX8_copyFrom 63 = .ok (.aload_n 1, 1) := by decide +kernel
theorem dX8_copyFrom_64 : decode cX8_copyFrom 64 = .ok (.getfield 27, 3) := by decide +kernel
theorem dX8_copyFrom_67 : decode cX8_copyFrom 67 = .ok (.putfield 27, 3) := by decide +kernel
theorem dX8_copyFrom_70 : decode cX8_copyFrom 70 = .ok (.aload_n 1, 1) := by decide +kernel
theorem dX8_copyFrom_71 : decode cX8_copyFrom 71 = .ok (.getfield 30, 3) := by decide +kernel
theorem dX8_copyFrom_74 : decode cX8_copyFrom 74 = .ok (.iconst 0, 1) := by decide +kernel
theorem dX8_copyFrom_75 : decode cX8_copyFrom 75 = .ok (.aload_n 0, 1) := by decide +kernel
theorem dX8_copyFrom_76 : decode cX8_copyFrom 76 = .ok (.getfield 30, 3) := by decide +kernel
theorem dX8_copyFrom_79 : decode cX8_copyFrom 79 = .ok (.iconst 0, 1) := by decide +kernel
theorem dX8_copyFrom_80 : decode cX8_copyFrom 80 = .ok (.bipush 8, 2) := by decide +kernel
theorem dX8_copyFrom_82 : decode cX8_copyFrom 82 = .ok (.invokestatic 57, 3) := by decide +kernel
theorem dX8_copyFrom_85 : decode cX8_copyFrom 85 = .ok (.aload_n 1, 1) := by decide +kernel
theorem dX8_copyFrom_86 : decode cX8_copyFrom 86 = .ok (.getfield 33, 3) := by decide +kernel
theorem dX8_copyFrom_89 : decode cX8_copyFrom 89 = .ok (.iconst 0, 1) := by decide +kernel
theorem dX8_copyFrom_9 : decode cX8_copyFrom 9 = .ok (.iconst 0, 1) := by decide +kernel
theorem dX8_copyFrom_90 : decode cX8_copyFrom 90 = .ok (.aload_n 0, 1) := by decide +kernel
theorem dX8_copyFrom_91 : decode cX8_copyFrom 91 = .ok (.getfield 33, 3) := by decide +kernel
theorem dX8_copyFrom_94 : decode cX8_copyFrom 94 = .ok (.iconst 0, 1) := by decide +kernel
theorem dX8_copyFrom_95 : decode cX8_copyFrom 95 = .ok (.bipush 8, 2) := by decide +kernel
theorem dX8_copyFrom_97 : decode cX8_copyFrom 97 = .ok (.invokestatic 57, 3) := by decide +kernel
theorem dX8_dropSwapsBeyond_0 : decode cX8_dropSwapsBeyond 0 = .ok (.aload_n 0, 1) := by decide +kernel
theorem dX8_dropSwapsBeyond_1 : decode cX8_dropSwapsBeyond 1 = .ok (.getfield 54, 3) := by decide +kernel
theorem dX8_dropSwapsBeyond_10 : decode cX8_dropSwapsBeyond 10 = .ok (.iconst 0, 1) := by decide +kernel
theorem dX8_dropSwapsBeyond_11 : decode cX8_dropSwapsBeyond 11 = .ok (.istore_n 3, 1) := by decide +kernel
theorem dX8_dropSwapsBeyond_12 : decode cX8_dropSwapsBeyond 12 = .ok (.iload_n 3, 1) := by decide +kernel
theorem dX8_dropSwapsBeyond_13 : decode cX8_dropSwapsBeyond 13 = .ok (.iload_n 2, 1) := by decide +kernel
theorem dX8_dropSwapsBeyond_14 : decode cX8_dropSwapsBeyond 14 = .ok (.if_icmp .ge 35, 3) := by decide +kernel
theorem dX8_dropSwapsBeyond_4 : decode cX8_dropSwapsBeyond 4 = .ok (.istore_n 2, 1) := by decide +kernel
theorem dX8_dropSwapsBeyond_49 : decode cX8_dropSwapsBeyond 49 = .ok (.return_, 1) := by decide +kernel
theorem dX8_dropSwapsBeyond_5 : decode cX8_dropSwapsBeyond 5 = .ok (.aload_n 0, 1) := by decide +kernel
theorem dX8_dropSwapsBeyond_6 : decode cX8_dropSwapsBeyond 6 = .ok (.iconst 0, 1) := by decide +kernel
theorem dX8_dropSwapsBeyond_7 : decode cX8_dropSwapsBeyond 7 = .ok (.putfield 54, 3) := by decide +kernel
theorem dX8_init_0 : decode cX8_init 0 = .ok (.aload_n 0, 1) := by decide +kernel
theorem dX8_init_1 : decode cX8_init 1 = .ok (.invokespecial 3, 3) := by decide +kernel
theorem dX8_init_102 : decode cX8_init 102 = .ok (.return_, 1) := by decide +kernel
theorem dX8_init_11 : decode cX8_init 11 = .ok (.aload_n 0, 1) := by decide +kernel
theorem dX8_init_12 : decode cX8_init 12 = .ok (.iconst 2, 1) := by decide +kernel
theorem dX8_init_13 : decode cX8_init 13 = .ok (.newarray .int, 2) := by decide +kernel
theorem dX8_init_15 : decode cX8_init 15 = .ok (.putfield 15, 3) := by decide +kernel
theorem dX8_init_18 : decode cX8_init 18 = .ok (.aload_n 0, 1) := by decide +kernel
theorem dX8_init_19 : decode cX8_init 19 = .ok (.bipush 6, 2) := by decide +kernel
theorem dX8_init_21 : decode cX8_init 21 = .ok (.iconst 0, 1) := by decide +kernel
theorem dX8_init_22 : decode cX8_init 22 = .ok (.multianewarray 18 2, 4) := by decide +kernel
theorem dX8_init_26 : decode cX8_init 26 = .ok (.putfield 20, 3) := by decide +kernel
theorem dX8_init_29 : decode cX8_init 29 = .ok (.aload_n 0, 1) := by decide +kernel
theorem dX8_init_30 : decode cX8_init 30 = .ok (.iconst 0, 1) := by decide +kernel
theorem dX8_init_31 : decode cX8_init 31 = .ok (.putfield 23, 3) := by decide +kernel
theorem dX8_init_34 : decode cX8_init 34 = .ok (.aload_n 0, 1) := by decide +kernel
theorem dX8_init_35 : decode cX8_init 35 = .ok (.iconst (-1), 1) := by decide +kernel
theorem dX8_init_36 : decode cX8_init 36 = .ok (.putfield 27, 3) := by decide +kernel
theorem dX8_init_39 : decode cX8_init 39 = .ok (.aload_n 0, 1) := by decide +kernel
theorem dX8_init_4 : decode cX8_init 4 = .ok (.aload_n 0, 1) := by decide +kernel
theorem dX8_init_40 : decode cX8_init 40 = .ok (.bipush 8, 2) := by decide +kernel
theorem dX8_init_42 : decode cX8_init 42 = .ok (.newarray .int, 2) := by decide +kernel
theorem dX8_init_44 : decode cX8_init 44 = .ok (.putfield 30, 3) := by decide +kernel
theorem dX8_init_47 : decode cX8_init 47 = .ok (.aload_n 0, 1) := by decide +kernel
theorem dX8_init_48 : decode cX8_init 48 = .ok (.bipush 8, 2) := by decide +kernel
theorem dX8_init_5 : decode cX8_init 5 = .ok (.iconst 5, 1) := by decide +kernel
theorem dX8_init_50 : decode cX8_init 50 = .ok (.newarray .int, 2) := by decide +kernel
theorem dX8_init_52 : decode cX8_init 52 = .ok (.putfield 33, 3) := by decide +kernel
theorem dX8_init_55 : decode cX8_init 55 = .ok (.aload_n 0, 1) := by decide +kernel
theorem dX8_init_56 : decode cX8_init 56 = .ok (.iconst 0, 1) := by decide +kernel
theorem dX8_init_57 : decode cX8_init 57 = .ok (.putfield 36, 3) := by decide +kernel
theorem dX8_init_6 : decode cX8_init 6 = .ok (.newarray .int, 2) := by decide +kernel
theorem dX8_init_60 : decode cX8_init 60 = .ok (.aload_n 0, 1) := by decide +kernel
theorem dX8_init_61 : decode cX8_init 61 = .ok (.bipush 6, 2) := by decide +kernel
theorem dX8_init_63 : decode cX8_init 63 = .ok (.newarray .int, 2) := by decide +kernel
theorem dX8_init_65 : decode cX8_init 65 = .ok (.putfield 39, 3) := by decide +kernel
theorem dX8_init_68 : decode cX8_init 68 = .ok (.aload_n 0, 1) := by decide +kernel
theorem dX8_init_69 : decode cX8_init 69 = .ok (.bipush 6, 2) := by decide +kernel
theorem dX8_init_71 : decode cX8_init 71 = .ok (.newarray .int, 2) := by decide +kernel
theorem dX8_init_73 : decode cX8_init 73 = .ok (.putfield 42, 3) := by decide +kernel
theorem dX8_init_76 : decode cX8_init 76 = .ok (.aload_n 0, 1) := by decide +kernel
theorem dX8_init_77 : decode cX8_init 77 = .ok (.iconst 0, 1) := by decide +kernel
theorem dX8_init_78 : decode cX8_init 78 = .ok (.putfield 45, 3) := by decide +kernel
theorem dX8_init_8 : decode cX8_init 8 = .ok (.putfield 9, 3) := by decide +kernel
theorem dX8_init_81 : decode cX8_init 81 = .ok (.aload_n 0, 1) := by decide +kernel
theorem dX8_init_82 : decode cX8_init 82 = .ok (.bipush 12, 2) := by decide +kernel
theorem dX8_init_84 : decode cX8_init 84 = .ok (.newarray .int, 2) := by decide +kernel
theorem dX8_init_86 : decode cX8_init 86 = .ok (.putfield 48, 3) := by decide +kernel
theorem dX8_init_89 : decode cX8_init 89 = .ok (.aload_n 0, 1) := by decide +kernel
theorem dX8_init_90 : decode cX8_init 90 = .ok (.bipush 12, 2) := by decide +kernel
theorem dX8_init_92 : decode cX8_init 92 = .ok (.newarray .int, 2) := by decide +kernel
theorem dX8_init_94 : decode cX8_init 94 = .ok (.putfield 51, 3) := by decide +kernel
theorem dX8_init_97 : decode cX8_init 97 = .ok (.aload_n 0, 1) := by decide +kernel
theorem dX8_init_98 : decode cX8_init 98 = .ok (.iconst 0, 1) := by decide +kernel
theorem dX8_init_99 : decode cX8_init 99 = .ok (.putfield 54, 3) := by decide +kernel
theorem dX8_wallBetween_0 : decode cX8_wallBetween 0 = .ok (.iconst 0, 1) := by decide +kernel
theorem dX8_wallBetween_1 : decode cX8_wallBetween 1 = .ok (.istore_n 3, 1) := by decide +kernel
theorem dX8_wallBetween_2 : decode cX8_wallBetween 2 = .ok (.iload_n 3, 1) := by decide +kernel
theorem dX8_wallBetween_3 : decode cX8_wallBetween 3 = .ok (.aload_n 0, 1) := by decide +kernel
theorem dX8_wallBetween_4 : decode cX8_wallBetween 4 = .ok (.getfield 36, 3) := by decide +kernel
theorem dX8_wallBetween_7 : decode cX8_wallBetween 7 = .ok (.if_icmp .ge 63, 3) := by decide +kernel
theorem dX8_wallBetween_70 : decode cX8_wallBetween 70 = .ok (.iconst (-1), 1) := by decide +kernel
theorem dX8_wallBetween_71 : decode cX8_wallBetween 71 = .ok (.ireturn, 1) := by decide +kernel
theorem dX9_changeAll_0 : decode cX9_changeAll 0 = .ok (.aload_n 0, 1) := by decide +kernel
theorem dX9_changeAll_1 : decode cX9_changeAll 1 = .ok (.invokevirtual 50, 3) := by decide +kernel
theorem dX9_changeAll_4 : decode cX9_changeAll 4 = .ok (.aload_n 0, 1) := by decide +kernel
theorem dX9_changeAll_5 : decode cX9_changeAll 5 = .ok (.iconst 1, 1) := by decide +kernel
theorem dX9_changeAll_6 : decode cX9_changeAll 6 = .ok (.putfield 39, 3) := by decide +kernel
theorem dX9_changeAll_9 : decode cX9_changeAll 9 = .ok (.return_, 1) := by decide +kernel
theorem dX9_changeWalls_0 : decode cX9_changeWalls 0 = .ok (.aload_n 0, 1) := by decide +kernel
theorem dX9_changeWalls_1 : decode cX9_changeWalls 1 = .ok (.dup, 1) := by decide +kernel
theorem dX9_changeWalls_10 : decode cX9_changeWalls 10 = .ok (.aload_n 0, 1) := by decide +kernel
theorem dX9_changeWalls_11 : decode cX9_changeWalls 11 = .ok (.iconst 1, 1) := by decide +kernel
theorem dX9_changeWalls_12 : decode cX9_changeWalls 12 = .ok (.putfield 35, 3) := by decide +kernel
theorem dX9_changeWalls_15 : decode cX9_changeWalls 15 = .ok (.return_, 1) := by decide +kernel
theorem dX9_changeWalls_2 : decode cX9_changeWalls 2 = .ok (.getfield 31, 3) := by decide +kernel
theorem dX9_changeWalls_5 : decode cX9_changeWalls 5 = .ok (.iconst 1, 1) := by decide +kernel
theorem dX9_changeWalls_6 : decode cX9_changeWalls 6 = .ok (.iadd, 1) := by decide +kernel
theorem dX9_changeWalls_7 : decode cX9_changeWalls 7 = .ok (.putfield 31, 3) := by decide +kernel
theorem dX9_degree_0 : decode cX9_degree 0 = .ok (.aload_n 0, 1) := by decide +kernel
theorem dX9_degree_1 : decode cX9_degree 1 = .ok (.getfield 22, 3) := by decide +kernel
theorem dX9_degree_10 : decode cX9_degree 10 = .ok (.aload_n 0, 1) := by decide +kernel
theorem dX9_degree_11 : decode cX9_degree 11 = .ok (.iload_n 1, 1) := by decide +kernel
theorem dX9_degree_12 : decode cX9_degree 12 = .ok (.invokevirtual 72, 3) := by decide +kernel
theorem dX9_degree_15 : decode cX9_degree 15 = .ok (.aload_n 0, 1) := by decide +kernel
theorem dX9_degree_16 : decode cX9_degree 16 = .ok (.getfield 22, 3) := by decide +kernel
theorem dX9_degree_19 : decode cX9_degree 19 = .ok (.iload_n 1, 1) := by decide +kernel
theorem dX9_degree_20 : decode cX9_degree 20 = .ok (.iaload, 1) := by decide +kernel
theorem dX9_degree_21 : decode cX9_degree 21 = .ok (.ireturn, 1) := by decide +kernel
theorem dX9_degree_4 : decode cX9_degree 4 = .ok (.iload_n 1, 1) := by decide +kernel
theorem dX9_degree_5 : decode cX9_degree 5 = .ok (.iaload, 1) := by decide +kernel
theorem dX9_degree_6 : decode cX9_degree 6 = .ok (.iconst (-1), 1) := by decide +kernel
theorem dX9_degree_7 : decode cX9_degree 7 = .ok (.if_icmp .ne 8, 3) := by decide +kernel
theorem dX9_findSteps_0 : decode cX9_findSteps 0 = .ok (.aload_n 0, 1) := by decide +kernel
theorem dX9_findSteps_1 : decode cX9_findSteps 1 = .ok (.getfield 22, 3) := by decide +kernel
theorem dX9_findSteps_11 : decode cX9_findSteps 11 = .ok (.invokevirtual 76, 3) := by decide +kernel
theorem dX9_findSteps_14 : decode cX9_findSteps 14 = .ok (.istore_n 2, 1) := by decide +kernel
theorem dX9_findSteps_15 : decode cX9_findSteps 15 = .ok (.aload_n 0, 1) := by decide +kernel
theorem dX9_findSteps_16 : decode cX9_findSteps 16 = .ok (.getfield 46, 3) := by decide +kernel
theorem dX9_findSteps_171 : decode cX9_findSteps 171 = .ok (.aload_n 0, 1) := by decide +kernel
theorem dX9_findSteps_172 : decode cX9_findSteps 172 = .ok (.getfield 46, 3) := by decide +kernel
theorem dX9_findSteps_175 : decode cX9_findSteps 175 = .ok (.iload_n 3, 1) := by decide +kernel
theorem dX9_findSteps_176 : decode cX9_findSteps 176 = .ok (.invokevirtual 142, 3) := by decide +kernel
theorem dX9_findSteps_179 : decode cX9_findSteps 179 = .ok (.istore 6, 2) := by decide +kernel
theorem dX9_findSteps_181 : decode cX9_findSteps 181 = .ok (.aload_n 0, 1) := by decide +kernel
theorem dX9_findSteps_182 : decode cX9_findSteps 182 = .ok (.getfield 42, 3) := by decide +kernel
theorem dX9_findSteps_185 : decode cX9_findSteps 185 = .ok (.getfield 79, 3) := by decide +kernel
theorem dX9_findSteps_188 : decode cX9_findSteps 188 = .ok (.iconst 0, 1) := by decide +kernel
theorem dX9_findSteps_189 : decode cX9_findSteps 189 = .ok (.iaload, 1) := by decide +kernel
theorem dX9_findSteps_19 : decode cX9_findSteps 19 = .ok (.iload_n 1, 1) := by decide +kernel
theorem dX9_findSteps_190 : decode cX9_findSteps 190 = .ok (.iconst 1, 1) := by decide +kernel
theorem dX9_findSteps_191 : decode cX9_findSteps 191 = .ok (.if_icmp .ne 24, 3) := by decide +kernel
theorem dX9_findSteps_20 : decode cX9_findSteps 20 = .ok (.invokevirtual 121, 3) := by decide +kernel
theorem dX9_findSteps_215 : decode cX9_findSteps 215 = .ok (.return_, 1) := by decide +kernel
theorem dX9_findSteps_23 : decode cX9_findSteps 23 = .ok (.istore_n 3, 1) := by decide +kernel
theorem dX9_findSteps_24 : decode cX9_findSteps 24 = .ok (.iload_n 3, 1) := by decide +kernel
theorem dX9_findSteps_25 : decode cX9_findSteps 25 = .ok (.aload_n 0, 1) := by decide +kernel
theorem dX9_findSteps_26 : decode cX9_findSteps 26 = .ok (.getfield 46, 3) := by decide +kernel
theorem dX9_findSteps_29 : decode cX9_findSteps 29 = .ok (.iconst 0, 1) := by decide +kernel
theorem dX9_findSteps_30 : decode cX9_findSteps 30 = .ok (.invokevirtual 125, 3) := by decide +kernel
theorem dX9_findSteps_33 : decode cX9_findSteps 33 = .ok (.invokestatic 128, 3) := by decide +kernel
theorem dX9_findSteps_36 : decode cX9_findSteps 36 = .ok (.istore 4, 2) := by decide +kernel
theorem dX9_findSteps_38 : decode cX9_findSteps 38 = .ok (.iconst 0, 1) := by decide +kernel
theorem dX9_findSteps_39 : decode cX9_findSteps 39 = .ok (.istore 5, 2) := by decide +kernel
theorem dX9_findSteps_4 : decode cX9_findSteps 4 = .ok (.iload_n 1, 1) := by decide +kernel
theorem dX9_findSteps_41 : decode cX9_findSteps 41 = .ok (.iconst 0, 1) := by decide +kernel
theorem dX9_findSteps_42 : decode cX9_findSteps 42 = .ok (.istore 6, 2) := by decide +kernel
theorem dX9_findSteps_44 : decode cX9_findSteps 44 = .ok (.iload 6, 2) := by decide +kernel
theorem dX9_findSteps_46 : decode cX9_findSteps 46 = .ok (.iload_n 2, 1) := by decide +kernel
theorem dX9_findSteps_47 : decode cX9_findSteps 47 = .ok (.if_icmp .ge 124, 3) := by decide +kernel
theorem dX9_findSteps_5 : decode cX9_findSteps 5 = .ok (.iconst 0, 1) := by decide +kernel
theorem dX9_findSteps_6 : decode cX9_findSteps 6 = .ok (.iastore, 1) := by decide +kernel
theorem dX9_findSteps_7 : decode cX9_findSteps 7 = .ok (.aload_n 0, 1) := by decide +kernel
theorem dX9_findSteps_8 : decode cX9_findSteps 8 = .ok (.getfield 46, 3) := by decide +kernel
theorem dX9_init_0 : decode cX9_init 0 = .ok (.aload_n 0, 1) := by decide +kernel
theorem dX9_init_1 : decode cX9_init 1 = .ok (.invokespecial 3, 3) := by decide +kernel
theorem dX9_init_12 : decode cX9_init 12 = .ok (.putfield 12, 3) := by decide +kernel
theorem dX9_init_15 : decode cX9_init 15 = .ok (.aload_n 0, 1) := by decide +kernel
theorem dX9_init_16 : decode cX9_init 16 = .ok (.iconst 0, 1) := by decide +kernel
theorem dX9_init_17 : decode cX9_init 17 = .ok (.newarray .int, 2) := by decide +kernel
theorem dX9_init_19 : decode cX9_init 19 = .ok (.putfield 18, 3) := by decide +kernel
theorem dX9_init_22 : decode cX9_init 22 = .ok (.aload_n 0, 1) := by decide +kernel
theorem dX9_init_23 : decode cX9_init 23 = .ok (.sipush 1260, 3) := by decide +kernel
theorem dX9_init_26 : decode cX9_init 26 = .ok (.newarray .int, 2) := by decide +kernel
theorem dX9_init_28 : decode cX9_init 28 = .ok (.putfield 22, 3) := by decide +kernel
theorem dX9_init_31 : decode cX9_init 31 = .ok (.aload_n 0, 1) := by decide +kernel
theorem dX9_init_32 : decode cX9_init 32 = .ok (.iconst 0, 1) := by decide +kernel
theorem dX9_init_33 : decode cX9_init 33 = .ok (.newarray .int, 2) := by decide +kernel
theorem dX9_init_35 : decode cX9_init 35 = .ok (.putfield 25, 3) := by decide +kernel
theorem dX9_init_38 : decode cX9_init 38 = .ok (.aload_n 0, 1) := by decide +kernel
theorem dX9_init_39 : decode cX9_init 39 = .ok (.sipush 2625, 3) := by decide +kernel
theorem dX9_init_4 : decode cX9_init 4 = .ok (.aload_n 0, 1) := by decide +kernel
theorem dX9_init_42 : decode cX9_init 42 = .ok (.newarray .int, 2) := by decide +kernel
theorem dX9_init_44 : decode cX9_init 44 = .ok (.putfield 28, 3) := by decide +kernel
theorem dX9_init_47 : decode cX9_init 47 = .ok (.aload_n 0, 1) := by decide +kernel
theorem dX9_init_48 : decode cX9_init 48 = .ok (.iconst 0, 1) := by decide +kernel
theorem dX9_init_49 : decode cX9_init 49 = .ok (.putfield 31, 3) := by decide +kernel
theorem dX9_init_5 : decode cX9_init 5 = .ok (.new 9, 3) := by decide +kernel
theorem dX9_init_52 : decode cX9_init 52 = .ok (.aload_n 0, 1) := by decide +kernel
theorem dX9_init_53 : decode cX9_init 53 = .ok (.iconst 1, 1) := by decide +kernel
theorem dX9_init_54 : decode cX9_init 54 = .ok (.putfield 35, 3) := by decide +kernel
theorem dX9_init_57 : decode cX9_init 57 = .ok (.aload_n 0, 1) := by decide +kernel
theorem dX9_init_58 : decode cX9_init 58 = .ok (.iconst 1, 1) := by decide +kernel
theorem dX9_init_59 : decode cX9_init 59 = .ok (.putfield 39, 3) := by decide +kernel
theorem dX9_init_62 : decode cX9_init 62 = .ok (.aload_n 0, 1) := by decide +kernel
theorem dX9_init_63 : decode cX9_init 63 = .ok (.aload_n 1, 1) := by decide +kernel
theorem dX9_init_64 : decode cX9_init 64 = .ok (.putfield 42, 3) := by decide +kernel
