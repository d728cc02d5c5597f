abbrev MX12_sign : jM := (RX12, cX12_sign, 1, some .int, false)
abbrev MX12_codeAt : jM := (RX12, cX12_codeAt, 2, some .int, false)
theorem fl_X12_237 : jFL RX12 237 12 19 := ⟨_, _, _, rfl, iX12, by decide, Or.inl (jt6 93 rfl rfl)⟩
abbrev MX12_passes0 : jM := (RX12, cX12_passes0, 3, some .boolean, false)
theorem fl_X12_240 : jFL RX12 240 12 18 := ⟨_, _, _, rfl, iX12, by decide, Or.inl (jt6 92 rfl rfl)⟩
theorem cv_X12_243 : jCV RX12 243 12 yX12_codeAt MX12_codeAt 1 := ⟨_, _, rfl, (jt7 195 rfl rfl), (jt7 194 rfl rfl), (jtp (q := (⟨"BeanStreetModel", "codeAt", "(I)I"⟩, 56)) (List.mem_of_getElem? (i := 82) rfl)), (jt1 13 rfl rfl), ⟨by decide, by decide, by decide +kernel⟩, Or.inl (jt7 192 rfl rfl)⟩
theorem fw_X12_240 : jFW RX12 240 12 18 (.int) false := ⟨_, _, _, tyX12, rfl, iX12, tyX12_ok, nmX12, by decide, rfl, rfl, (fun h => by cases h), Or.inl (jt6 92 rfl rfl)⟩
abbrev MX12_bounded : jM := (RX12, cX12_bounded, 4, some .long, false)
theorem fl_X12_250 : jFL RX12 250 12 20 := ⟨_, _, _, rfl, iX12, by decide, Or.inl (jt6 94 rfl rfl)⟩
theorem fw_X12_250 : jFW RX12 250 12 20 (.boolean) false := ⟨_, _, _, tyX12, rfl, iX12, tyX12_ok, nmX12, by decide, rfl, rfl, (fun h => by cases h), Or.inl (jt6 94 rfl rfl)⟩
abbrev MX12_partOf : jM := (RX12, cX12_partOf, 4, some .long, false)
theorem cs_X12_215 : jCS RX12 215 yX12_sign MX12_sign 1 := ⟨(jt7 115 rfl rfl), (jt7 114 rfl rfl), (jt1 13 rfl rfl), ⟨by decide, by decide, by decide +kernel⟩, Or.inl (jt7 113 rfl rfl)⟩
theorem cv_X12_265 : jCV RX12 265 12 yX12_passes0 MX12_passes0 1 := ⟨_, _, rfl, (jt7 211 rfl rfl), (jt7 210 rfl rfl), (jtp (q := (⟨"BeanStreetModel", "passes0", "(I)Z"⟩, 56)) (List.mem_of_getElem? (i := 86) rfl)), (jt1 13 rfl rfl), ⟨by decide, by decide, by decide +kernel⟩, Or.inl (jt7 208 rfl rfl)⟩
abbrev MX12_sumOf : jM := (RX12, cX12_sumOf, 7, some .long, false)
theorem cv_X12_268 : jCV RX12 268 12 yX12_sumOf MX12_sumOf 1 := ⟨_, _, rfl, (jt7 199 rfl rfl), (jt7 198 rfl rfl), (jtp (q := (⟨"BeanStreetModel", "sumOf", "(Z)J"⟩, 56)) (List.mem_of_getElem? (i := 83) rfl)), (jt1 13 rfl rfl), ⟨by decide, by decide, by decide +kernel⟩, Or.inl (jt7 196 rfl rfl)⟩
theorem fl_X12_52 : jFL RX12 52 12 21 := ⟨_, _, _, rfl, iX12, by decide, Or.inl (jt6 95 rfl rfl)⟩
abbrev MX12_termOf : jM := (RX12, cX12_termOf, 7, some .long, false)
theorem cv_X12_262 : jCV RX12 262 12 yX12_partOf MX12_partOf 1 := ⟨_, _, rfl, (jt7 207 rfl rfl), (jt7 206 rfl rfl), (jtp (q := (⟨"BeanStreetModel", "partOf", "(Z)J"⟩, 56)) (List.mem_of_getElem? (i := 85) rfl)), (jt1 13 rfl rfl), ⟨by decide, by decide, by decide +kernel⟩, Or.inl (jt7 204 rfl rfl)⟩
theorem cv_X12_258 : jCV RX12 258 12 yX12_bounded MX12_bounded 2 := ⟨_, _, rfl, (jt7 215 rfl rfl), (jt7 214 rfl rfl), (jtp (q := (⟨"BeanStreetModel", "bounded", "(JZ)J"⟩, 56)) (List.mem_of_getElem? (i := 87) rfl)), (jt1 13 rfl rfl), ⟨by decide, by decide, by decide +kernel⟩, Or.inl (jt7 212 rfl rfl)⟩
theorem cv_X12_254 : jCV RX12 254 12 yX12_termOf MX12_termOf 1 := ⟨_, _, rfl, (jt7 203 rfl rfl), (jt7 202 rfl rfl), (jtp (q := (⟨"BeanStreetModel", "termOf", "(Z)J"⟩, 56)) (List.mem_of_getElem? (i := 84) rfl)), (jt1 13 rfl rfl), ⟨by decide, by decide, by decide +kernel⟩, Or.inl (jt7 200 rfl rfl)⟩
theorem dX12_sign_0 : decode cX12_sign 0 = .ok (.bipush 100, 2) := by decide +kernel
theorem dX12_sign_2 : decode cX12_sign 2 = .ok (.iload_n 0, 1) := by decide +kernel
theorem dX12_sign_3 : decode cX12_sign 3 = .ok (.iadd, 1) := by decide +kernel
theorem dX12_sign_4 : decode cX12_sign 4 = .ok (.ireturn, 1) := by decide +kernel
theorem dX12_codeAt_0 : decode cX12_codeAt 0 = .ok (.iload_n 1, 1) := by decide +kernel
theorem dX12_codeAt_1 : decode cX12_codeAt 1 = .ok (.aload_n 0, 1) := by decide +kernel
theorem dX12_codeAt_2 : decode cX12_codeAt 2 = .ok (.getfield 237, 3) := by decide +kernel
theorem dX12_codeAt_5 : decode cX12_codeAt 5 = .ok (.if_icmp .ge 15, 3) := by decide +kernel
theorem dX12_codeAt_20 : decode cX12_codeAt 20 = .ok (.iconst 0, 1) := by decide +kernel
theorem dX12_codeAt_21 : decode cX12_codeAt 21 = .ok (.ireturn, 1) := by decide +kernel
theorem dX12_codeAt_8 : decode cX12_codeAt 8 = .ok (.aload_n 0, 1) := by decide +kernel
theorem dX12_codeAt_9 : decode cX12_codeAt 9 = .ok (.getfield 20, 3) := by decide +kernel
theorem dX12_codeAt_12 : decode cX12_codeAt 12 = .ok (.bipush 70, 2) := by decide +kernel
theorem dX12_codeAt_14 : decode cX12_codeAt 14 = .ok (.iload_n 1, 1) := by decide +kernel
theorem dX12_codeAt_15 : decode cX12_codeAt 15 = .ok (.iadd, 1) := by decide +kernel
theorem dX12_codeAt_16 : decode cX12_codeAt 16 = .ok (.iaload, 1) := by decide +kernel
theorem dX12_codeAt_17 : decode cX12_codeAt 17 = .ok (.goto 4, 3) := by decide +kernel
theorem dX12_passes0_0 : decode cX12_passes0 0 = .ok (.aload_n 0, 1) := by decide +kernel
theorem dX12_passes0_1 : decode cX12_passes0 1 = .ok (.aload_n 0, 1) := by decide +kernel
theorem dX12_passes0_2 : decode cX12_passes0 2 = .ok (.getfield 240, 3) := by decide +kernel
theorem dX12_passes0_5 : decode cX12_passes0 5 = .ok (.invokevirtual 243, 3) := by decide +kernel
theorem dX12_passes0_8 : decode cX12_passes0 8 = .ok (.iload_n 1, 1) := by decide +kernel
theorem dX12_passes0_9 : decode cX12_passes0 9 = .ok (.if_icmp .ne 7, 3) := by decide +kernel
theorem dX12_passes0_16 : decode cX12_passes0 16 = .ok (.iconst 0, 1) := by decide +kernel
theorem dX12_passes0_17 : decode cX12_passes0 17 = .ok (.istore_n 2, 1) := by decide +kernel
theorem dX12_passes0_18 : decode cX12_passes0 18 = .ok (.iload_n 2, 1) := by decide +kernel
theorem dX12_passes0_19 : decode cX12_passes0 19 = .ok (.ifCond .eq 13, 3) := by decide +kernel
theorem dX12_passes0_32 : decode cX12_passes0 32 = .ok (.iload_n 2, 1) := by decide +kernel
theorem dX12_passes0_33 : decode cX12_passes0 33 = .ok (.ireturn, 1) := by decide +kernel
theorem dX12_passes0_12 : decode cX12_passes0 12 = .ok (.iconst 1, 1) := by decide +kernel
theorem dX12_passes0_13 : decode cX12_passes0 13 = .ok (.goto 4, 3) := by decide +kernel
theorem dX12_passes0_22 : decode cX12_passes0 22 = .ok (.aload_n 0, 1) := by decide +kernel
theorem dX12_passes0_23 : decode cX12_passes0 23 = .ok (.dup, 1) := by decide +kernel
theorem dX12_passes0_24 : decode cX12_passes0 24 = .ok (.getfield 240, 3) := by decide +kernel
theorem dX12_passes0_27 : decode cX12_passes0 27 = .ok (.iconst 1, 1) := by decide +kernel
theorem dX12_passes0_28 : decode cX12_passes0 28 = .ok (.iadd, 1) := by decide +kernel
theorem dX12_passes0_29 : decode cX12_passes0 29 = .ok (.putfield 240, 3) := by decide +kernel
theorem dX12_bounded_0 : decode cX12_bounded 0 = .ok (.iload_n 3, 1) := by decide +kernel
theorem dX12_bounded_1 : decode cX12_bounded 1 = .ok (.ifCond .eq 24, 3) := by decide +kernel
theorem dX12_bounded_25 : decode cX12_bounded 25 = .ok (.aload_n 0, 1) := by decide +kernel
theorem dX12_bounded_26 : decode cX12_bounded 26 = .ok (.getfield 250, 3) := by decide +kernel
theorem dX12_bounded_29 : decode cX12_bounded 29 = .ok (.ifCond .eq 7, 3) := by decide +kernel
theorem dX12_bounded_36 : decode cX12_bounded 36 = .ok (.lload_n 1, 1) := by decide +kernel
theorem dX12_bounded_37 : decode cX12_bounded 37 = .ok (.lreturn, 1) := by decide +kernel
theorem dX12_bounded_32 : decode cX12_bounded 32 = .ok (.lconst 0, 1) := by decide +kernel
theorem dX12_bounded_33 : decode cX12_bounded 33 = .ok (.goto 4, 3) := by decide +kernel
theorem dX12_bounded_4 : decode cX12_bounded 4 = .ok (.lload_n 1, 1) := by decide +kernel
theorem dX12_bounded_5 : decode cX12_bounded 5 = .ok (.ldc2_w 246, 3) := by decide +kernel
theorem dX12_bounded_8 : decode cX12_bounded 8 = .ok (.lcmp, 1) := by decide +kernel
theorem dX12_bounded_9 : decode cX12_bounded 9 = .ok (.ifCond .gt 11, 3) := by decide +kernel
theorem dX12_bounded_20 : decode cX12_bounded 20 = .ok (.aload_n 0, 1) := by decide +kernel
theorem dX12_bounded_21 : decode cX12_bounded 21 = .ok (.iconst 1, 1) := by decide +kernel
theorem dX12_bounded_22 : decode cX12_bounded 22 = .ok (.putfield 250, 3) := by decide +kernel
theorem dX12_bounded_12 : decode cX12_bounded 12 = .ok (.lload_n 1, 1) := by decide +kernel
theorem dX12_bounded_13 : decode cX12_bounded 13 = .ok (.ldc2_w 248, 3) := by decide +kernel
theorem dX12_bounded_16 : decode cX12_bounded 16 = .ok (.lcmp, 1) := by decide +kernel
theorem dX12_bounded_17 : decode cX12_bounded 17 = .ok (.ifCond .ge 8, 3) := by decide +kernel
theorem dX12_partOf_0 : decode cX12_partOf 0 = .ok (.aload_n 0, 1) := by decide +kernel
theorem dX12_partOf_1 : decode cX12_partOf 1 = .ok (.bipush 91, 2) := by decide +kernel
theorem dX12_partOf_3 : decode cX12_partOf 3 = .ok (.invokestatic 215, 3) := by decide +kernel
theorem dX12_partOf_6 : decode cX12_partOf 6 = .ok (.invokevirtual 265, 3) := by decide +kernel
theorem dX12_partOf_9 : decode cX12_partOf 9 = .ok (.ifCond .eq 21, 3) := by decide +kernel
theorem dX12_partOf_12 : decode cX12_partOf 12 = .ok (.aload_n 0, 1) := by decide +kernel
theorem dX12_partOf_13 : decode cX12_partOf 13 = .ok (.iload_n 1, 1) := by decide +kernel
theorem dX12_partOf_14 : decode cX12_partOf 14 = .ok (.invokevirtual 268, 3) := by decide +kernel
theorem dX12_partOf_17 : decode cX12_partOf 17 = .ok (.lstore_n 2, 1) := by decide +kernel
theorem dX12_partOf_18 : decode cX12_partOf 18 = .ok (.aload_n 0, 1) := by decide +kernel
theorem dX12_partOf_19 : decode cX12_partOf 19 = .ok (.dup, 1) := by decide +kernel
theorem dX12_partOf_20 : decode cX12_partOf 20 = .ok (.getfield 240, 3) := by decide +kernel
theorem dX12_partOf_23 : decode cX12_partOf 23 = .ok (.iconst 1, 1) := by decide +kernel
theorem dX12_partOf_24 : decode cX12_partOf 24 = .ok (.iadd, 1) := by decide +kernel
theorem dX12_partOf_25 : decode cX12_partOf 25 = .ok (.putfield 240, 3) := by decide +kernel
theorem dX12_partOf_28 : decode cX12_partOf 28 = .ok (.lload_n 2, 1) := by decide +kernel
theorem dX12_partOf_29 : decode cX12_partOf 29 = .ok (.lreturn, 1) := by decide +kernel
theorem dX12_partOf_30 : decode cX12_partOf 30 = .ok (.aload_n 0, 1) := by decide +kernel
theorem dX12_partOf_31 : decode cX12_partOf 31 = .ok (.aload_n 0, 1) := by decide +kernel
theorem dX12_partOf_32 : decode cX12_partOf 32 = .ok (.getfield 240, 3) := by decide +kernel
theorem dX12_partOf_35 : decode cX12_partOf 35 = .ok (.invokevirtual 243, 3) := by decide +kernel
theorem dX12_partOf_38 : decode cX12_partOf 38 = .ok (.istore_n 2, 1) := by decide +kernel
theorem dX12_partOf_39 : decode cX12_partOf 39 = .ok (.aload_n 0, 1) := by decide +kernel
theorem dX12_partOf_40 : decode cX12_partOf 40 = .ok (.dup, 1) := by decide +kernel
theorem dX12_partOf_41 : decode cX12_partOf 41 = .ok (.getfield 240, 3) := by decide +kernel
theorem dX12_partOf_44 : decode cX12_partOf 44 = .ok (.iconst 1, 1) := by decide +kernel
theorem dX12_partOf_45 : decode cX12_partOf 45 = .ok (.iadd, 1) := by decide +kernel
theorem dX12_partOf_46 : decode cX12_partOf 46 = .ok (.putfield 240, 3) := by decide +kernel
theorem dX12_partOf_49 : decode cX12_partOf 49 = .ok (.iload_n 1, 1) := by decide +kernel
theorem dX12_partOf_50 : decode cX12_partOf 50 = .ok (.ifCond .eq 10, 3) := by decide +kernel
theorem dX12_partOf_60 : decode cX12_partOf 60 = .ok (.lconst 0, 1) := by decide +kernel
theorem dX12_partOf_61 : decode cX12_partOf 61 = .ok (.lreturn, 1) := by decide +kernel
theorem dX12_partOf_53 : decode cX12_partOf 53 = .ok (.aload_n 0, 1) := by decide +kernel
theorem dX12_partOf_54 : decode cX12_partOf 54 = .ok (.getfield 250, 3) := by decide +kernel
theorem dX12_partOf_57 : decode cX12_partOf 57 = .ok (.ifCond .eq 5, 3) := by decide +kernel
theorem dX12_partOf_62 : decode cX12_partOf 62 = .ok (.iload_n 2, 1) := by decide +kernel
theorem dX12_partOf_63 : decode cX12_partOf 63 = .ok (.bipush 50, 2) := by decide +kernel
theorem dX12_partOf_65 : decode cX12_partOf 65 = .ok (.if_icmp .ne 22, 3) := by decide +kernel
theorem dX12_partOf_87 : decode cX12_partOf 87 = .ok (.aload_n 0, 1) := by decide +kernel
theorem dX12_partOf_88 : decode cX12_partOf 88 = .ok (.getfield 52, 3) := by decide +kernel
theorem dX12_partOf_91 : decode cX12_partOf 91 = .ok (.iload_n 2, 1) := by decide +kernel
theorem dX12_partOf_92 : decode cX12_partOf 92 = .ok (.bipush 8, 2) := by decide +kernel
theorem dX12_partOf_94 : decode cX12_partOf 94 = .ok (.isub, 1) := by decide +kernel
theorem dX12_partOf_95 : decode cX12_partOf 95 = .ok (.iaload, 1) := by decide +kernel
theorem dX12_partOf_96 : decode cX12_partOf 96 = .ok (.i2l, 1) := by decide +kernel
theorem dX12_partOf_97 : decode cX12_partOf 97 = .ok (.lreturn, 1) := by decide +kernel
theorem dX12_partOf_68 : decode cX12_partOf 68 = .ok (.aload_n 0, 1) := by decide +kernel
theorem dX12_partOf_69 : decode cX12_partOf 69 = .ok (.getfield 20, 3) := by decide +kernel
theorem dX12_partOf_72 : decode cX12_partOf 72 = .ok (.sipush 2470, 3) := by decide +kernel
theorem dX12_partOf_75 : decode cX12_partOf 75 = .ok (.aload_n 0, 1) := by decide +kernel
theorem dX12_partOf_76 : decode cX12_partOf 76 = .ok (.getfield 240, 3) := by decide +kernel
theorem dX12_partOf_79 : decode cX12_partOf 79 = .ok (.iadd, 1) := by decide +kernel
theorem dX12_partOf_80 : decode cX12_partOf 80 = .ok (.iconst 1, 1) := by decide +kernel
theorem dX12_partOf_81 : decode cX12_partOf 81 = .ok (.isub, 1) := by decide +kernel
theorem dX12_partOf_82 : decode cX12_partOf 82 = .ok (.iaload, 1) := by decide +kernel
theorem dX12_partOf_83 : decode cX12_partOf 83 = .ok (.i2l, 1) := by decide +kernel
theorem dX12_partOf_84 : decode cX12_partOf 84 = .ok (.goto 13, 3) := by decide +kernel
theorem dX12_termOf_0 : decode cX12_termOf 0 = .ok (.aload_n 0, 1) := by decide +kernel
theorem dX12_termOf_1 : decode cX12_termOf 1 = .ok (.iload_n 1, 1) := by decide +kernel
theorem dX12_termOf_2 : decode cX12_termOf 2 = .ok (.invokevirtual 262, 3) := by decide +kernel
theorem dX12_termOf_5 : decode cX12_termOf 5 = .ok (.lstore_n 2, 1) := by decide +kernel
theorem dX12_termOf_6 : decode cX12_termOf 6 = .ok (.aload_n 0, 1) := by decide +kernel
theorem dX12_termOf_7 : decode cX12_termOf 7 = .ok (.aload_n 0, 1) := by decide +kernel
theorem dX12_termOf_8 : decode cX12_termOf 8 = .ok (.getfield 240, 3) := by decide +kernel
theorem dX12_termOf_11 : decode cX12_termOf 11 = .ok (.invokevirtual 243, 3) := by decide +kernel
theorem dX12_termOf_14 : decode cX12_termOf 14 = .ok (.bipush 42, 2) := by decide +kernel
theorem dX12_termOf_16 : decode cX12_termOf 16 = .ok (.invokestatic 215, 3) := by decide +kernel
theorem dX12_termOf_19 : decode cX12_termOf 19 = .ok (.if_icmp .eq 19, 3) := by decide +kernel
theorem dX12_termOf_38 : decode cX12_termOf 38 = .ok (.aload_n 0, 1) := by decide +kernel
theorem dX12_termOf_39 : decode cX12_termOf 39 = .ok (.aload_n 0, 1) := by decide +kernel
theorem dX12_termOf_40 : decode cX12_termOf 40 = .ok (.getfield 240, 3) := by decide +kernel
theorem dX12_termOf_43 : decode cX12_termOf 43 = .ok (.invokevirtual 243, 3) := by decide +kernel
theorem dX12_termOf_46 : decode cX12_termOf 46 = .ok (.bipush 42, 2) := by decide +kernel
theorem dX12_termOf_48 : decode cX12_termOf 48 = .ok (.invokestatic 215, 3) := by decide +kernel
theorem dX12_termOf_51 : decode cX12_termOf 51 = .ok (.if_icmp .ne 7, 3) := by decide +kernel
theorem dX12_termOf_54 : decode cX12_termOf 54 = .ok (.iconst 1, 1) := by decide +kernel
theorem dX12_termOf_55 : decode cX12_termOf 55 = .ok (.goto 4, 3) := by decide +kernel
theorem dX12_termOf_59 : decode cX12_termOf 59 = .ok (.istore 4, 2) := by decide +kernel
theorem dX12_termOf_61 : decode cX12_termOf 61 = .ok (.aload_n 0, 1) := by decide +kernel
theorem dX12_termOf_62 : decode cX12_termOf 62 = .ok (.dup, 1) := by decide +kernel
theorem dX12_termOf_63 : decode cX12_termOf 63 = .ok (.getfield 240, 3) := by decide +kernel
theorem dX12_termOf_66 : decode cX12_termOf 66 = .ok (.iconst 1, 1) := by decide +kernel
theorem dX12_termOf_67 : decode cX12_termOf 67 = .ok (.iadd, 1) := by decide +kernel
theorem dX12_termOf_68 : decode cX12_termOf 68 = .ok (.putfield 240, 3) := by decide +kernel
theorem dX12_termOf_71 : decode cX12_termOf 71 = .ok (.aload_n 0, 1) := by decide +kernel
theorem dX12_termOf_72 : decode cX12_termOf 72 = .ok (.iload_n 1, 1) := by decide +kernel
theorem dX12_termOf_73 : decode cX12_termOf 73 = .ok (.invokevirtual 262, 3) := by decide +kernel
theorem dX12_termOf_76 : decode cX12_termOf 76 = .ok (.lstore 5, 2) := by decide +kernel
theorem dX12_termOf_78 : decode cX12_termOf 78 = .ok (.iload 4, 2) := by decide +kernel
theorem dX12_termOf_80 : decode cX12_termOf 80 = .ok (.ifCond .ne 33, 3) := by decide +kernel
theorem dX12_termOf_113 : decode cX12_termOf 113 = .ok (.aload_n 0, 1) := by decide +kernel
theorem dX12_termOf_114 : decode cX12_termOf 114 = .ok (.iload 4, 2) := by decide +kernel
theorem dX12_termOf_116 : decode cX12_termOf 116 = .ok (.ifCond .eq 10, 3) := by decide +kernel
theorem dX12_termOf_119 : decode cX12_termOf 119 = .ok (.lload_n 2, 1) := by decide +kernel
theorem dX12_termOf_120 : decode cX12_termOf 120 = .ok (.lload 5, 2) := by decide +kernel
theorem dX12_termOf_122 : decode cX12_termOf 122 = .ok (.lmul, 1) := by decide +kernel
theorem dX12_termOf_123 : decode cX12_termOf 123 = .ok (.goto 7, 3) := by decide +kernel
theorem dX12_termOf_130 : decode cX12_termOf 130 = .ok (.iload_n 1, 1) := by decide +kernel
theorem dX12_termOf_131 : decode cX12_termOf 131 = .ok (.invokevirtual 258, 3) := by decide +kernel
theorem dX12_termOf_134 : decode cX12_termOf 134 = .ok (.lstore_n 2, 1) := by decide +kernel
theorem dX12_termOf_135 : decode cX12_termOf 135 = .ok (.goto (-129), 3) := by decide +kernel
theorem dX12_termOf_22 : decode cX12_termOf 22 = .ok (.aload_n 0, 1) := by decide +kernel
theorem dX12_termOf_23 : decode cX12_termOf 23 = .ok (.aload_n 0, 1) := by decide +kernel
theorem dX12_termOf_24 : decode cX12_termOf 24 = .ok (.getfield 240, 3) := by decide +kernel
theorem dX12_termOf_27 : decode cX12_termOf 27 = .ok (.invokevirtual 243, 3) := by decide +kernel
theorem dX12_termOf_30 : decode cX12_termOf 30 = .ok (.bipush 47, 2) := by decide +kernel
theorem dX12_termOf_32 : decode cX12_termOf 32 = .ok (.invokestatic 215, 3) := by decide +kernel
theorem dX12_termOf_35 : decode cX12_termOf 35 = .ok (.if_icmp .ne 103, 3) := by decide +kernel
theorem dX12_termOf_138 : decode cX12_termOf 138 = .ok (.lload_n 2, 1) := by decide +kernel
theorem dX12_termOf_139 : decode cX12_termOf 139 = .ok (.lreturn, 1) := by decide +kernel
theorem dX12_termOf_58 : decode cX12_termOf 58 = .ok (.iconst 0, 1) := by decide +kernel
theorem dX12_termOf_83 : decode cX12_termOf 83 = .ok (.lload 5, 2) := by decide +kernel
theorem dX12_termOf_85 : decode cX12_termOf 85 = .ok (.lconst 0, 1) := by decide +kernel
theorem dX12_termOf_86 : decode cX12_termOf 86 = .ok (.lcmp, 1) := by decide +kernel
theorem dX12_termOf_87 : decode cX12_termOf 87 = .ok (.ifCond .ne 26, 3) := by decide +kernel
theorem dX12_termOf_126 : decode cX12_termOf 126 = .ok (.lload_n 2, 1) := by decide +kernel
theorem dX12_termOf_127 : decode cX12_termOf 127 = .ok (.lload 5, 2) := by decide +kernel
theorem dX12_termOf_129 : decode cX12_termOf 129 = .ok (.ldiv, 1) := by decide +kernel
theorem dX12_termOf_90 : decode cX12_termOf 90 = .ok (.aload_n 0, 1) := by decide +kernel
theorem dX12_termOf_91 : decode cX12_termOf 91 = .ok (.aload_n 0, 1) := by decide +kernel
theorem dX12_termOf_92 : decode cX12_termOf 92 = .ok (.getfield 250, 3) := by decide +kernel
theorem dX12_termOf_95 : decode cX12_termOf 95 = .ok (.ifCond .ne 7, 3) := by decide +kernel
theorem dX12_termOf_102 : decode cX12_termOf 102 = .ok (.iconst 1, 1) := by decide +kernel
theorem dX12_termOf_103 : decode cX12_termOf 103 = .ok (.goto 4, 3) := by decide +kernel
theorem dX12_termOf_107 : decode cX12_termOf 107 = .ok (.putfield 250, 3) := by decide +kernel
theorem dX12_termOf_110 : decode cX12_termOf 110 = .ok (.lconst 1, 1) := by decide +kernel
theorem dX12_termOf_111 : decode cX12_termOf 111 = .ok (.lstore 5, 2) := by decide +kernel
theorem dX12_termOf_98 : decode cX12_termOf 98 = .ok (.iload_n 1, 1) := by decide +kernel
theorem dX12_termOf_99 : decode cX12_termOf 99 = .ok (.ifCond .eq 7, 3) := by decide +kernel
theorem dX12_termOf_106 : decode cX12_termOf 106 = .ok (.iconst 0, 1) := by decide +kernel
theorem dX12_sumOf_0 : decode cX12_sumOf 0 = .ok (.aload_n 0, 1) := by decide +kernel
theorem dX12_sumOf_1 : decode cX12_sumOf 1 = .ok (.iload_n 1, 1) := by decide +kernel
theorem dX12_sumOf_2 : decode cX12_sumOf 2 = .ok (.invokevirtual 254, 3) := by decide +kernel
theorem dX12_sumOf_5 : decode cX12_sumOf 5 = .ok (.lstore_n 2, 1) := by decide +kernel
theorem dX12_sumOf_6 : decode cX12_sumOf 6 = .ok (.aload_n 0, 1) := by decide +kernel
theorem dX12_sumOf_7 : decode cX12_sumOf 7 = .ok (.aload_n 0, 1) := by decide +kernel
theorem dX12_sumOf_8 : decode cX12_sumOf 8 = .ok (.getfield 240, 3) := by decide +kernel
theorem dX12_sumOf_11 : decode cX12_sumOf 11 = .ok (.invokevirtual 243, 3) := by decide +kernel
theorem dX12_sumOf_14 : decode cX12_sumOf 14 = .ok (.bipush 43, 2) := by decide +kernel
theorem dX12_sumOf_16 : decode cX12_sumOf 16 = .ok (.invokestatic 215, 3) := by decide +kernel
theorem dX12_sumOf_19 : decode cX12_sumOf 19 = .ok (.if_icmp .eq 19, 3) := by decide +kernel
theorem dX12_sumOf_38 : decode cX12_sumOf 38 = .ok (.aload_n 0, 1) := by decide +kernel
theorem dX12_sumOf_39 : decode cX12_sumOf 39 = .ok (.aload_n 0, 1) := by decide +kernel
theorem dX12_sumOf_40 : decode cX12_sumOf 40 = .ok (.getfield 240, 3) := by decide +kernel
theorem dX12_sumOf_43 : decode cX12_sumOf 43 = .ok (.invokevirtual 243, 3) := by decide +kernel
theorem dX12_sumOf_46 : decode cX12_sumOf 46 = .ok (.bipush 43, 2) := by decide +kernel
theorem dX12_sumOf_48 : decode cX12_sumOf 48 = .ok (.invokestatic 215, 3) := by decide +kernel
theorem dX12_sumOf_51 : decode cX12_sumOf 51 = .ok (.if_icmp .ne 7, 3) := by decide +kernel
theorem dX12_sumOf_54 : decode cX12_sumOf 54 = .ok (.iconst 1, 1) := by decide +kernel
theorem dX12_sumOf_55 : decode cX12_sumOf 55 = .ok (.goto 4, 3) := by decide +kernel
theorem dX12_sumOf_59 : decode cX12_sumOf 59 = .ok (.istore 4, 2) := by decide +kernel
theorem dX12_sumOf_61 : decode cX12_sumOf 61 = .ok (.aload_n 0, 1) := by decide +kernel
theorem dX12_sumOf_62 : decode cX12_sumOf 62 = .ok (.dup, 1) := by decide +kernel
theorem dX12_sumOf_63 : decode cX12_sumOf 63 = .ok (.getfield 240, 3) := by decide +kernel
theorem dX12_sumOf_66 : decode cX12_sumOf 66 = .ok (.iconst 1, 1) := by decide +kernel
theorem dX12_sumOf_67 : decode cX12_sumOf 67 = .ok (.iadd, 1) := by decide +kernel
theorem dX12_sumOf_68 : decode cX12_sumOf 68 = .ok (.putfield 240, 3) := by decide +kernel
theorem dX12_sumOf_71 : decode cX12_sumOf 71 = .ok (.aload_n 0, 1) := by decide +kernel
theorem dX12_sumOf_72 : decode cX12_sumOf 72 = .ok (.iload_n 1, 1) := by decide +kernel
theorem dX12_sumOf_73 : decode cX12_sumOf 73 = .ok (.invokevirtual 254, 3) := by decide +kernel
theorem dX12_sumOf_76 : decode cX12_sumOf 76 = .ok (.lstore 5, 2) := by decide +kernel
theorem dX12_sumOf_78 : decode cX12_sumOf 78 = .ok (.aload_n 0, 1) := by decide +kernel
theorem dX12_sumOf_79 : decode cX12_sumOf 79 = .ok (.iload 4, 2) := by decide +kernel
theorem dX12_sumOf_81 : decode cX12_sumOf 81 = .ok (.ifCond .eq 10, 3) := by decide +kernel
theorem dX12_sumOf_84 : decode cX12_sumOf 84 = .ok (.lload_n 2, 1) := by decide +kernel
theorem dX12_sumOf_85 : decode cX12_sumOf 85 = .ok (.lload 5, 2) := by decide +kernel
theorem dX12_sumOf_87 : decode cX12_sumOf 87 = .ok (.ladd, 1) := by decide +kernel
theorem dX12_sumOf_88 : decode cX12_sumOf 88 = .ok (.goto 7, 3) := by decide +kernel
theorem dX12_sumOf_95 : decode cX12_sumOf 95 = .ok (.iload_n 1, 1) := by decide +kernel
theorem dX12_sumOf_96 : decode cX12_sumOf 96 = .ok (.invokevirtual 258, 3) := by decide +kernel
theorem dX12_sumOf_99 : decode cX12_sumOf 99 = .ok (.lstore_n 2, 1) := by decide +kernel
theorem dX12_sumOf_100 : decode cX12_sumOf 100 = .ok (.goto (-94), 3) := by decide +kernel
theorem dX12_sumOf_22 : decode cX12_sumOf 22 = .ok (.aload_n 0, 1) := by decide +kernel
theorem dX12_sumOf_23 : decode cX12_sumOf 23 = .ok (.aload_n 0, 1) := by decide +kernel
theorem dX12_sumOf_24 : decode cX12_sumOf 24 = .ok (.getfield 240, 3) := by decide +kernel
theorem dX12_sumOf_27 : decode cX12_sumOf 27 = .ok (.invokevirtual 243, 3) := by decide +kernel
theorem dX12_sumOf_30 : decode cX12_sumOf 30 = .ok (.bipush 45, 2) := by decide +kernel
theorem dX12_sumOf_32 : decode cX12_sumOf 32 = .ok (.invokestatic 215, 3) := by decide +kernel
theorem dX12_sumOf_35 : decode cX12_sumOf 35 = .ok (.if_icmp .ne 68, 3) := by decide +kernel
theorem dX12_sumOf_103 : decode cX12_sumOf 103 = .ok (.lload_n 2, 1) := by decide +kernel
theorem dX12_sumOf_104 : decode cX12_sumOf 104 = .ok (.lreturn, 1) := by decide +kernel
theorem dX12_sumOf_58 : decode cX12_sumOf 58 = .ok (.iconst 0, 1) := by decide +kernel
theorem dX12_sumOf_91 : decode cX12_sumOf 91 = .ok (.lload_n 2, 1) := by decide +kernel
theorem dX12_sumOf_92 : decode cX12_sumOf 92 = .ok (.lload 5, 2) := by decide +kernel
theorem dX12_sumOf_94 : decode cX12_sumOf 94 = .ok (.lsub, 1) := by decide +kernel
theorem v_32fe35608d {a0 : Int} (h0 : 0 ≤ a0) (h1 : a0 ≤ 4000) : zr a0 := by omega
theorem v_734aa7c47e {a0 : Int} (h0 : 0 ≤ a0) (h1 : a0 ≤ 2400) : zr a0 := by omega
theorem v_ba2a6aaedc {a0 : Int} : 70 + a0 = a0 + 70 := by omega
theorem v_039bd7560b {a0 : Int} (h0 : 0 ≤ a0) : 0 ≤ a0 + 70 := by omega
theorem v_9daebd38d7 {a0 : Int} (h0 : a0 ≤ 4000) : a0 + 70 < 4870 := by omega
theorem v_9f6504fc39 {a0 : Int} : a0 + 70 = 70 + a0 := by omega
theorem v_a9291b189a {a0 a1 a2 : Int} (h0 : a0 = a1) (h1 : ¬ a1 = a2) : ¬ a0 = a2 := by omega
theorem v_237fca6416 {a0 a1 a2 : Int} (h0 : a0 = a1) (h1 : a1 = a2) : a0 = a2 := by omega
theorem v_7465453b16 {a0 : Int} (h0 : a0 = 91 + 100) : zr a0 := by omega
theorem v_c27e8638e2 {a0 a1 a2 : Int} (h0 : a0 < a1) (h1 : a1 ≤ a2) (h2 : a2 ≤ 2400) : a0 ≤ 4000 := by omega
theorem v_3dc59781b4 {a0 a1 a2 : Int} (h0 : a0 < a1) (h1 : a1 ≤ a2) (h2 : 0 ≤ a0) : 0 ≤ a2 := by omega
theorem v_e00e5564b8 {a0 a1 a2 : Int} (h0 : a0 = a1 + 1) (h1 : a1 + 1 < a2 - 1) : a0 < (a2 - 1) := by omega
theorem v_1b95966657 {a0 a1 : Int} (h0 : a0 ≤ a1) : (a0 - 1) ≤ a1 := by omega
theorem v_11a1212907 {a0 a1 : Int} (h0 : a0 = (a1 - 1)) : (a0 + 1) = a1 := by omega
theorem v_f5fa194e54 {a0 : Int} (h0 : a0 = 91 + 100) : 191 = a0 := by omega
theorem v_23a97348cc {a0 a1 : Int} (h0 : a0 < a1) (h1 : a1 = a0 + 1) : (a0 + 1) = a1 := by omega
theorem v_e327774f82 {a0 : Int} (h0 : a0 = 0) : a0 ≤ 1 := by omega
theorem v_1d27395770 {a0 : Int} (h0 : ¬ a0 = 50) : ¬ a0 = 50 := by omega
theorem v_6f347a99df {a0 : Int} (h0 : 8 ≤ a0) : 0 ≤ a0 - 8 := by omega
theorem v_04f174b047 {a0 : Int} (h0 : a0 ≤ 15) : a0 - 8 < 8 := by omega
theorem v_cb9e7b4bbd {a0 : Int} (h0 : a0 ≤ 15) : ¬ a0 = 50 := by omega
theorem v_0effb42be2 {a0 : Int} : a0 - 8 = a0 - 8 := by omega
theorem v_7ae087e860 {a0 : Int} : 2470 + (a0 + 1) = a0 + 2471 := by omega
theorem v_3c6fe9a745 {a0 : Int} : a0 + 2471 - 1 = a0 + 2470 := by omega
theorem v_ec7f6a6f1b {a0 : Int} (h0 : 0 ≤ a0) : 0 ≤ a0 + 2470 := by omega
theorem v_b0b84e2f58 {a0 a1 a2 : Int} (h0 : a0 < a1) (h1 : a1 ≤ a2) (h2 : a2 ≤ 2400) : a0 + 2470 < 4870 := by omega
theorem v_c15de45a33 {a0 a1 a2 : Int} (h0 : a0 < a1) (h1 : a1 ≤ a2) (h2 : a2 ≤ 2400) : a0 < 2400 := by omega
theorem v_7553af4adb {a0 : Int} (h0 : a0 = 50) : a0 = 50 := by omega
theorem v_ab09c0d82d {a0 : Int} : a0 + 2470 = 2470 + a0 := by omega
theorem v_f57be7c965 {a0 a1 a2 : Int} (h0 : a0 ≤ a1) (h1 : a2 ≤ a0) : a2 ≤ a1 := by omega
theorem v_7f1b51b98a {a0 a1 a2 : Int} (h0 : 0 ≤ a0) (h1 : a0 < a1) (h2 : a2 = a1) : 0 ≤ a2 := by omega
theorem v_402efff558 {a0 a1 a2 : Int} (h0 : a0 ≤ a1) (h1 : a2 = a0) : a2 ≤ a1 := by omega
theorem v_ae25b4a4ea {a0 a1 a2 : Int} (h0 : a0 ≤ a1) (h1 : a1 ≤ 2400) (h2 : a2 ≤ a0) : a2 ≤ 4000 := by omega
theorem v_a06c48b26f {a0 : Int} (h0 : a0 = 42 + 100) : zr a0 := by omega
theorem v_ea284f4f4f {a0 a1 a2 a3 a4 : Int} (h0 : a0 = a1) (h1 : a2 = 42 + 100) (h2 : a1 = a2) (h3 : a0 = a3) (h4 : a4 = 42 + 100) : a3 = a4 := by omega
theorem v_fc357702c1 {a0 a1 : Int} (h0 : a0 = 42 + 100) (h1 : a1 = a0) : a1 = 142 := by omega
theorem v_ec671fffcf {a0 a1 a2 : Int} (h0 : 0 ≤ a0) (h1 : a0 + 1 < a1) (h2 : a2 = a1) : 0 ≤ a2 := by omega
theorem v_ccbf9b7651 {a0 a1 a2 a3 : Int} (h0 : a0 + 1 < a1) (h1 : a2 = a1) : a3 - a2 < (a3 - a0) := by omega
theorem v_293abdd145 {a0 a1 a2 : Int} (h0 : a0 + 1 < a1) (h1 : a1 ≤ a2) : 0 < a2 - a0 := by omega
theorem v_6eab261304 {a0 : Int} (h0 : a0 = 47 + 100) : zr a0 := by omega
theorem v_c8966f3198 {a0 a1 a2 a3 a4 : Int} (h0 : a0 = a1) (h1 : a2 = 47 + 100) (h2 : a1 = a2) (h3 : a0 = a3) (h4 : a4 = 42 + 100) : ¬ a3 = a4 := by omega
theorem v_ea184dcf99 {a0 a1 a2 a3 : Int} (h0 : a0 = a1) (h1 : a2 = 47 + 100) (h2 : a1 = a2) (h3 : a0 = a3) : a3 = 147 := by omega
theorem v_0837c82268 {a0 : Int} (h0 : a0 = 43 + 100) : zr a0 := by omega
theorem v_57bfee0c15 {a0 a1 a2 a3 a4 : Int} (h0 : a0 = a1) (h1 : a2 = 43 + 100) (h2 : a1 = a2) (h3 : a0 = a3) (h4 : a4 = 43 + 100) : a3 = a4 := by omega
theorem v_12efcbba8e {a0 a1 : Int} (h0 : a0 = 43 + 100) (h1 : a1 = a0) : a1 = 143 := by omega
theorem v_e3f00f9fd3 {a0 a1 : Int} : a0 + a1 = a0 + a1 := by omega
theorem v_e8d1fa8a39 {a0 : Int} (h0 : a0 = 45 + 100) : zr a0 := by omega
theorem v_377ea9590a {a0 a1 a2 a3 a4 : Int} (h0 : a0 = a1) (h1 : a2 = 45 + 100) (h2 : a1 = a2) (h3 : a0 = a3) (h4 : a4 = 43 + 100) : ¬ a3 = a4 := by omega
theorem v_5dff43669c {a0 a1 a2 a3 : Int} (h0 : a0 = a1) (h1 : a2 = 45 + 100) (h2 : a1 = a2) (h3 : a0 = a3) : a3 = 145 := by omega
theorem v_d5c855ab67 {a0 a1 : Int} : a0 - a1 = a0 - a1 := by omega
set_option maxHeartbeats 4000000 in
set_option maxRecDepth 100000 in
theorem k_sign {l : Launch} {G : jG} {nh : Nat} {fh : Nat → Option va_E} (x : Int) (q0 : 0 ≤ x) (q1 : x ≤ 255) : JM l G yX12_sign MX12_sign { frames := 0, cells := 0, slots := 0, locals := 0 } [.int (zI x)] (nh, fh) (fun rr h9 => ∃ r : Int, rr = some (.int (zI r)) ∧ h9 = (nh, fh) ∧ (r = x + 100)) := by
  refine JM.of (by decide) rfl (fun h => by cases h) (Nat.le_of_ble_eq_true rfl) ⟨0, rfl⟩ ?_
  refine J_hc0 (J_ls (ls2 := [some (.int (zI x))]) rfl ?_)
  refine Z_bipush (n := 100) dX12_sign_0 (by decide +kernel) ?_
  refine J_iload_n dX12_sign_2 rfl rfl ?_
  refine Z_iadd (c := x + 100) dX12_sign_3 v_2706a00d49 ?_
  exact J_iret dX12_sign_4 rfl rfl (Nat.le_of_ble_eq_true rfl) (Nat.le_of_ble_eq_true rfl) ⟨(x + 100), rfl, rfl, v_182e22d160⟩
set_option maxHeartbeats 4000000 in
set_option maxRecDepth 100000 in
theorem k_codeAt {l : Launch} {G : jG} {nh : Nat} {fh : Nat → Option va_E} (x : Int) (K : Int → Int) (ms : Int) (mv : Int) (mt : Int) (mfa : Int) (mtn : Int) (mtk : Int) (mlv : Int) (mbd : Int) (mgo : Int) (mge : Int) (mbk : Int) (mtt : Int) (mtl : Int) (hm : Int) (pm : Int) (hb : Int) (sb : Int) (mfu : Int) (mdm : Int) (mla : Int) (q0 : 0 ≤ x) (q1 : x ≤ 4000) (q2 : 0 ≤ mge) (q3 : mge ≤ 2400) (q4 : Rg K 4870 (-2147483648) 2147483647) (hk98 : fh 98 = some (.inr (12, (.int (zI ms) :: .int (zI mv) :: .ref 99 :: .ref 100 :: .ref 101 :: .ref 102 :: .ref 103 :: .ref 104 :: .ref 105 :: .int (zI mt) :: .int (zI mfa) :: .ref 106 :: .ref 107 :: .ref 108 :: .int (zI mtn) :: .int (zI mtk) :: .int (zI mlv) :: .int (zI mbd) :: .int (zI mgo) :: .int (zI mge) :: .int (zI mbk) :: .ref 109 :: .int (zI mtt) :: .int (zI mtl) :: .ref 110 :: .ref 111 :: .ref 112 :: .ref 113 :: .ref 114 :: .ref 115 :: .ref 116 :: .ref 117 :: .int (zI hm) :: .int (zI pm) :: .int (zI hb) :: .int (zI sb) :: .ref 118 :: .ref 119 :: .ref 120 :: .ref 121 :: .ref 122 :: .ref 123 :: .ref 124 :: .ref 125 :: .ref 126 :: .ref 127 :: .ref 128 :: .ref 129 :: .int (zI mfu) :: .ref 130 :: .ref 131 :: .ref 132 :: .ref 133 :: .ref 134 :: .int (zI mdm) :: .int (zI mla) :: [])))) (hk100 : fh 100 = some (.inl (0, 4870, .inl (zA K)))) : JM l G yX12_codeAt MX12_codeAt { frames := 0, cells := 0, slots := 0, locals := 0 } [.ref 98, .int (zI x)] (nh, fh) (fun rr h9 => ∃ r : Int, rr = some (.int (zI r)) ∧ h9 = (nh, fh) ∧ (Cd K mge x = r) ∧ (zr r)) := by
  refine JM.of (by decide) rfl (fun h => by cases h) (Nat.le_of_ble_eq_true rfl) ⟨0, rfl⟩ ?_
  refine J_hc0 (J_ls (ls2 := [some (.ref 98), some (.int (zI x))]) rfl ?_)
  refine J_iload_n dX12_codeAt_0 rfl rfl ?_
  refine J_aload_n dX12_codeAt_1 rfl rfl ?_
  refine J_get (v := .int (zI mge)) dX12_codeAt_2 fl_X12_237 hk98 rfl ?_
  refine Z_icmp_ge (tgt := 20) dX12_codeAt_5 (by decide) (v_32fe35608d q0 q1) (v_734aa7c47e q2 q3) (fun h1 => ?_) (fun h1 => ?_)
  · refine Z_iconst (n := 0) dX12_codeAt_20 ?_
    exact J_iret dX12_codeAt_21 rfl rfl (Nat.le_of_ble_eq_true rfl) (Nat.le_of_ble_eq_true rfl) ⟨0, rfl, rfl, (Cd_out (v_d464d4c634 h1)), v_b17331891f⟩
  · refine J_aload_n dX12_codeAt_8 rfl rfl ?_
    refine J_get (v := .ref 100) dX12_codeAt_9 fl_X12_20 hk98 rfl ?_
    refine Z_bipush (n := 70) dX12_codeAt_12 (by decide +kernel) ?_
    refine J_iload_n dX12_codeAt_14 rfl rfl ?_
    refine Z_iadd (c := x + 70) dX12_codeAt_15 v_ba2a6aaedc ?_
    obtain ⟨z2, ez2⟩ : ∃ z : Int, K (x + 70) = z := ⟨_, rfl⟩
    have h3 := Rg.at q4 (v_039bd7560b q0) (v_9daebd38d7 q1) ez2
    refine Y_iald (z := z2) 4870 dX12_codeAt_16 hk100 rfl (by decide) (v_039bd7560b q0) (v_9daebd38d7 q1) ez2 ?_
    refine J_goto (tgt := 21) dX12_codeAt_17 (by decide) ?_
    exact J_iret dX12_codeAt_21 rfl rfl (Nat.le_of_ble_eq_true rfl) (Nat.le_of_ble_eq_true rfl) ⟨z2, rfl, rfl, (Cd_in (v_2b02420001 q0) (v_fe9ea41faa h1) v_9f6504fc39 ez2), (v_f306e1cdb8 h3.1 h3.2)⟩
set_option maxHeartbeats 4000000 in
set_option maxRecDepth 100000 in
theorem k_passes0 {l : Launch} {G : jG} {nh : Nat} {fh : Nat → Option va_E} (x : Int) (K : Int → Int) (ms : Int) (mv : Int) (mt : Int) (mfa : Int) (mtn : Int) (mtk : Int) (mlv : Int) (mbd : Int) (mgo : Int) (mge : Int) (mbk : Int) (mtt : Int) (mtl : Int) (hm : Int) (pm : Int) (hb : Int) (sb : Int) (mfu : Int) (mdm : Int) (mla : Int) (q0 : zr x) (q1 : 0 ≤ mgo) (q2 : mgo ≤ 4000) (q3 : 0 ≤ mge) (q4 : mge ≤ 2400) (q5 : Rg K 4870 (-2147483648) 2147483647) (hk98 : fh 98 = some (.inr (12, (.int (zI ms) :: .int (zI mv) :: .ref 99 :: .ref 100 :: .ref 101 :: .ref 102 :: .ref 103 :: .ref 104 :: .ref 105 :: .int (zI mt) :: .int (zI mfa) :: .ref 106 :: .ref 107 :: .ref 108 :: .int (zI mtn) :: .int (zI mtk) :: .int (zI mlv) :: .int (zI mbd) :: .int (zI mgo) :: .int (zI mge) :: .int (zI mbk) :: .ref 109 :: .int (zI mtt) :: .int (zI mtl) :: .ref 110 :: .ref 111 :: .ref 112 :: .ref 113 :: .ref 114 :: .ref 115 :: .ref 116 :: .ref 117 :: .int (zI hm) :: .int (zI pm) :: .int (zI hb) :: .int (zI sb) :: .ref 118 :: .ref 119 :: .ref 120 :: .ref 121 :: .ref 122 :: .ref 123 :: .ref 124 :: .ref 125 :: .ref 126 :: .ref 127 :: .ref 128 :: .ref 129 :: .int (zI mfu) :: .ref 130 :: .ref 131 :: .ref 132 :: .ref 133 :: .ref 134 :: .int (zI mdm) :: .int (zI mla) :: [])))) (hk100 : fh 100 = some (.inl (0, 4870, .inl (zA K)))) : JM l G yX12_passes0 MX12_passes0 { frames := 1, cells := 0, slots := 0, locals := 21 } [.ref 98, .int (zI x)] (nh, fh) (fun rr h9 => (∃ go2 : Int, rr = some (.int (zI 1)) ∧ h9 = (nh, hc fh [(98, .inr (12, (.int (zI ms) :: .int (zI mv) :: .ref 99 :: .ref 100 :: .ref 101 :: .ref 102 :: .ref 103 :: .ref 104 :: .ref 105 :: .int (zI mt) :: .int (zI mfa) :: .ref 106 :: .ref 107 :: .ref 108 :: .int (zI mtn) :: .int (zI mtk) :: .int (zI mlv) :: .int (zI mbd) :: .int (zI go2) :: .int (zI mge) :: .int (zI mbk) :: .ref 109 :: .int (zI mtt) :: .int (zI mtl) :: .ref 110 :: .ref 111 :: .ref 112 :: .ref 113 :: .ref 114 :: .ref 115 :: .ref 116 :: .ref 117 :: .int (zI hm) :: .int (zI pm) :: .int (zI hb) :: .int (zI sb) :: .ref 118 :: .ref 119 :: .ref 120 :: .ref 121 :: .ref 122 :: .ref 123 :: .ref 124 :: .ref 125 :: .ref 126 :: .ref 127 :: .ref 128 :: .ref 129 :: .int (zI mfu) :: .ref 130 :: .ref 131 :: .ref 132 :: .ref 133 :: .ref 134 :: .int (zI mdm) :: .int (zI mla) :: [])))]) ∧ (go2 = mgo + 1) ∧ (Cd K mge mgo = x)) ∨ (rr = some (.int (zI 0)) ∧ h9 = (nh, fh) ∧ (¬ Cd K mge mgo = x))) := by
  refine JM.of (by decide) rfl (fun h => by cases h) (Nat.le_of_ble_eq_true rfl) ⟨1, rfl⟩ ?_
  refine J_hc0 (J_ls (ls2 := [some (.ref 98), some (.int (zI x)), none]) rfl ?_)
  refine J_aload_n dX12_passes0_0 rfl rfl ?_
  refine J_aload_n dX12_passes0_1 rfl rfl ?_
  refine J_get (v := .int (zI mgo)) dX12_passes0_2 fl_X12_240 hk98 rfl ?_
  refine J_callV (st := []) dX12_passes0_5 cv_X12_243 (k_codeAt mgo K ms mv mt mfa mtn mtk mlv mbd mgo mge mbk mtt mtl hm pm hb sb mfu mdm mla q1 q2 q3 q4 q5 hk98 hk100) hk98 rfl rfl (Nat.le_of_ble_eq_true rfl) ⟨(Nat.le_of_ble_eq_true rfl), (Nat.le_of_ble_eq_true rfl)⟩ ⟨(Nat.le_of_ble_eq_true rfl), (Nat.le_of_ble_eq_true rfl)⟩ (fun r h9 hp => ?_)
  obtain ⟨z1, rfl, rfl, h2, h3⟩ := hp
  refine J_nf (nh2 := nh) (ck2 := 0) (sk2 := 0) (st2 := [.int (zI z1)]) rfl rfl rfl rfl ?_
  refine J_iload_n dX12_passes0_8 rfl rfl ?_
  refine Z_icmp_ne (tgt := 16) dX12_passes0_9 (by decide) (v_b25fa51a85 h3) (v_b25fa51a85 q0) (fun h4 => ?_) (fun h4 => ?_)
  · refine Z_iconst (n := 0) dX12_passes0_16 ?_
    refine J_istore_n dX12_passes0_17 rfl (Nat.le_of_ble_eq_true rfl) rfl ?_
    refine J_ls (ls2 := [some (.ref 98), some (.int (zI x)), some (.int (zI 0))]) rfl ?_
    refine J_iload_n dX12_passes0_18 rfl rfl ?_
    refine Z_if_eq (tgt := 32) dX12_passes0_19 (by decide) v_b17331891f (fun h5 => ?_) (fun h5 => absurd h5 (fun q => q v_2ca2bbca1f))
    refine J_iload_n dX12_passes0_32 rfl rfl ?_
    exact J_iret dX12_passes0_33 rfl (jbn v_939070ca3f v_316afd7d0b) (Nat.le_of_ble_eq_true rfl) (Nat.le_of_ble_eq_true rfl) (Or.inr ⟨rfl, rfl, (v_a9291b189a h2 h4)⟩)
  · refine Z_iconst (n := 1) dX12_passes0_12 ?_
    refine J_goto (tgt := 17) dX12_passes0_13 (by decide) ?_
    refine J_istore_n dX12_passes0_17 rfl (Nat.le_of_ble_eq_true rfl) rfl ?_
    refine J_ls (ls2 := [some (.ref 98), some (.int (zI x)), some (.int (zI 1))]) rfl ?_
    refine J_iload_n dX12_passes0_18 rfl rfl ?_
    refine Z_if_eq (tgt := 32) dX12_passes0_19 (by decide) v_4dcc24baa7 (fun h6 => absurd h6 v_3a47bfd896) (fun h6 => ?_)
    refine J_aload_n dX12_passes0_22 rfl rfl ?_
    refine J_dup dX12_passes0_23 rfl ?_
    refine J_get (v := .int (zI mgo)) dX12_passes0_24 fl_X12_240 hk98 rfl ?_
    refine Z_iconst (n := 1) dX12_passes0_27 ?_
    refine Z_iadd (c := mgo + 1) dX12_passes0_28 rfl ?_
    refine K_put (fs2 := (.int (zI ms) :: .int (zI mv) :: .ref 99 :: .ref 100 :: .ref 101 :: .ref 102 :: .ref 103 :: .ref 104 :: .ref 105 :: .int (zI mt) :: .int (zI mfa) :: .ref 106 :: .ref 107 :: .ref 108 :: .int (zI mtn) :: .int (zI mtk) :: .int (zI mlv) :: .int (zI mbd) :: .int (zI (mgo + 1)) :: .int (zI mge) :: .int (zI mbk) :: .ref 109 :: .int (zI mtt) :: .int (zI mtl) :: .ref 110 :: .ref 111 :: .ref 112 :: .ref 113 :: .ref 114 :: .ref 115 :: .ref 116 :: .ref 117 :: .int (zI hm) :: .int (zI pm) :: .int (zI hb) :: .int (zI sb) :: .ref 118 :: .ref 119 :: .ref 120 :: .ref 121 :: .ref 122 :: .ref 123 :: .ref 124 :: .ref 125 :: .ref 126 :: .ref 127 :: .ref 128 :: .ref 129 :: .int (zI mfu) :: .ref 130 :: .ref 131 :: .ref 132 :: .ref 133 :: .ref 134 :: .int (zI mdm) :: .int (zI mla) :: [])) dX12_passes0_29 fw_X12_240 hk98 (Nat.le_of_ble_eq_true rfl) (fun _ => ⟨rfl, rfl⟩) rfl ?_
    refine J_iload_n dX12_passes0_32 rfl rfl ?_
    exact J_iret dX12_passes0_33 rfl (jbn v_316afd7d0b v_bbcfac9b7d) (Nat.le_of_ble_eq_true rfl) (Nat.le_of_ble_eq_true rfl) (Or.inl ⟨(mgo + 1), rfl, rfl, v_e828b09c4d, (v_237fca6416 h2 h4)⟩)
set_option maxHeartbeats 4000000 in
set_option maxRecDepth 100000 in
theorem k_bounded {l : Launch} {G : jG} {nh : Nat} {fh : Nat → Option va_E} (w : Int) (lv : Int) (ms : Int) (mv : Int) (mt : Int) (mfa : Int) (mtn : Int) (mtk : Int) (mlv : Int) (mbd : Int) (mgo : Int) (mge : Int) (mbk : Int) (mtt : Int) (mtl : Int) (hm : Int) (pm : Int) (hb : Int) (sb : Int) (mfu : Int) (mdm : Int) (mla : Int) (q0 : zr64 w) (q1 : 0 ≤ lv) (q2 : lv ≤ 1) (q3 : 0 ≤ mbk) (q4 : mbk ≤ 1) (q5 : lv = 0 → w = 0) (hk98 : fh 98 = some (.inr (12, (.int (zI ms) :: .int (zI mv) :: .ref 99 :: .ref 100 :: .ref 101 :: .ref 102 :: .ref 103 :: .ref 104 :: .ref 105 :: .int (zI mt) :: .int (zI mfa) :: .ref 106 :: .ref 107 :: .ref 108 :: .int (zI mtn) :: .int (zI mtk) :: .int (zI mlv) :: .int (zI mbd) :: .int (zI mgo) :: .int (zI mge) :: .int (zI mbk) :: .ref 109 :: .int (zI mtt) :: .int (zI mtl) :: .ref 110 :: .ref 111 :: .ref 112 :: .ref 113 :: .ref 114 :: .ref 115 :: .ref 116 :: .ref 117 :: .int (zI hm) :: .int (zI pm) :: .int (zI hb) :: .int (zI sb) :: .ref 118 :: .ref 119 :: .ref 120 :: .ref 121 :: .ref 122 :: .ref 123 :: .ref 124 :: .ref 125 :: .ref 126 :: .ref 127 :: .ref 128 :: .ref 129 :: .int (zI mfu) :: .ref 130 :: .ref 131 :: .ref 132 :: .ref 133 :: .ref 134 :: .int (zI mdm) :: .int (zI mla) :: [])))) : JM l G yX12_bounded MX12_bounded { frames := 0, cells := 0, slots := 0, locals := 0 } [.ref 98, .long (zL w), .int (zI lv)] (nh, fh) (fun rr h9 => ∃ r : Int, ∃ bk2 : Int, rr = some (.long (zL r)) ∧ h9 = (nh, hc fh [(98, .inr (12, (.int (zI ms) :: .int (zI mv) :: .ref 99 :: .ref 100 :: .ref 101 :: .ref 102 :: .ref 103 :: .ref 104 :: .ref 105 :: .int (zI mt) :: .int (zI mfa) :: .ref 106 :: .ref 107 :: .ref 108 :: .int (zI mtn) :: .int (zI mtk) :: .int (zI mlv) :: .int (zI mbd) :: .int (zI mgo) :: .int (zI mge) :: .int (zI bk2) :: .ref 109 :: .int (zI mtt) :: .int (zI mtl) :: .ref 110 :: .ref 111 :: .ref 112 :: .ref 113 :: .ref 114 :: .ref 115 :: .ref 116 :: .ref 117 :: .int (zI hm) :: .int (zI pm) :: .int (zI hb) :: .int (zI sb) :: .ref 118 :: .ref 119 :: .ref 120 :: .ref 121 :: .ref 122 :: .ref 123 :: .ref 124 :: .ref 125 :: .ref 126 :: .ref 127 :: .ref 128 :: .ref 129 :: .int (zI mfu) :: .ref 130 :: .ref 131 :: .ref 132 :: .ref 133 :: .ref 134 :: .int (zI mdm) :: .int (zI mla) :: [])))]) ∧ (0 ≤ bk2) ∧ (bk2 ≤ 1) ∧ (-1000000000 ≤ r) ∧ (r ≤ 1000000000) ∧ (BdR lv mbk w r bk2)) := by
  refine JM.of (by decide) rfl (fun h => by cases h) (Nat.le_of_ble_eq_true rfl) ⟨0, rfl⟩ ?_
  refine J_hc0 (J_ls (ls2 := [some (.ref 98), some (.long (zL w)), none, some (.int (zI lv))]) rfl ?_)
  refine J_iload_n dX12_bounded_0 rfl rfl ?_
  refine Z_if_eq (tgt := 25) dX12_bounded_1 (by decide) (v_5f10a759cd q1 q2) (fun h1 => ?_) (fun h1 => ?_)
  · refine J_aload_n dX12_bounded_25 rfl rfl ?_
    refine J_get (v := .int (zI mbk)) dX12_bounded_26 fl_X12_250 hk98 rfl ?_
    refine Z_if_eq (tgt := 36) dX12_bounded_29 (by decide) (v_5f10a759cd q3 q4) (fun h2 => ?_) (fun h2 => ?_)
    · refine J_lload_n dX12_bounded_36 rfl rfl ?_
      refine J_touch (k := 98) (e := .inr (12, (.int (zI ms) :: .int (zI mv) :: .ref 99 :: .ref 100 :: .ref 101 :: .ref 102 :: .ref 103 :: .ref 104 :: .ref 105 :: .int (zI mt) :: .int (zI mfa) :: .ref 106 :: .ref 107 :: .ref 108 :: .int (zI mtn) :: .int (zI mtk) :: .int (zI mlv) :: .int (zI mbd) :: .int (zI mgo) :: .int (zI mge) :: .int (zI mbk) :: .ref 109 :: .int (zI mtt) :: .int (zI mtl) :: .ref 110 :: .ref 111 :: .ref 112 :: .ref 113 :: .ref 114 :: .ref 115 :: .ref 116 :: .ref 117 :: .int (zI hm) :: .int (zI pm) :: .int (zI hb) :: .int (zI sb) :: .ref 118 :: .ref 119 :: .ref 120 :: .ref 121 :: .ref 122 :: .ref 123 :: .ref 124 :: .ref 125 :: .ref 126 :: .ref 127 :: .ref 128 :: .ref 129 :: .int (zI mfu) :: .ref 130 :: .ref 131 :: .ref 132 :: .ref 133 :: .ref 134 :: .int (zI mdm) :: .int (zI mla) :: []))) hk98 ?_
      exact J_lret dX12_bounded_37 rfl (Nat.le_of_ble_eq_true rfl) (Nat.le_of_ble_eq_true rfl) ⟨w, mbk, rfl, rfl, q3, q4, (by omega), (by omega), (by unfold BdR; omega)⟩
    · refine J_lconst (v := zL 0) dX12_bounded_32 (by decide +kernel) ?_
      refine J_goto (tgt := 37) dX12_bounded_33 (by decide) ?_
      refine J_touch (k := 98) (e := .inr (12, (.int (zI ms) :: .int (zI mv) :: .ref 99 :: .ref 100 :: .ref 101 :: .ref 102 :: .ref 103 :: .ref 104 :: .ref 105 :: .int (zI mt) :: .int (zI mfa) :: .ref 106 :: .ref 107 :: .ref 108 :: .int (zI mtn) :: .int (zI mtk) :: .int (zI mlv) :: .int (zI mbd) :: .int (zI mgo) :: .int (zI mge) :: .int (zI mbk) :: .ref 109 :: .int (zI mtt) :: .int (zI mtl) :: .ref 110 :: .ref 111 :: .ref 112 :: .ref 113 :: .ref 114 :: .ref 115 :: .ref 116 :: .ref 117 :: .int (zI hm) :: .int (zI pm) :: .int (zI hb) :: .int (zI sb) :: .ref 118 :: .ref 119 :: .ref 120 :: .ref 121 :: .ref 122 :: .ref 123 :: .ref 124 :: .ref 125 :: .ref 126 :: .ref 127 :: .ref 128 :: .ref 129 :: .int (zI mfu) :: .ref 130 :: .ref 131 :: .ref 132 :: .ref 133 :: .ref 134 :: .int (zI mdm) :: .int (zI mla) :: []))) hk98 ?_
      exact J_lret dX12_bounded_37 rfl (Nat.le_of_ble_eq_true rfl) (Nat.le_of_ble_eq_true rfl) ⟨0, mbk, rfl, rfl, q3, q4, (by omega), (by omega), (by unfold BdR; omega)⟩
  · refine J_lload_n dX12_bounded_4 rfl rfl ?_
    refine J_ldc2 (v := zL 1000000000) dX12_bounded_5 (jt7 216 rfl rfl) ?_
    refine Y_lcmp dX12_bounded_8 (v_082ba2fd17 q0) v_288b67a6a5 (fun z3 z3a z3b z3c z3d => ?_)
    refine Z_if_gt (tgt := 20) dX12_bounded_9 (by decide) (v_51ccf7ebfa z3a z3b) (fun h4 => ?_) (fun h4 => ?_)
    · have h5 : 1000000000 < w := by omega
      refine J_aload_n dX12_bounded_20 rfl rfl ?_
      refine Z_iconst (n := 1) dX12_bounded_21 ?_
      refine K_put (fs2 := (.int (zI ms) :: .int (zI mv) :: .ref 99 :: .ref 100 :: .ref 101 :: .ref 102 :: .ref 103 :: .ref 104 :: .ref 105 :: .int (zI mt) :: .int (zI mfa) :: .ref 106 :: .ref 107 :: .ref 108 :: .int (zI mtn) :: .int (zI mtk) :: .int (zI mlv) :: .int (zI mbd) :: .int (zI mgo) :: .int (zI mge) :: .int (zI 1) :: .ref 109 :: .int (zI mtt) :: .int (zI mtl) :: .ref 110 :: .ref 111 :: .ref 112 :: .ref 113 :: .ref 114 :: .ref 115 :: .ref 116 :: .ref 117 :: .int (zI hm) :: .int (zI pm) :: .int (zI hb) :: .int (zI sb) :: .ref 118 :: .ref 119 :: .ref 120 :: .ref 121 :: .ref 122 :: .ref 123 :: .ref 124 :: .ref 125 :: .ref 126 :: .ref 127 :: .ref 128 :: .ref 129 :: .int (zI mfu) :: .ref 130 :: .ref 131 :: .ref 132 :: .ref 133 :: .ref 134 :: .int (zI mdm) :: .int (zI mla) :: [])) dX12_bounded_22 fw_X12_250 hk98 (Nat.le_of_ble_eq_true rfl) (jbz v_316afd7d0b v_bbcfac9b7d) rfl ?_
      refine J_aload_n dX12_bounded_25 rfl rfl ?_
      refine J_get (v := .int (zI 1)) dX12_bounded_26 fl_X12_250 rfl rfl ?_
      refine Z_if_eq (tgt := 36) dX12_bounded_29 (by decide) v_4dcc24baa7 (fun h6 => absurd h6 v_3a47bfd896) (fun h6 => ?_)
      refine J_lconst (v := zL 0) dX12_bounded_32 (by decide +kernel) ?_
      refine J_goto (tgt := 37) dX12_bounded_33 (by decide) ?_
      exact J_lret dX12_bounded_37 rfl (Nat.le_of_ble_eq_true rfl) (Nat.le_of_ble_eq_true rfl) ⟨0, 1, rfl, rfl, v_316afd7d0b, v_bbcfac9b7d, (by omega), (by omega), (by unfold BdR; omega)⟩
    · have h7 : w ≤ 1000000000 := by omega
      refine J_lload_n dX12_bounded_12 rfl rfl ?_
      refine J_ldc2 (v := zL (-1000000000)) dX12_bounded_13 (jt7 217 rfl rfl) ?_
      refine Y_lcmp dX12_bounded_16 (v_ebc4f1cff2 q0 h7) v_db2388b587 (fun z8 z8a z8b z8c z8d => ?_)
      refine Z_if_ge (tgt := 25) dX12_bounded_17 (by decide) (v_51ccf7ebfa z8a z8b) (fun h9 => ?_) (fun h9 => ?_)
      · have h10 : -1000000000 ≤ w := by omega
        refine J_aload_n dX12_bounded_25 rfl rfl ?_
        refine J_get (v := .int (zI mbk)) dX12_bounded_26 fl_X12_250 hk98 rfl ?_
        refine Z_if_eq (tgt := 36) dX12_bounded_29 (by decide) (v_5f10a759cd q3 q4) (fun h11 => ?_) (fun h11 => ?_)
        · refine J_lload_n dX12_bounded_36 rfl rfl ?_
          refine J_touch (k := 98) (e := .inr (12, (.int (zI ms) :: .int (zI mv) :: .ref 99 :: .ref 100 :: .ref 101 :: .ref 102 :: .ref 103 :: .ref 104 :: .ref 105 :: .int (zI mt) :: .int (zI mfa) :: .ref 106 :: .ref 107 :: .ref 108 :: .int (zI mtn) :: .int (zI mtk) :: .int (zI mlv) :: .int (zI mbd) :: .int (zI mgo) :: .int (zI mge) :: .int (zI mbk) :: .ref 109 :: .int (zI mtt) :: .int (zI mtl) :: .ref 110 :: .ref 111 :: .ref 112 :: .ref 113 :: .ref 114 :: .ref 115 :: .ref 116 :: .ref 117 :: .int (zI hm) :: .int (zI pm) :: .int (zI hb) :: .int (zI sb) :: .ref 118 :: .ref 119 :: .ref 120 :: .ref 121 :: .ref 122 :: .ref 123 :: .ref 124 :: .ref 125 :: .ref 126 :: .ref 127 :: .ref 128 :: .ref 129 :: .int (zI mfu) :: .ref 130 :: .ref 131 :: .ref 132 :: .ref 133 :: .ref 134 :: .int (zI mdm) :: .int (zI mla) :: []))) hk98 ?_
          exact J_lret dX12_bounded_37 rfl (Nat.le_of_ble_eq_true rfl) (Nat.le_of_ble_eq_true rfl) ⟨w, mbk, rfl, rfl, q3, q4, (by omega), (by omega), (by unfold BdR; omega)⟩
        · refine J_lconst (v := zL 0) dX12_bounded_32 (by decide +kernel) ?_
          refine J_goto (tgt := 37) dX12_bounded_33 (by decide) ?_
          refine J_touch (k := 98) (e := .inr (12, (.int (zI ms) :: .int (zI mv) :: .ref 99 :: .ref 100 :: .ref 101 :: .ref 102 :: .ref 103 :: .ref 104 :: .ref 105 :: .int (zI mt) :: .int (zI mfa) :: .ref 106 :: .ref 107 :: .ref 108 :: .int (zI mtn) :: .int (zI mtk) :: .int (zI mlv) :: .int (zI mbd) :: .int (zI mgo) :: .int (zI mge) :: .int (zI mbk) :: .ref 109 :: .int (zI mtt) :: .int (zI mtl) :: .ref 110 :: .ref 111 :: .ref 112 :: .ref 113 :: .ref 114 :: .ref 115 :: .ref 116 :: .ref 117 :: .int (zI hm) :: .int (zI pm) :: .int (zI hb) :: .int (zI sb) :: .ref 118 :: .ref 119 :: .ref 120 :: .ref 121 :: .ref 122 :: .ref 123 :: .ref 124 :: .ref 125 :: .ref 126 :: .ref 127 :: .ref 128 :: .ref 129 :: .int (zI mfu) :: .ref 130 :: .ref 131 :: .ref 132 :: .ref 133 :: .ref 134 :: .int (zI mdm) :: .int (zI mla) :: []))) hk98 ?_
          exact J_lret dX12_bounded_37 rfl (Nat.le_of_ble_eq_true rfl) (Nat.le_of_ble_eq_true rfl) ⟨0, mbk, rfl, rfl, q3, q4, (by omega), (by omega), (by unfold BdR; omega)⟩
      · have h12 : w < -1000000000 := by omega
        refine J_aload_n dX12_bounded_20 rfl rfl ?_
        refine Z_iconst (n := 1) dX12_bounded_21 ?_
        refine K_put (fs2 := (.int (zI ms) :: .int (zI mv) :: .ref 99 :: .ref 100 :: .ref 101 :: .ref 102 :: .ref 103 :: .ref 104 :: .ref 105 :: .int (zI mt) :: .int (zI mfa) :: .ref 106 :: .ref 107 :: .ref 108 :: .int (zI mtn) :: .int (zI mtk) :: .int (zI mlv) :: .int (zI mbd) :: .int (zI mgo) :: .int (zI mge) :: .int (zI 1) :: .ref 109 :: .int (zI mtt) :: .int (zI mtl) :: .ref 110 :: .ref 111 :: .ref 112 :: .ref 113 :: .ref 114 :: .ref 115 :: .ref 116 :: .ref 117 :: .int (zI hm) :: .int (zI pm) :: .int (zI hb) :: .int (zI sb) :: .ref 118 :: .ref 119 :: .ref 120 :: .ref 121 :: .ref 122 :: .ref 123 :: .ref 124 :: .ref 125 :: .ref 126 :: .ref 127 :: .ref 128 :: .ref 129 :: .int (zI mfu) :: .ref 130 :: .ref 131 :: .ref 132 :: .ref 133 :: .ref 134 :: .int (zI mdm) :: .int (zI mla) :: [])) dX12_bounded_22 fw_X12_250 hk98 (Nat.le_of_ble_eq_true rfl) (jbz v_316afd7d0b v_bbcfac9b7d) rfl ?_
        refine J_aload_n dX12_bounded_25 rfl rfl ?_
        refine J_get (v := .int (zI 1)) dX12_bounded_26 fl_X12_250 rfl rfl ?_
        refine Z_if_eq (tgt := 36) dX12_bounded_29 (by decide) v_4dcc24baa7 (fun h13 => absurd h13 v_3a47bfd896) (fun h13 => ?_)
        refine J_lconst (v := zL 0) dX12_bounded_32 (by decide +kernel) ?_
        refine J_goto (tgt := 37) dX12_bounded_33 (by decide) ?_
        exact J_lret dX12_bounded_37 rfl (Nat.le_of_ble_eq_true rfl) (Nat.le_of_ble_eq_true rfl) ⟨0, 1, rfl, rfl, v_316afd7d0b, v_bbcfac9b7d, (by omega), (by omega), (by unfold BdR; omega)⟩
set_option maxRecDepth 100000 in
abbrev Q_sumOf (l : Launch) (G : jG) (k : Nat) : Prop := ∀ {nh : Nat} {fh : Nat → Option va_E} (lv : Int) (e : Int) (f : DV) (w8 : Int → Int) (ms : Int) (mv : Int) (mt : Int) (mfa : Int) (mtn : Int) (mtk : Int) (mlv : Int) (mbd : Int) (mgo : Int) (mge : Int) (mbk : Int) (mtt : Int) (mtl : Int) (hm : Int) (pm : Int) (hb : Int) (sb : Int) (mfu : Int) (mdm : Int) (mla : Int) (K : Int → Int) (aq : Int → Int), (SmD (Cd K mge) (Vd K) k mgo e f) → (mgo < e) → (e ≤ mge) → (0 ≤ mgo) → (mge ≤ 2400) → (0 ≤ lv) → (lv ≤ 1) → (0 ≤ mbk) → (mbk ≤ 1) → (Rg K 4870 (-2147483648) 2147483647) → (Rg aq 8 (-2147483648) 2147483647) → (EqN aq w8 8) → (Rg w8 8 (-1000000000) 1000000000) → (fh 98 = some (.inr (12, (.int (zI ms) :: .int (zI mv) :: .ref 99 :: .ref 100 :: .ref 101 :: .ref 102 :: .ref 103 :: .ref 104 :: .ref 105 :: .int (zI mt) :: .int (zI mfa) :: .ref 106 :: .ref 107 :: .ref 108 :: .int (zI mtn) :: .int (zI mtk) :: .int (zI mlv) :: .int (zI mbd) :: .int (zI mgo) :: .int (zI mge) :: .int (zI mbk) :: .ref 109 :: .int (zI mtt) :: .int (zI mtl) :: .ref 110 :: .ref 111 :: .ref 112 :: .ref 113 :: .ref 114 :: .ref 115 :: .ref 116 :: .ref 117 :: .int (zI hm) :: .int (zI pm) :: .int (zI hb) :: .int (zI sb) :: .ref 118 :: .ref 119 :: .ref 120 :: .ref 121 :: .ref 122 :: .ref 123 :: .ref 124 :: .ref 125 :: .ref 126 :: .ref 127 :: .ref 128 :: .ref 129 :: .int (zI mfu) :: .ref 130 :: .ref 131 :: .ref 132 :: .ref 133 :: .ref 134 :: .int (zI mdm) :: .int (zI mla) :: [])))) → (fh 100 = some (.inl (0, 4870, .inl (zA K)))) → (fh 109 = some (.inl (0, 8, .inl (zA aq)))) → JM l G yX12_sumOf MX12_sumOf { frames := 4 + 3 * k, cells := 0, slots := 0, locals := 92 + 75 * k } [.ref 98, .int (zI lv)] (nh, fh) (fun rr h9 => ∃ r : Int, ∃ go2 : Int, ∃ bk2 : Int, rr = some (.long (zL r)) ∧ h9 = (nh, hc fh [(98, .inr (12, (.int (zI ms) :: .int (zI mv) :: .ref 99 :: .ref 100 :: .ref 101 :: .ref 102 :: .ref 103 :: .ref 104 :: .ref 105 :: .int (zI mt) :: .int (zI mfa) :: .ref 106 :: .ref 107 :: .ref 108 :: .int (zI mtn) :: .int (zI mtk) :: .int (zI mlv) :: .int (zI mbd) :: .int (zI go2) :: .int (zI mge) :: .int (zI bk2) :: .ref 109 :: .int (zI mtt) :: .int (zI mtl) :: .ref 110 :: .ref 111 :: .ref 112 :: .ref 113 :: .ref 114 :: .ref 115 :: .ref 116 :: .ref 117 :: .int (zI hm) :: .int (zI pm) :: .int (zI hb) :: .int (zI sb) :: .ref 118 :: .ref 119 :: .ref 120 :: .ref 121 :: .ref 122 :: .ref 123 :: .ref 124 :: .ref 125 :: .ref 126 :: .ref 127 :: .ref 128 :: .ref 129 :: .int (zI mfu) :: .ref 130 :: .ref 131 :: .ref 132 :: .ref 133 :: .ref 134 :: .int (zI mdm) :: .int (zI mla) :: [])))]) ∧ (go2 = e) ∧ (0 ≤ bk2) ∧ (bk2 ≤ 1) ∧ (-1000000000 ≤ r) ∧ (r ≤ 1000000000) ∧ (EvS lv mbk w8 f r bk2))
set_option maxHeartbeats 4000000 in
set_option maxRecDepth 100000 in
theorem k_partOf {l : Launch} {G : jG} {nh : Nat} {fh : Nat → Option va_E} (k : Nat) (ih : ∀ j : Nat, k = j + 1 → Q_sumOf l G j) (lv : Int) (e : Int) (f : DV) (w8 : Int → Int) (ms : Int) (mv : Int) (mt : Int) (mfa : Int) (mtn : Int) (mtk : Int) (mlv : Int) (mbd : Int) (mgo : Int) (mge : Int) (mbk : Int) (mtt : Int) (mtl : Int) (hm : Int) (pm : Int) (hb : Int) (sb : Int) (mfu : Int) (mdm : Int) (mla : Int) (K : Int → Int) (aq : Int → Int) (q0 : PtD (Cd K mge) (Vd K) k mgo e f) (q1 : mgo < e) (q2 : e ≤ mge) (q3 : 0 ≤ mgo) (q4 : mge ≤ 2400) (q5 : 0 ≤ lv) (q6 : lv ≤ 1) (q7 : 0 ≤ mbk) (q8 : mbk ≤ 1) (q9 : Rg K 4870 (-2147483648) 2147483647) (q10 : Rg aq 8 (-2147483648) 2147483647) (q11 : EqN aq w8 8) (q12 : Rg w8 8 (-1000000000) 1000000000) (hk98 : fh 98 = some (.inr (12, (.int (zI ms) :: .int (zI mv) :: .ref 99 :: .ref 100 :: .ref 101 :: .ref 102 :: .ref 103 :: .ref 104 :: .ref 105 :: .int (zI mt) :: .int (zI mfa) :: .ref 106 :: .ref 107 :: .ref 108 :: .int (zI mtn) :: .int (zI mtk) :: .int (zI mlv) :: .int (zI mbd) :: .int (zI mgo) :: .int (zI mge) :: .int (zI mbk) :: .ref 109 :: .int (zI mtt) :: .int (zI mtl) :: .ref 110 :: .ref 111 :: .ref 112 :: .ref 113 :: .ref 114 :: .ref 115 :: .ref 116 :: .ref 117 :: .int (zI hm) :: .int (zI pm) :: .int (zI hb) :: .int (zI sb) :: .ref 118 :: .ref 119 :: .ref 120 :: .ref 121 :: .ref 122 :: .ref 123 :: .ref 124 :: .ref 125 :: .ref 126 :: .ref 127 :: .ref 128 :: .ref 129 :: .int (zI mfu) :: .ref 130 :: .ref 131 :: .ref 132 :: .ref 133 :: .ref 134 :: .int (zI mdm) :: .int (zI mla) :: [])))) (hk100 : fh 100 = some (.inl (0, 4870, .inl (zA K)))) (hk109 : fh 109 = some (.inl (0, 8, .inl (zA aq)))) : JM l G yX12_partOf MX12_partOf { frames := 2 + 3 * k, cells := 0, slots := 0, locals := 43 + 75 * k } [.ref 98, .int (zI lv)] (nh, fh) (fun rr h9 => ∃ r : Int, ∃ go2 : Int, ∃ bk2 : Int, rr = some (.long (zL r)) ∧ h9 = (nh, hc fh [(98, .inr (12, (.int (zI ms) :: .int (zI mv) :: .ref 99 :: .ref 100 :: .ref 101 :: .ref 102 :: .ref 103 :: .ref 104 :: .ref 105 :: .int (zI mt) :: .int (zI mfa) :: .ref 106 :: .ref 107 :: .ref 108 :: .int (zI mtn) :: .int (zI mtk) :: .int (zI mlv) :: .int (zI mbd) :: .int (zI go2) :: .int (zI mge) :: .int (zI bk2) :: .ref 109 :: .int (zI mtt) :: .int (zI mtl) :: .ref 110 :: .ref 111 :: .ref 112 :: .ref 113 :: .ref 114 :: .ref 115 :: .ref 116 :: .ref 117 :: .int (zI hm) :: .int (zI pm) :: .int (zI hb) :: .int (zI sb) :: .ref 118 :: .ref 119 :: .ref 120 :: .ref 121 :: .ref 122 :: .ref 123 :: .ref 124 :: .ref 125 :: .ref 126 :: .ref 127 :: .ref 128 :: .ref 129 :: .int (zI mfu) :: .ref 130 :: .ref 131 :: .ref 132 :: .ref 133 :: .ref 134 :: .int (zI mdm) :: .int (zI mla) :: [])))]) ∧ (go2 = e) ∧ (0 ≤ bk2) ∧ (bk2 ≤ 1) ∧ (-1000000000 ≤ r) ∧ (r ≤ 1000000000) ∧ (EvS lv mbk w8 f r bk2)) := by
  refine JM.of (by decide) rfl (fun h => by cases h) (Nat.le_of_ble_eq_true rfl) ⟨2, rfl⟩ ?_
  refine J_hc0 (J_ls (ls2 := [some (.ref 98), some (.int (zI lv)), none, none]) rfl ?_)
  refine J_aload_n dX12_partOf_0 rfl rfl ?_
  refine Z_bipush (n := 91) dX12_partOf_1 (by decide +kernel) ?_
  refine J_callS (st := [.ref 98]) dX12_partOf_3 cs_X12_215 (k_sign 91 v_df2cb83190 v_d563f19a9d) rfl rfl (Nat.le_of_ble_eq_true rfl) ⟨(by show (0 : Nat) + 1 ≤ 2 + 3 * k; omega), (by show 8 + (1 + 11) + (0) ≤ 43 + 75 * k; omega)⟩ ⟨(Nat.le_of_ble_eq_true rfl), (Nat.le_of_ble_eq_true rfl)⟩ (fun r h9 hp => ?_)
  obtain ⟨z1, rfl, rfl, h2⟩ := hp
  refine J_nf (nh2 := nh) (ck2 := 0) (sk2 := 0) (st2 := [.int (zI z1), .ref 98]) rfl rfl rfl rfl ?_
  refine J_callV (st := []) dX12_partOf_6 cv_X12_265 (k_passes0 z1 K ms mv mt mfa mtn mtk mlv mbd mgo mge mbk mtt mtl hm pm hb sb mfu mdm mla (v_7465453b16 h2) q3 (v_c27e8638e2 q1 q2 q4) (v_3dc59781b4 q1 q2 q3) q4 q9 hk98 hk100) hk98 rfl rfl (Nat.le_of_ble_eq_true rfl) ⟨(by show (1 : Nat) + 1 ≤ 2 + 3 * k; omega), (by show 8 + (3 + 11) + (21) ≤ 43 + 75 * k; omega)⟩ ⟨(Nat.le_of_ble_eq_true rfl), (Nat.le_of_ble_eq_true rfl)⟩ (fun r h9 hp => ?_)
  rcases hp with ⟨z3, rfl, rfl, h4, h5⟩ | ⟨rfl, rfl, h6⟩
  · refine J_nf (nh2 := nh) (ck2 := 0) (sk2 := 0) (st2 := [.int (zI 1)]) rfl rfl rfl rfl ?_
    refine J_app (L3 := [(98, .inr (12, (.int (zI ms) :: .int (zI mv) :: .ref 99 :: .ref 100 :: .ref 101 :: .ref 102 :: .ref 103 :: .ref 104 :: .ref 105 :: .int (zI mt) :: .int (zI mfa) :: .ref 106 :: .ref 107 :: .ref 108 :: .int (zI mtn) :: .int (zI mtk) :: .int (zI mlv) :: .int (zI mbd) :: .int (zI z3) :: .int (zI mge) :: .int (zI mbk) :: .ref 109 :: .int (zI mtt) :: .int (zI mtl) :: .ref 110 :: .ref 111 :: .ref 112 :: .ref 113 :: .ref 114 :: .ref 115 :: .ref 116 :: .ref 117 :: .int (zI hm) :: .int (zI pm) :: .int (zI hb) :: .int (zI sb) :: .ref 118 :: .ref 119 :: .ref 120 :: .ref 121 :: .ref 122 :: .ref 123 :: .ref 124 :: .ref 125 :: .ref 126 :: .ref 127 :: .ref 128 :: .ref 129 :: .int (zI mfu) :: .ref 130 :: .ref 131 :: .ref 132 :: .ref 133 :: .ref 134 :: .int (zI mdm) :: .int (zI mla) :: [])))]) rfl ?_
    refine Z_if_eq (tgt := 30) dX12_partOf_9 (by decide) v_4dcc24baa7 (fun h7 => absurd h7 v_3a47bfd896) (fun h7 => ?_)
    obtain ⟨jj, gjj, gbr, gbl⟩ := BsD.pos (PaD.br q0 (h5.trans (v_eae1bbf095 h2)))
    have gbq : SmD (Cd K mge) (Vd K) jj z3 (e - 1) f := by have u : z3 = mgo + 1 := (v_d34386dce5 h4); rw [u]; exact gbr
    refine J_aload_n dX12_partOf_12 rfl rfl ?_
    refine J_iload_n dX12_partOf_13 rfl rfl ?_
    refine J_callV (st := []) dX12_partOf_14 cv_X12_268 (ih jj gjj lv (e - 1) f w8 ms mv mt mfa mtn mtk mlv mbd z3 mge mbk mtt mtl hm pm hb sb mfu mdm mla K aq gbq (v_e00e5564b8 h4 gbl) (v_1b95966657 q2) (v_83b3f1d41d q3 h4) q4 q5 q6 q7 q8 q9 q10 q11 q12 rfl hk100 hk109) rfl rfl rfl (Nat.le_of_ble_eq_true rfl) ⟨(by show (4 + 3 * jj : Nat) + 1 ≤ 2 + 3 * k; omega), (by show 8 + (7 + 11) + (92 + 75 * jj) ≤ 43 + 75 * k; omega)⟩ ⟨(Nat.le_of_ble_eq_true rfl), (Nat.le_of_ble_eq_true rfl)⟩ (fun r h9 hp => ?_)
    obtain ⟨z8, z9, z10, rfl, rfl, h11, h12, h13, h14, h15, h16⟩ := hp
    refine J_nf (nh2 := nh) (ck2 := 0) (sk2 := 0) (st2 := [.long (zL z8)]) rfl rfl rfl rfl ?_
    refine J_app (L3 := [(98, .inr (12, (.int (zI ms) :: .int (zI mv) :: .ref 99 :: .ref 100 :: .ref 101 :: .ref 102 :: .ref 103 :: .ref 104 :: .ref 105 :: .int (zI mt) :: .int (zI mfa) :: .ref 106 :: .ref 107 :: .ref 108 :: .int (zI mtn) :: .int (zI mtk) :: .int (zI mlv) :: .int (zI mbd) :: .int (zI z9) :: .int (zI mge) :: .int (zI z10) :: .ref 109 :: .int (zI mtt) :: .int (zI mtl) :: .ref 110 :: .ref 111 :: .ref 112 :: .ref 113 :: .ref 114 :: .ref 115 :: .ref 116 :: .ref 117 :: .int (zI hm) :: .int (zI pm) :: .int (zI hb) :: .int (zI sb) :: .ref 118 :: .ref 119 :: .ref 120 :: .ref 121 :: .ref 122 :: .ref 123 :: .ref 124 :: .ref 125 :: .ref 126 :: .ref 127 :: .ref 128 :: .ref 129 :: .int (zI mfu) :: .ref 130 :: .ref 131 :: .ref 132 :: .ref 133 :: .ref 134 :: .int (zI mdm) :: .int (zI mla) :: []))), (98, .inr (12, (.int (zI ms) :: .int (zI mv) :: .ref 99 :: .ref 100 :: .ref 101 :: .ref 102 :: .ref 103 :: .ref 104 :: .ref 105 :: .int (zI mt) :: .int (zI mfa) :: .ref 106 :: .ref 107 :: .ref 108 :: .int (zI mtn) :: .int (zI mtk) :: .int (zI mlv) :: .int (zI mbd) :: .int (zI z3) :: .int (zI mge) :: .int (zI mbk) :: .ref 109 :: .int (zI mtt) :: .int (zI mtl) :: .ref 110 :: .ref 111 :: .ref 112 :: .ref 113 :: .ref 114 :: .ref 115 :: .ref 116 :: .ref 117 :: .int (zI hm) :: .int (zI pm) :: .int (zI hb) :: .int (zI sb) :: .ref 118 :: .ref 119 :: .ref 120 :: .ref 121 :: .ref 122 :: .ref 123 :: .ref 124 :: .ref 125 :: .ref 126 :: .ref 127 :: .ref 128 :: .ref 129 :: .int (zI mfu) :: .ref 130 :: .ref 131 :: .ref 132 :: .ref 133 :: .ref 134 :: .int (zI mdm) :: .int (zI mla) :: [])))]) rfl ?_
    refine J_mask (L2 := [(98, .inr (12, (.int (zI ms) :: .int (zI mv) :: .ref 99 :: .ref 100 :: .ref 101 :: .ref 102 :: .ref 103 :: .ref 104 :: .ref 105 :: .int (zI mt) :: .int (zI mfa) :: .ref 106 :: .ref 107 :: .ref 108 :: .int (zI mtn) :: .int (zI mtk) :: .int (zI mlv) :: .int (zI mbd) :: .int (zI z9) :: .int (zI mge) :: .int (zI z10) :: .ref 109 :: .int (zI mtt) :: .int (zI mtl) :: .ref 110 :: .ref 111 :: .ref 112 :: .ref 113 :: .ref 114 :: .ref 115 :: .ref 116 :: .ref 117 :: .int (zI hm) :: .int (zI pm) :: .int (zI hb) :: .int (zI sb) :: .ref 118 :: .ref 119 :: .ref 120 :: .ref 121 :: .ref 122 :: .ref 123 :: .ref 124 :: .ref 125 :: .ref 126 :: .ref 127 :: .ref 128 :: .ref 129 :: .int (zI mfu) :: .ref 130 :: .ref 131 :: .ref 132 :: .ref 133 :: .ref 134 :: .int (zI mdm) :: .int (zI mla) :: [])))]) (ks := [98, 98]) [true, false] rfl (by decide +kernel) rfl ?_
    refine J_lstore_n dX12_partOf_17 rfl (Nat.le_of_ble_eq_true rfl) rfl ?_
    refine J_ls (ls2 := [some (.ref 98), some (.int (zI lv)), some (.long (zL z8)), none]) rfl ?_
    refine J_aload_n dX12_partOf_18 rfl rfl ?_
    refine J_dup dX12_partOf_19 rfl ?_
    refine J_get (v := .int (zI z9)) dX12_partOf_20 fl_X12_240 rfl rfl ?_
    refine Z_iconst (n := 1) dX12_partOf_23 ?_
    refine Z_iadd (c := z9 + 1) dX12_partOf_24 rfl ?_
    refine K_put (fs2 := (.int (zI ms) :: .int (zI mv) :: .ref 99 :: .ref 100 :: .ref 101 :: .ref 102 :: .ref 103 :: .ref 104 :: .ref 105 :: .int (zI mt) :: .int (zI mfa) :: .ref 106 :: .ref 107 :: .ref 108 :: .int (zI mtn) :: .int (zI mtk) :: .int (zI mlv) :: .int (zI mbd) :: .int (zI (z9 + 1)) :: .int (zI mge) :: .int (zI z10) :: .ref 109 :: .int (zI mtt) :: .int (zI mtl) :: .ref 110 :: .ref 111 :: .ref 112 :: .ref 113 :: .ref 114 :: .ref 115 :: .ref 116 :: .ref 117 :: .int (zI hm) :: .int (zI pm) :: .int (zI hb) :: .int (zI sb) :: .ref 118 :: .ref 119 :: .ref 120 :: .ref 121 :: .ref 122 :: .ref 123 :: .ref 124 :: .ref 125 :: .ref 126 :: .ref 127 :: .ref 128 :: .ref 129 :: .int (zI mfu) :: .ref 130 :: .ref 131 :: .ref 132 :: .ref 133 :: .ref 134 :: .int (zI mdm) :: .int (zI mla) :: [])) dX12_partOf_25 fw_X12_240 rfl (Nat.le_of_ble_eq_true rfl) (fun _ => ⟨rfl, rfl⟩) rfl ?_
    refine J_lload_n dX12_partOf_28 rfl rfl ?_
    refine J_mask (L2 := [(98, .inr (12, (.int (zI ms) :: .int (zI mv) :: .ref 99 :: .ref 100 :: .ref 101 :: .ref 102 :: .ref 103 :: .ref 104 :: .ref 105 :: .int (zI mt) :: .int (zI mfa) :: .ref 106 :: .ref 107 :: .ref 108 :: .int (zI mtn) :: .int (zI mtk) :: .int (zI mlv) :: .int (zI mbd) :: .int (zI (z9 + 1)) :: .int (zI mge) :: .int (zI z10) :: .ref 109 :: .int (zI mtt) :: .int (zI mtl) :: .ref 110 :: .ref 111 :: .ref 112 :: .ref 113 :: .ref 114 :: .ref 115 :: .ref 116 :: .ref 117 :: .int (zI hm) :: .int (zI pm) :: .int (zI hb) :: .int (zI sb) :: .ref 118 :: .ref 119 :: .ref 120 :: .ref 121 :: .ref 122 :: .ref 123 :: .ref 124 :: .ref 125 :: .ref 126 :: .ref 127 :: .ref 128 :: .ref 129 :: .int (zI mfu) :: .ref 130 :: .ref 131 :: .ref 132 :: .ref 133 :: .ref 134 :: .int (zI mdm) :: .int (zI mla) :: [])))]) (ks := [98, 98]) [true, false] rfl (by decide +kernel) rfl ?_
    exact J_lret dX12_partOf_29 rfl (Nat.le_of_ble_eq_true rfl) (Nat.le_of_ble_eq_true rfl) ⟨z8, (z9 + 1), z10, rfl, rfl, (v_11a1212907 h11), h12, h13, h14, h15, (h16)⟩
  · refine J_nf (nh2 := nh) (ck2 := 0) (sk2 := 0) (st2 := [.int (zI 0)]) rfl rfl rfl rfl ?_
    refine Z_if_eq (tgt := 30) dX12_partOf_9 (by decide) v_b17331891f (fun h17 => ?_) (fun h17 => absurd h17 (fun q => q v_2ca2bbca1f))
    have glf := PaD.lf q0 (fun w => h6 (w.trans (v_f5fa194e54 h2)))
    have glfe : e = mgo + 1 := glf.1
    refine J_aload_n dX12_partOf_30 rfl rfl ?_
    refine J_aload_n dX12_partOf_31 rfl rfl ?_
    refine J_get (v := .int (zI mgo)) dX12_partOf_32 fl_X12_240 hk98 rfl ?_
    refine J_callV (st := []) dX12_partOf_35 cv_X12_243 (k_codeAt mgo K ms mv mt mfa mtn mtk mlv mbd mgo mge mbk mtt mtl hm pm hb sb mfu mdm mla q3 (v_c27e8638e2 q1 q2 q4) (v_3dc59781b4 q1 q2 q3) q4 q9 hk98 hk100) hk98 rfl rfl (Nat.le_of_ble_eq_true rfl) ⟨(by show (0 : Nat) + 1 ≤ 2 + 3 * k; omega), (by show 8 + (2 + 11) + (0) ≤ 43 + 75 * k; omega)⟩ ⟨(Nat.le_of_ble_eq_true rfl), (Nat.le_of_ble_eq_true rfl)⟩ (fun r h9 hp => ?_)
    obtain ⟨z18, rfl, rfl, h19, h20⟩ := hp
    refine J_nf (nh2 := nh) (ck2 := 0) (sk2 := 0) (st2 := [.int (zI z18)]) rfl rfl rfl rfl ?_
    refine J_istore_n dX12_partOf_38 rfl (Nat.le_of_ble_eq_true rfl) rfl ?_
    refine J_ls (ls2 := [some (.ref 98), some (.int (zI lv)), some (.int (zI z18)), none]) rfl ?_
    refine J_aload_n dX12_partOf_39 rfl rfl ?_
    refine J_dup dX12_partOf_40 rfl ?_
    refine J_get (v := .int (zI mgo)) dX12_partOf_41 fl_X12_240 hk98 rfl ?_
    refine Z_iconst (n := 1) dX12_partOf_44 ?_
    refine Z_iadd (c := mgo + 1) dX12_partOf_45 rfl ?_
    refine K_put (fs2 := (.int (zI ms) :: .int (zI mv) :: .ref 99 :: .ref 100 :: .ref 101 :: .ref 102 :: .ref 103 :: .ref 104 :: .ref 105 :: .int (zI mt) :: .int (zI mfa) :: .ref 106 :: .ref 107 :: .ref 108 :: .int (zI mtn) :: .int (zI mtk) :: .int (zI mlv) :: .int (zI mbd) :: .int (zI (mgo + 1)) :: .int (zI mge) :: .int (zI mbk) :: .ref 109 :: .int (zI mtt) :: .int (zI mtl) :: .ref 110 :: .ref 111 :: .ref 112 :: .ref 113 :: .ref 114 :: .ref 115 :: .ref 116 :: .ref 117 :: .int (zI hm) :: .int (zI pm) :: .int (zI hb) :: .int (zI sb) :: .ref 118 :: .ref 119 :: .ref 120 :: .ref 121 :: .ref 122 :: .ref 123 :: .ref 124 :: .ref 125 :: .ref 126 :: .ref 127 :: .ref 128 :: .ref 129 :: .int (zI mfu) :: .ref 130 :: .ref 131 :: .ref 132 :: .ref 133 :: .ref 134 :: .int (zI mdm) :: .int (zI mla) :: [])) dX12_partOf_46 fw_X12_240 hk98 (Nat.le_of_ble_eq_true rfl) (fun _ => ⟨rfl, rfl⟩) rfl ?_
    refine J_iload_n dX12_partOf_49 rfl rfl ?_
    refine Z_if_eq (tgt := 60) dX12_partOf_50 (by decide) (v_5f10a759cd q5 q6) (fun h21 => ?_) (fun h21 => ?_)
    · refine J_lconst (v := zL 0) dX12_partOf_60 (by decide +kernel) ?_
      exact J_lret dX12_partOf_61 rfl (Nat.le_of_ble_eq_true rfl) (Nat.le_of_ble_eq_true rfl) ⟨0, (mgo + 1), mbk, rfl, rfl, (v_23a97348cc q1 glfe), q7, q8, v_3239e84df7, v_375680e715, (EvS.lf0 (Or.inl (v_bd6c74a791 q5 h21)) (zo_of (v_2b02420001 q5) (v_e327774f82 h21)))⟩
    · refine J_aload_n dX12_partOf_53 rfl rfl ?_
      refine J_get (v := .int (zI mbk)) dX12_partOf_54 fl_X12_250 rfl rfl ?_
      refine Z_if_eq (tgt := 62) dX12_partOf_57 (by decide) (v_5f10a759cd q7 q8) (fun h22 => ?_) (fun h22 => ?_)
      · refine J_iload_n dX12_partOf_62 rfl rfl ?_
        refine Z_bipush (n := 50) dX12_partOf_63 (by decide +kernel) ?_
        refine Z_icmp_ne (tgt := 87) dX12_partOf_65 (by decide) (v_b25fa51a85 h20) v_e1e0ea2c24 (fun h23 => ?_) (fun h23 => ?_)
        · have g24 := LfD.wd glf h19 (v_1d27395770 h23)
          refine J_aload_n dX12_partOf_87 rfl rfl ?_
          refine J_get (v := .ref 109) dX12_partOf_88 fl_X12_52 rfl rfl ?_
          refine J_iload_n dX12_partOf_91 rfl rfl ?_
          refine Z_bipush (n := 8) dX12_partOf_92 (by decide +kernel) ?_
          refine Z_isub (c := z18 - 8) dX12_partOf_94 rfl ?_
          obtain ⟨z25, ez25⟩ : ∃ z : Int, aq (z18 - 8) = z := ⟨_, rfl⟩
          have h26 := Rg.at q10 (v_6f347a99df g24.2.1) (v_04f174b047 g24.2.2.1) ez25
          refine Y_iald (z := z25) 8 dX12_partOf_95 hk109 rfl (by decide) (v_6f347a99df g24.2.1) (v_04f174b047 g24.2.2.1) ez25 ?_
          refine Y_i2l dX12_partOf_96 (v_f306e1cdb8 h26.1 h26.2) ?_
          have gev : EvS lv mbk w8 f z25 mbk := EvS.lfw glf h19 (v_cb9e7b4bbd g24.2.2.1) q11 q12 v_0effb42be2 ez25 (v_8b15499c4b q5 q6 h21) (v_bd6c74a791 q7 h22)
          exact J_lret dX12_partOf_97 rfl (Nat.le_of_ble_eq_true rfl) (Nat.le_of_ble_eq_true rfl) ⟨z25, (mgo + 1), mbk, rfl, rfl, (v_23a97348cc q1 glfe), q7, q8, gev.1.1, gev.1.2, (gev)⟩
        · refine J_aload_n dX12_partOf_68 rfl rfl ?_
          refine J_get (v := .ref 100) dX12_partOf_69 fl_X12_20 rfl rfl ?_
          refine Z_sipush (n := 2470) dX12_partOf_72 (by decide +kernel) ?_
          refine J_aload_n dX12_partOf_75 rfl rfl ?_
          refine J_get (v := .int (zI (mgo + 1))) dX12_partOf_76 fl_X12_240 rfl rfl ?_
          refine Z_iadd (c := mgo + 2471) dX12_partOf_79 v_7ae087e860 ?_
          refine Z_iconst (n := 1) dX12_partOf_80 ?_
          refine Z_isub (c := mgo + 2470) dX12_partOf_81 v_3c6fe9a745 ?_
          obtain ⟨z27, ez27⟩ : ∃ z : Int, K (mgo + 2470) = z := ⟨_, rfl⟩
          have h28 := Rg.at q9 (v_ec7f6a6f1b q3) (v_b0b84e2f58 q1 q2 q4) ez27
          refine Y_iald (z := z27) 4870 dX12_partOf_82 hk100 rfl (by decide) (v_ec7f6a6f1b q3) (v_b0b84e2f58 q1 q2 q4) ez27 ?_
          refine Y_i2l dX12_partOf_83 (v_f306e1cdb8 h28.1 h28.2) ?_
          refine J_goto (tgt := 97) dX12_partOf_84 (by decide) ?_
          have gev : EvS lv mbk w8 f z27 mbk := EvS.lfn glf (v_2b02420001 q3) (v_c15de45a33 q1 q2 q4) h19 (v_7553af4adb h23) v_ab09c0d82d ez27 (v_8b15499c4b q5 q6 h21) (v_bd6c74a791 q7 h22)
          exact J_lret dX12_partOf_97 rfl (Nat.le_of_ble_eq_true rfl) (Nat.le_of_ble_eq_true rfl) ⟨z27, (mgo + 1), mbk, rfl, rfl, (v_23a97348cc q1 glfe), q7, q8, gev.1.1, gev.1.2, (gev)⟩
      · refine J_lconst (v := zL 0) dX12_partOf_60 (by decide +kernel) ?_
        exact J_lret dX12_partOf_61 rfl (Nat.le_of_ble_eq_true rfl) (Nat.le_of_ble_eq_true rfl) ⟨0, (mgo + 1), mbk, rfl, rfl, (v_23a97348cc q1 glfe), q7, q8, v_3239e84df7, v_375680e715, (EvS.lf0 (Or.inr (v_8b15499c4b q7 q8 h22)) (zo_of (v_2b02420001 q5) (v_6b0b292328 q6)))⟩
set_option maxHeartbeats 4000000 in
set_option maxRecDepth 100000 in
theorem k_termOf {l : Launch} {G : jG} {nh : Nat} {fh : Nat → Option va_E} (k : Nat) (ih : ∀ j : Nat, k = j + 1 → Q_sumOf l G j) (lv : Int) (e : Int) (f : DV) (w8 : Int → Int) (ms : Int) (mv : Int) (mt : Int) (mfa : Int) (mtn : Int) (mtk : Int) (mlv : Int) (mbd : Int) (mgo : Int) (mge : Int) (mbk : Int) (mtt : Int) (mtl : Int) (hm : Int) (pm : Int) (hb : Int) (sb : Int) (mfu : Int) (mdm : Int) (mla : Int) (K : Int → Int) (aq : Int → Int) (q0 : TmD (Cd K mge) (Vd K) k mgo e f) (q1 : mgo < e) (q2 : e ≤ mge) (q3 : 0 ≤ mgo) (q4 : mge ≤ 2400) (q5 : 0 ≤ lv) (q6 : lv ≤ 1) (q7 : 0 ≤ mbk) (q8 : mbk ≤ 1) (q9 : Rg K 4870 (-2147483648) 2147483647) (q10 : Rg aq 8 (-2147483648) 2147483647) (q11 : EqN aq w8 8) (q12 : Rg w8 8 (-1000000000) 1000000000) (hk98 : fh 98 = some (.inr (12, (.int (zI ms) :: .int (zI mv) :: .ref 99 :: .ref 100 :: .ref 101 :: .ref 102 :: .ref 103 :: .ref 104 :: .ref 105 :: .int (zI mt) :: .int (zI mfa) :: .ref 106 :: .ref 107 :: .ref 108 :: .int (zI mtn) :: .int (zI mtk) :: .int (zI mlv) :: .int (zI mbd) :: .int (zI mgo) :: .int (zI mge) :: .int (zI mbk) :: .ref 109 :: .int (zI mtt) :: .int (zI mtl) :: .ref 110 :: .ref 111 :: .ref 112 :: .ref 113 :: .ref 114 :: .ref 115 :: .ref 116 :: .ref 117 :: .int (zI hm) :: .int (zI pm) :: .int (zI hb) :: .int (zI sb) :: .ref 118 :: .ref 119 :: .ref 120 :: .ref 121 :: .ref 122 :: .ref 123 :: .ref 124 :: .ref 125 :: .ref 126 :: .ref 127 :: .ref 128 :: .ref 129 :: .int (zI mfu) :: .ref 130 :: .ref 131 :: .ref 132 :: .ref 133 :: .ref 134 :: .int (zI mdm) :: .int (zI mla) :: [])))) (hk100 : fh 100 = some (.inl (0, 4870, .inl (zA K)))) (hk109 : fh 109 = some (.inl (0, 8, .inl (zA aq)))) : JM l G yX12_termOf MX12_termOf { frames := 3 + 3 * k, cells := 0, slots := 0, locals := 66 + 75 * k } [.ref 98, .int (zI lv)] (nh, fh) (fun rr h9 => ∃ r : Int, ∃ go2 : Int, ∃ bk2 : Int, rr = some (.long (zL r)) ∧ h9 = (nh, hc fh [(98, .inr (12, (.int (zI ms) :: .int (zI mv) :: .ref 99 :: .ref 100 :: .ref 101 :: .ref 102 :: .ref 103 :: .ref 104 :: .ref 105 :: .int (zI mt) :: .int (zI mfa) :: .ref 106 :: .ref 107 :: .ref 108 :: .int (zI mtn) :: .int (zI mtk) :: .int (zI mlv) :: .int (zI mbd) :: .int (zI go2) :: .int (zI mge) :: .int (zI bk2) :: .ref 109 :: .int (zI mtt) :: .int (zI mtl) :: .ref 110 :: .ref 111 :: .ref 112 :: .ref 113 :: .ref 114 :: .ref 115 :: .ref 116 :: .ref 117 :: .int (zI hm) :: .int (zI pm) :: .int (zI hb) :: .int (zI sb) :: .ref 118 :: .ref 119 :: .ref 120 :: .ref 121 :: .ref 122 :: .ref 123 :: .ref 124 :: .ref 125 :: .ref 126 :: .ref 127 :: .ref 128 :: .ref 129 :: .int (zI mfu) :: .ref 130 :: .ref 131 :: .ref 132 :: .ref 133 :: .ref 134 :: .int (zI mdm) :: .int (zI mla) :: [])))]) ∧ (go2 = e) ∧ (0 ≤ bk2) ∧ (bk2 ≤ 1) ∧ (-1000000000 ≤ r) ∧ (r ≤ 1000000000) ∧ (EvS lv mbk w8 f r bk2)) := by
  refine JM.of (by decide) rfl (fun h => by cases h) (Nat.le_of_ble_eq_true rfl) ⟨5, rfl⟩ ?_
  refine J_hc0 (J_ls (ls2 := [some (.ref 98), some (.int (zI lv)), none, none, none, none, none]) rfl ?_)
  obtain ⟨m0, fx, gm0p, gm0l, gm0e, gm0t⟩ := SeD.opn (IncD_pt k) q0
  refine J_aload_n dX12_termOf_0 rfl rfl ?_
  refine J_iload_n dX12_termOf_1 rfl rfl ?_
  refine J_callV (st := []) dX12_termOf_2 cv_X12_262 (k_partOf k ih lv m0 fx w8 ms mv mt mfa mtn mtk mlv mbd mgo mge mbk mtt mtl hm pm hb sb mfu mdm mla K aq gm0p gm0l (v_f57be7c965 q2 gm0e) q3 q4 q5 q6 q7 q8 q9 q10 q11 q12 hk98 hk100 hk109) hk98 rfl rfl (Nat.le_of_ble_eq_true rfl) ⟨(by show (2 + 3 * k : Nat) + 1 ≤ 3 + 3 * k; omega), (by show 8 + (4 + 11) + (43 + 75 * k) ≤ 66 + 75 * k; omega)⟩ ⟨(Nat.le_of_ble_eq_true rfl), (Nat.le_of_ble_eq_true rfl)⟩ (fun r h9 hp => ?_)
  obtain ⟨z1, z2, z3, rfl, rfl, h4, h5, h6, h7, h8, h9⟩ := hp
  refine J_nf (nh2 := nh) (ck2 := 0) (sk2 := 0) (st2 := [.long (zL z1)]) rfl rfl rfl rfl ?_
  refine J_app (L3 := [(98, .inr (12, (.int (zI ms) :: .int (zI mv) :: .ref 99 :: .ref 100 :: .ref 101 :: .ref 102 :: .ref 103 :: .ref 104 :: .ref 105 :: .int (zI mt) :: .int (zI mfa) :: .ref 106 :: .ref 107 :: .ref 108 :: .int (zI mtn) :: .int (zI mtk) :: .int (zI mlv) :: .int (zI mbd) :: .int (zI z2) :: .int (zI mge) :: .int (zI z3) :: .ref 109 :: .int (zI mtt) :: .int (zI mtl) :: .ref 110 :: .ref 111 :: .ref 112 :: .ref 113 :: .ref 114 :: .ref 115 :: .ref 116 :: .ref 117 :: .int (zI hm) :: .int (zI pm) :: .int (zI hb) :: .int (zI sb) :: .ref 118 :: .ref 119 :: .ref 120 :: .ref 121 :: .ref 122 :: .ref 123 :: .ref 124 :: .ref 125 :: .ref 126 :: .ref 127 :: .ref 128 :: .ref 129 :: .int (zI mfu) :: .ref 130 :: .ref 131 :: .ref 132 :: .ref 133 :: .ref 134 :: .int (zI mdm) :: .int (zI mla) :: [])))]) rfl ?_
  refine J_lstore_n dX12_termOf_5 rfl (Nat.le_of_ble_eq_true rfl) rfl ?_
  refine J_ls (ls2 := [some (.ref 98), some (.int (zI lv)), some (.long (zL z1)), none, none, none, none]) rfl ?_
  have lp6 : ∀ (N6 : Nat) (v_6 : Int) (go_6 : Int) (bk_6 : Int), (0 ≤ go_6) → (go_6 ≤ e) → (0 ≤ bk_6) → (bk_6 ≤ 1) → (-1000000000 ≤ v_6) → (v_6 ≤ 1000000000) → (TlX (EvS lv mbk w8) (PtD (Cd K mge) (Vd K) k) opM arC (Cd K mge) go_6 v_6 bk_6 e f) → (e - go_6).toNat < N6 → J l G MX12_termOf { frames := 3 + 3 * k, cells := 0, slots := 0, locals := 66 + 75 * k } jE (jMQ G { frames := 3 + 3 * k, cells := 0, slots := 0, locals := 66 + 75 * k } (fun rr h9 => ∃ r : Int, ∃ go2 : Int, ∃ bk2 : Int, rr = some (.long (zL r)) ∧ h9 = (nh, hc fh [(98, .inr (12, (.int (zI ms) :: .int (zI mv) :: .ref 99 :: .ref 100 :: .ref 101 :: .ref 102 :: .ref 103 :: .ref 104 :: .ref 105 :: .int (zI mt) :: .int (zI mfa) :: .ref 106 :: .ref 107 :: .ref 108 :: .int (zI mtn) :: .int (zI mtk) :: .int (zI mlv) :: .int (zI mbd) :: .int (zI go2) :: .int (zI mge) :: .int (zI bk2) :: .ref 109 :: .int (zI mtt) :: .int (zI mtl) :: .ref 110 :: .ref 111 :: .ref 112 :: .ref 113 :: .ref 114 :: .ref 115 :: .ref 116 :: .ref 117 :: .int (zI hm) :: .int (zI pm) :: .int (zI hb) :: .int (zI sb) :: .ref 118 :: .ref 119 :: .ref 120 :: .ref 121 :: .ref 122 :: .ref 123 :: .ref 124 :: .ref 125 :: .ref 126 :: .ref 127 :: .ref 128 :: .ref 129 :: .int (zI mfu) :: .ref 130 :: .ref 131 :: .ref 132 :: .ref 133 :: .ref 134 :: .int (zI mdm) :: .int (zI mla) :: [])))]) ∧ (go2 = e) ∧ (0 ≤ bk2) ∧ (bk2 ≤ 1) ∧ (-1000000000 ≤ r) ∧ (r ≤ 1000000000) ∧ (EvS lv mbk w8 f r bk2))) (nh, hc fh [(98, .inr (12, (.int (zI ms) :: .int (zI mv) :: .ref 99 :: .ref 100 :: .ref 101 :: .ref 102 :: .ref 103 :: .ref 104 :: .ref 105 :: .int (zI mt) :: .int (zI mfa) :: .ref 106 :: .ref 107 :: .ref 108 :: .int (zI mtn) :: .int (zI mtk) :: .int (zI mlv) :: .int (zI mbd) :: .int (zI go_6) :: .int (zI mge) :: .int (zI bk_6) :: .ref 109 :: .int (zI mtt) :: .int (zI mtl) :: .ref 110 :: .ref 111 :: .ref 112 :: .ref 113 :: .ref 114 :: .ref 115 :: .ref 116 :: .ref 117 :: .int (zI hm) :: .int (zI pm) :: .int (zI hb) :: .int (zI sb) :: .ref 118 :: .ref 119 :: .ref 120 :: .ref 121 :: .ref 122 :: .ref 123 :: .ref 124 :: .ref 125 :: .ref 126 :: .ref 127 :: .ref 128 :: .ref 129 :: .int (zI mfu) :: .ref 130 :: .ref 131 :: .ref 132 :: .ref 133 :: .ref 134 :: .int (zI mdm) :: .int (zI mla) :: [])))]) 0 0 6 [some (.ref 98), some (.int (zI lv)), some (.long (zL v_6)), none, none, none, none] [] := by
    intro N6
    induction N6 with
    | zero => intro v_6 go_6 bk_6 i6_0 i6_1 i6_2 i6_3 i6_4 i6_5 i6_6 hm; exact absurd hm (Nat.not_lt_zero _)
    | succ N6 ih6 =>
      intro v_6 go_6 bk_6 i6_0 i6_1 i6_2 i6_3 i6_4 i6_5 i6_6 hm6
      refine J_aload_n dX12_termOf_6 rfl rfl ?_
      refine J_aload_n dX12_termOf_7 rfl rfl ?_
      refine J_get (v := .int (zI go_6)) dX12_termOf_8 fl_X12_240 rfl rfl ?_
      refine J_callV (st := []) dX12_termOf_11 cv_X12_243 (k_codeAt go_6 K ms mv mt mfa mtn mtk mlv mbd go_6 mge bk_6 mtt mtl hm pm hb sb mfu mdm mla i6_0 (v_ae25b4a4ea q2 q4 i6_1) (v_3dc59781b4 q1 q2 q3) q4 q9 rfl hk100) rfl rfl rfl (Nat.le_of_ble_eq_true rfl) ⟨(by show (0 : Nat) + 1 ≤ 3 + 3 * k; omega), (by show 8 + (2 + 11) + (0) ≤ 66 + 75 * k; omega)⟩ ⟨(Nat.le_of_ble_eq_true rfl), (Nat.le_of_ble_eq_true rfl)⟩ (fun r h9 hp => ?_)
      obtain ⟨z10, rfl, rfl, h11, h12⟩ := hp
      refine J_nf (nh2 := nh) (ck2 := 0) (sk2 := 0) (st2 := [.int (zI z10)]) rfl rfl rfl rfl ?_
      refine Z_bipush (n := 42) dX12_termOf_14 (by decide +kernel) ?_
      refine J_callS (st := [.int (zI z10)]) dX12_termOf_16 cs_X12_215 (k_sign 42 v_19b0ad2cd1 v_1f79c0c2c4) rfl rfl (Nat.le_of_ble_eq_true rfl) ⟨(by show (0 : Nat) + 1 ≤ 3 + 3 * k; omega), (by show 8 + (1 + 11) + (0) ≤ 66 + 75 * k; omega)⟩ ⟨(Nat.le_of_ble_eq_true rfl), (Nat.le_of_ble_eq_true rfl)⟩ (fun r h9 hp => ?_)
      obtain ⟨z13, rfl, rfl, h14⟩ := hp
      refine J_nf (nh2 := nh) (ck2 := 0) (sk2 := 0) (st2 := [.int (zI z13), .int (zI z10)]) rfl rfl rfl rfl ?_
      refine Z_icmp_eq (tgt := 38) dX12_termOf_19 (by decide) (v_b25fa51a85 h12) (v_a06c48b26f h14) (fun h15 => ?_) (fun h15 => ?_)
      · refine J_aload_n dX12_termOf_38 rfl rfl ?_
        refine J_aload_n dX12_termOf_39 rfl rfl ?_
        refine J_get (v := .int (zI go_6)) dX12_termOf_40 fl_X12_240 rfl rfl ?_
        refine J_callV (st := []) dX12_termOf_43 cv_X12_243 (k_codeAt go_6 K ms mv mt mfa mtn mtk mlv mbd go_6 mge bk_6 mtt mtl hm pm hb sb mfu mdm mla i6_0 (v_ae25b4a4ea q2 q4 i6_1) (v_3dc59781b4 q1 q2 q3) q4 q9 rfl hk100) rfl rfl rfl (Nat.le_of_ble_eq_true rfl) ⟨(by show (0 : Nat) + 1 ≤ 3 + 3 * k; omega), (by show 8 + (2 + 11) + (0) ≤ 66 + 75 * k; omega)⟩ ⟨(Nat.le_of_ble_eq_true rfl), (Nat.le_of_ble_eq_true rfl)⟩ (fun r h9 hp => ?_)
        obtain ⟨z16, rfl, rfl, h17, h18⟩ := hp
        refine J_nf (nh2 := nh) (ck2 := 0) (sk2 := 0) (st2 := [.int (zI z16)]) rfl rfl rfl rfl ?_
        refine Z_bipush (n := 42) dX12_termOf_46 (by decide +kernel) ?_
        refine J_callS (st := [.int (zI z16)]) dX12_termOf_48 cs_X12_215 (k_sign 42 v_19b0ad2cd1 v_1f79c0c2c4) rfl rfl (Nat.le_of_ble_eq_true rfl) ⟨(by show (0 : Nat) + 1 ≤ 3 + 3 * k; omega), (by show 8 + (1 + 11) + (0) ≤ 66 + 75 * k; omega)⟩ ⟨(Nat.le_of_ble_eq_true rfl), (Nat.le_of_ble_eq_true rfl)⟩ (fun r h9 hp => ?_)
        obtain ⟨z19, rfl, rfl, h20⟩ := hp
        refine J_nf (nh2 := nh) (ck2 := 0) (sk2 := 0) (st2 := [.int (zI z19), .int (zI z16)]) rfl rfl rfl rfl ?_
        refine Z_icmp_ne (tgt := 58) dX12_termOf_51 (by decide) (v_b25fa51a85 h18) (v_a06c48b26f h20) (fun h21 => absurd h21 (fun q => q (v_ea284f4f4f h11 h14 h15 h17 h20))) (fun h21 => ?_)
        refine Z_iconst (n := 1) dX12_termOf_54 ?_
        refine J_goto (tgt := 59) dX12_termOf_55 (by decide) ?_
        refine J_istore dX12_termOf_59 (Nat.le_of_ble_eq_true rfl) rfl ?_
        refine J_ls (ls2 := [some (.ref 98), some (.int (zI lv)), some (.long (zL v_6)), none, some (.int (zI 1)), none, none]) rfl ?_
        refine J_aload_n dX12_termOf_61 rfl rfl ?_
        refine J_dup dX12_termOf_62 rfl ?_
        refine J_get (v := .int (zI go_6)) dX12_termOf_63 fl_X12_240 rfl rfl ?_
        refine Z_iconst (n := 1) dX12_termOf_66 ?_
        refine Z_iadd (c := go_6 + 1) dX12_termOf_67 rfl ?_
        refine K_put (fs2 := (.int (zI ms) :: .int (zI mv) :: .ref 99 :: .ref 100 :: .ref 101 :: .ref 102 :: .ref 103 :: .ref 104 :: .ref 105 :: .int (zI mt) :: .int (zI mfa) :: .ref 106 :: .ref 107 :: .ref 108 :: .int (zI mtn) :: .int (zI mtk) :: .int (zI mlv) :: .int (zI mbd) :: .int (zI (go_6 + 1)) :: .int (zI mge) :: .int (zI bk_6) :: .ref 109 :: .int (zI mtt) :: .int (zI mtl) :: .ref 110 :: .ref 111 :: .ref 112 :: .ref 113 :: .ref 114 :: .ref 115 :: .ref 116 :: .ref 117 :: .int (zI hm) :: .int (zI pm) :: .int (zI hb) :: .int (zI sb) :: .ref 118 :: .ref 119 :: .ref 120 :: .ref 121 :: .ref 122 :: .ref 123 :: .ref 124 :: .ref 125 :: .ref 126 :: .ref 127 :: .ref 128 :: .ref 129 :: .int (zI mfu) :: .ref 130 :: .ref 131 :: .ref 132 :: .ref 133 :: .ref 134 :: .int (zI mdm) :: .int (zI mla) :: [])) dX12_termOf_68 fw_X12_240 rfl (Nat.le_of_ble_eq_true rfl) (fun _ => ⟨rfl, rfl⟩) rfl ?_
        obtain ⟨m1, fa, fy, gm1p, gm1l, gm1e, gm1v, gm1t⟩ := TlX.next (IncD_pt k) i6_6 (show opM _ from (Or.inl (h17.trans (v_fc357702c1 h20 h21))))
        have gm1q : PtD (Cd K mge) (Vd K) k (go_6 + 1) m1 fy := by have u : (go_6 + 1) = go_6 + 1 := v_e828b09c4d; rw [u]; exact gm1p
        refine J_aload_n dX12_termOf_71 rfl rfl ?_
        refine J_iload_n dX12_termOf_72 rfl rfl ?_
        refine J_callV (st := []) dX12_termOf_73 cv_X12_262 (k_partOf k ih lv m1 fy w8 ms mv mt mfa mtn mtk mlv mbd (go_6 + 1) mge bk_6 mtt mtl hm pm hb sb mfu mdm mla K aq gm1q gm1l (v_f57be7c965 q2 gm1e) (v_da458fa48a i6_0) q4 q5 q6 i6_2 i6_3 q9 q10 q11 q12 rfl hk100 hk109) rfl rfl rfl (Nat.le_of_ble_eq_true rfl) ⟨(by show (2 + 3 * k : Nat) + 1 ≤ 3 + 3 * k; omega), (by show 8 + (4 + 11) + (43 + 75 * k) ≤ 66 + 75 * k; omega)⟩ ⟨(Nat.le_of_ble_eq_true rfl), (Nat.le_of_ble_eq_true rfl)⟩ (fun r h9 hp => ?_)
        obtain ⟨z22, z23, z24, rfl, rfl, h25, h26, h27, h28, h29, h30⟩ := hp
        refine J_nf (nh2 := nh) (ck2 := 0) (sk2 := 0) (st2 := [.long (zL z22)]) rfl rfl rfl rfl ?_
        refine J_app (L3 := [(98, .inr (12, (.int (zI ms) :: .int (zI mv) :: .ref 99 :: .ref 100 :: .ref 101 :: .ref 102 :: .ref 103 :: .ref 104 :: .ref 105 :: .int (zI mt) :: .int (zI mfa) :: .ref 106 :: .ref 107 :: .ref 108 :: .int (zI mtn) :: .int (zI mtk) :: .int (zI mlv) :: .int (zI mbd) :: .int (zI z23) :: .int (zI mge) :: .int (zI z24) :: .ref 109 :: .int (zI mtt) :: .int (zI mtl) :: .ref 110 :: .ref 111 :: .ref 112 :: .ref 113 :: .ref 114 :: .ref 115 :: .ref 116 :: .ref 117 :: .int (zI hm) :: .int (zI pm) :: .int (zI hb) :: .int (zI sb) :: .ref 118 :: .ref 119 :: .ref 120 :: .ref 121 :: .ref 122 :: .ref 123 :: .ref 124 :: .ref 125 :: .ref 126 :: .ref 127 :: .ref 128 :: .ref 129 :: .int (zI mfu) :: .ref 130 :: .ref 131 :: .ref 132 :: .ref 133 :: .ref 134 :: .int (zI mdm) :: .int (zI mla) :: []))), (98, .inr (12, (.int (zI ms) :: .int (zI mv) :: .ref 99 :: .ref 100 :: .ref 101 :: .ref 102 :: .ref 103 :: .ref 104 :: .ref 105 :: .int (zI mt) :: .int (zI mfa) :: .ref 106 :: .ref 107 :: .ref 108 :: .int (zI mtn) :: .int (zI mtk) :: .int (zI mlv) :: .int (zI mbd) :: .int (zI (go_6 + 1)) :: .int (zI mge) :: .int (zI bk_6) :: .ref 109 :: .int (zI mtt) :: .int (zI mtl) :: .ref 110 :: .ref 111 :: .ref 112 :: .ref 113 :: .ref 114 :: .ref 115 :: .ref 116 :: .ref 117 :: .int (zI hm) :: .int (zI pm) :: .int (zI hb) :: .int (zI sb) :: .ref 118 :: .ref 119 :: .ref 120 :: .ref 121 :: .ref 122 :: .ref 123 :: .ref 124 :: .ref 125 :: .ref 126 :: .ref 127 :: .ref 128 :: .ref 129 :: .int (zI mfu) :: .ref 130 :: .ref 131 :: .ref 132 :: .ref 133 :: .ref 134 :: .int (zI mdm) :: .int (zI mla) :: []))), (98, .inr (12, (.int (zI ms) :: .int (zI mv) :: .ref 99 :: .ref 100 :: .ref 101 :: .ref 102 :: .ref 103 :: .ref 104 :: .ref 105 :: .int (zI mt) :: .int (zI mfa) :: .ref 106 :: .ref 107 :: .ref 108 :: .int (zI mtn) :: .int (zI mtk) :: .int (zI mlv) :: .int (zI mbd) :: .int (zI go_6) :: .int (zI mge) :: .int (zI bk_6) :: .ref 109 :: .int (zI mtt) :: .int (zI mtl) :: .ref 110 :: .ref 111 :: .ref 112 :: .ref 113 :: .ref 114 :: .ref 115 :: .ref 116 :: .ref 117 :: .int (zI hm) :: .int (zI pm) :: .int (zI hb) :: .int (zI sb) :: .ref 118 :: .ref 119 :: .ref 120 :: .ref 121 :: .ref 122 :: .ref 123 :: .ref 124 :: .ref 125 :: .ref 126 :: .ref 127 :: .ref 128 :: .ref 129 :: .int (zI mfu) :: .ref 130 :: .ref 131 :: .ref 132 :: .ref 133 :: .ref 134 :: .int (zI mdm) :: .int (zI mla) :: [])))]) rfl ?_
        refine J_mask (L2 := [(98, .inr (12, (.int (zI ms) :: .int (zI mv) :: .ref 99 :: .ref 100 :: .ref 101 :: .ref 102 :: .ref 103 :: .ref 104 :: .ref 105 :: .int (zI mt) :: .int (zI mfa) :: .ref 106 :: .ref 107 :: .ref 108 :: .int (zI mtn) :: .int (zI mtk) :: .int (zI mlv) :: .int (zI mbd) :: .int (zI z23) :: .int (zI mge) :: .int (zI z24) :: .ref 109 :: .int (zI mtt) :: .int (zI mtl) :: .ref 110 :: .ref 111 :: .ref 112 :: .ref 113 :: .ref 114 :: .ref 115 :: .ref 116 :: .ref 117 :: .int (zI hm) :: .int (zI pm) :: .int (zI hb) :: .int (zI sb) :: .ref 118 :: .ref 119 :: .ref 120 :: .ref 121 :: .ref 122 :: .ref 123 :: .ref 124 :: .ref 125 :: .ref 126 :: .ref 127 :: .ref 128 :: .ref 129 :: .int (zI mfu) :: .ref 130 :: .ref 131 :: .ref 132 :: .ref 133 :: .ref 134 :: .int (zI mdm) :: .int (zI mla) :: [])))]) (ks := [98, 98, 98]) [true, false, false] rfl (by decide +kernel) rfl ?_
        refine J_lstore dX12_termOf_76 (Nat.le_of_ble_eq_true rfl) rfl ?_
        refine J_ls (ls2 := [some (.ref 98), some (.int (zI lv)), some (.long (zL v_6)), none, some (.int (zI 1)), some (.long (zL z22)), none]) rfl ?_
        refine J_iload dX12_termOf_78 rfl ?_
        refine Z_if_ne (tgt := 113) dX12_termOf_80 (by decide) v_4dcc24baa7 (fun h31 => ?_) (fun h31 => absurd h31 v_3a47bfd896)
        refine J_aload_n dX12_termOf_113 rfl rfl ?_
        refine J_iload dX12_termOf_114 rfl ?_
        refine Z_if_eq (tgt := 126) dX12_termOf_116 (by decide) v_4dcc24baa7 (fun h32 => absurd h32 v_3a47bfd896) (fun h32 => ?_)
        refine J_lload_n dX12_termOf_119 rfl rfl ?_
        refine J_lload dX12_termOf_120 rfl ?_
        obtain ⟨z33, ez33⟩ : ∃ z : Int, v_6 * z22 = z := ⟨_, rfl⟩
        refine Y_lmul (c := z33) dX12_termOf_122 ez33 ?_
        have h34 := mul_bd ez33 (v_ba75b8fd0e i6_4) (v_17fa43f9b8 i6_5) (v_ba75b8fd0e h28) (v_17fa43f9b8 h29)
        refine J_goto (tgt := 130) dX12_termOf_123 (by decide) ?_
        have gz : lv = 0 → z33 = 0 := fun q => by rw [← ez33, (gm1v.2.1 q).1, Int.zero_mul]
        refine J_iload_n dX12_termOf_130 rfl rfl ?_
        refine J_callV (st := []) dX12_termOf_131 cv_X12_258 (k_bounded z33 lv ms mv mt mfa mtn mtk mlv mbd z23 mge z24 mtt mtl hm pm hb sb mfu mdm mla (v_4c7cfa5d77 h34.1 h34.2) q5 q6 h26 h27 gz rfl) rfl rfl rfl (Nat.le_of_ble_eq_true rfl) ⟨(by show (0 : Nat) + 1 ≤ 3 + 3 * k; omega), (by show 8 + (4 + 11) + (0) ≤ 66 + 75 * k; omega)⟩ ⟨(Nat.le_of_ble_eq_true rfl), (Nat.le_of_ble_eq_true rfl)⟩ (fun r h9 hp => ?_)
        obtain ⟨z35, z36, rfl, rfl, h37, h38, h39, h40, h41⟩ := hp
        refine J_nf (nh2 := nh) (ck2 := 0) (sk2 := 0) (st2 := [.long (zL z35)]) rfl rfl rfl rfl ?_
        refine J_app (L3 := [(98, .inr (12, (.int (zI ms) :: .int (zI mv) :: .ref 99 :: .ref 100 :: .ref 101 :: .ref 102 :: .ref 103 :: .ref 104 :: .ref 105 :: .int (zI mt) :: .int (zI mfa) :: .ref 106 :: .ref 107 :: .ref 108 :: .int (zI mtn) :: .int (zI mtk) :: .int (zI mlv) :: .int (zI mbd) :: .int (zI z23) :: .int (zI mge) :: .int (zI z36) :: .ref 109 :: .int (zI mtt) :: .int (zI mtl) :: .ref 110 :: .ref 111 :: .ref 112 :: .ref 113 :: .ref 114 :: .ref 115 :: .ref 116 :: .ref 117 :: .int (zI hm) :: .int (zI pm) :: .int (zI hb) :: .int (zI sb) :: .ref 118 :: .ref 119 :: .ref 120 :: .ref 121 :: .ref 122 :: .ref 123 :: .ref 124 :: .ref 125 :: .ref 126 :: .ref 127 :: .ref 128 :: .ref 129 :: .int (zI mfu) :: .ref 130 :: .ref 131 :: .ref 132 :: .ref 133 :: .ref 134 :: .int (zI mdm) :: .int (zI mla) :: []))), (98, .inr (12, (.int (zI ms) :: .int (zI mv) :: .ref 99 :: .ref 100 :: .ref 101 :: .ref 102 :: .ref 103 :: .ref 104 :: .ref 105 :: .int (zI mt) :: .int (zI mfa) :: .ref 106 :: .ref 107 :: .ref 108 :: .int (zI mtn) :: .int (zI mtk) :: .int (zI mlv) :: .int (zI mbd) :: .int (zI z23) :: .int (zI mge) :: .int (zI z24) :: .ref 109 :: .int (zI mtt) :: .int (zI mtl) :: .ref 110 :: .ref 111 :: .ref 112 :: .ref 113 :: .ref 114 :: .ref 115 :: .ref 116 :: .ref 117 :: .int (zI hm) :: .int (zI pm) :: .int (zI hb) :: .int (zI sb) :: .ref 118 :: .ref 119 :: .ref 120 :: .ref 121 :: .ref 122 :: .ref 123 :: .ref 124 :: .ref 125 :: .ref 126 :: .ref 127 :: .ref 128 :: .ref 129 :: .int (zI mfu) :: .ref 130 :: .ref 131 :: .ref 132 :: .ref 133 :: .ref 134 :: .int (zI mdm) :: .int (zI mla) :: [])))]) rfl ?_
        refine J_mask (L2 := [(98, .inr (12, (.int (zI ms) :: .int (zI mv) :: .ref 99 :: .ref 100 :: .ref 101 :: .ref 102 :: .ref 103 :: .ref 104 :: .ref 105 :: .int (zI mt) :: .int (zI mfa) :: .ref 106 :: .ref 107 :: .ref 108 :: .int (zI mtn) :: .int (zI mtk) :: .int (zI mlv) :: .int (zI mbd) :: .int (zI z23) :: .int (zI mge) :: .int (zI z36) :: .ref 109 :: .int (zI mtt) :: .int (zI mtl) :: .ref 110 :: .ref 111 :: .ref 112 :: .ref 113 :: .ref 114 :: .ref 115 :: .ref 116 :: .ref 117 :: .int (zI hm) :: .int (zI pm) :: .int (zI hb) :: .int (zI sb) :: .ref 118 :: .ref 119 :: .ref 120 :: .ref 121 :: .ref 122 :: .ref 123 :: .ref 124 :: .ref 125 :: .ref 126 :: .ref 127 :: .ref 128 :: .ref 129 :: .int (zI mfu) :: .ref 130 :: .ref 131 :: .ref 132 :: .ref 133 :: .ref 134 :: .int (zI mdm) :: .int (zI mla) :: [])))]) (ks := [98, 98]) [true, false] rfl (by decide +kernel) rfl ?_
        refine J_lstore_n dX12_termOf_134 rfl (Nat.le_of_ble_eq_true rfl) rfl ?_
        refine J_ls (ls2 := [some (.ref 98), some (.int (zI lv)), some (.long (zL z35)), none, some (.int (zI 1)), some (.long (zL z22)), none]) rfl ?_
        refine J_goto (tgt := 6) dX12_termOf_135 (by decide) ?_
        refine J_drop (ls2 := [some (.ref 98), some (.int (zI lv)), some (.long (zL z35)), none, none, none, none]) [true, true, true, false, false, false, false] rfl ?_
        exact ih6 z35 z23 z36 (v_ec671fffcf i6_0 gm1l h25) (v_402efff558 gm1e h25) h37 h38 h39 h40 (by have u : z23 = m1 := (v_cd91a95e4e h25); rw [u]; exact gm1t _ _ (EvS.mul (h17.trans (v_fc357702c1 h20 h21)) (zo_of (v_2b02420001 q5) (v_6b0b292328 q6)) (zo_of (v_2b02420001 h26) (v_6b0b292328 h27)) gm1v h30 ez33 h41)) (meas_lt (v_ccbf9b7651 gm1l h25) (v_293abdd145 gm1l gm1e) hm6)
      · refine J_aload_n dX12_termOf_22 rfl rfl ?_
        refine J_aload_n dX12_termOf_23 rfl rfl ?_
        refine J_get (v := .int (zI go_6)) dX12_termOf_24 fl_X12_240 rfl rfl ?_
        refine J_callV (st := []) dX12_termOf_27 cv_X12_243 (k_codeAt go_6 K ms mv mt mfa mtn mtk mlv mbd go_6 mge bk_6 mtt mtl hm pm hb sb mfu mdm mla i6_0 (v_ae25b4a4ea q2 q4 i6_1) (v_3dc59781b4 q1 q2 q3) q4 q9 rfl hk100) rfl rfl rfl (Nat.le_of_ble_eq_true rfl) ⟨(by show (0 : Nat) + 1 ≤ 3 + 3 * k; omega), (by show 8 + (2 + 11) + (0) ≤ 66 + 75 * k; omega)⟩ ⟨(Nat.le_of_ble_eq_true rfl), (Nat.le_of_ble_eq_true rfl)⟩ (fun r h9 hp => ?_)
        obtain ⟨z42, rfl, rfl, h43, h44⟩ := hp
        refine J_nf (nh2 := nh) (ck2 := 0) (sk2 := 0) (st2 := [.int (zI z42)]) rfl rfl rfl rfl ?_
        refine Z_bipush (n := 47) dX12_termOf_30 (by decide +kernel) ?_
        refine J_callS (st := [.int (zI z42)]) dX12_termOf_32 cs_X12_215 (k_sign 47 v_a2835897db v_8710bb8462) rfl rfl (Nat.le_of_ble_eq_true rfl) ⟨(by show (0 : Nat) + 1 ≤ 3 + 3 * k; omega), (by show 8 + (1 + 11) + (0) ≤ 66 + 75 * k; omega)⟩ ⟨(Nat.le_of_ble_eq_true rfl), (Nat.le_of_ble_eq_true rfl)⟩ (fun r h9 hp => ?_)
        obtain ⟨z45, rfl, rfl, h46⟩ := hp
        refine J_nf (nh2 := nh) (ck2 := 0) (sk2 := 0) (st2 := [.int (zI z45), .int (zI z42)]) rfl rfl rfl rfl ?_
        refine Z_icmp_ne (tgt := 138) dX12_termOf_35 (by decide) (v_b25fa51a85 h44) (v_6eab261304 h46) (fun h47 => ?_) (fun h47 => ?_)
        · have g48 := TlX.stop i6_6 (fun w => by have u0 := h11; have u1 := h14; have u2 := h15; have u3 := h43; have u4 := h46; have u5 := h47; rcases w with w | w <;> omega)
          refine J_lload_n dX12_termOf_138 rfl rfl ?_
          exact J_lret dX12_termOf_139 rfl (Nat.le_of_ble_eq_true rfl) (Nat.le_of_ble_eq_true rfl) ⟨v_6, go_6, bk_6, rfl, rfl, g48.1, i6_2, i6_3, i6_4, i6_5, (g48.2)⟩
        · refine J_aload_n dX12_termOf_38 rfl rfl ?_
          refine J_aload_n dX12_termOf_39 rfl rfl ?_
          refine J_get (v := .int (zI go_6)) dX12_termOf_40 fl_X12_240 rfl rfl ?_
          refine J_callV (st := []) dX12_termOf_43 cv_X12_243 (k_codeAt go_6 K ms mv mt mfa mtn mtk mlv mbd go_6 mge bk_6 mtt mtl hm pm hb sb mfu mdm mla i6_0 (v_ae25b4a4ea q2 q4 i6_1) (v_3dc59781b4 q1 q2 q3) q4 q9 rfl hk100) rfl rfl rfl (Nat.le_of_ble_eq_true rfl) ⟨(by show (0 : Nat) + 1 ≤ 3 + 3 * k; omega), (by show 8 + (2 + 11) + (0) ≤ 66 + 75 * k; omega)⟩ ⟨(Nat.le_of_ble_eq_true rfl), (Nat.le_of_ble_eq_true rfl)⟩ (fun r h9 hp => ?_)
          obtain ⟨z49, rfl, rfl, h50, h51⟩ := hp
          refine J_nf (nh2 := nh) (ck2 := 0) (sk2 := 0) (st2 := [.int (zI z49)]) rfl rfl rfl rfl ?_
          refine Z_bipush (n := 42) dX12_termOf_46 (by decide +kernel) ?_
          refine J_callS (st := [.int (zI z49)]) dX12_termOf_48 cs_X12_215 (k_sign 42 v_19b0ad2cd1 v_1f79c0c2c4) rfl rfl (Nat.le_of_ble_eq_true rfl) ⟨(by show (0 : Nat) + 1 ≤ 3 + 3 * k; omega), (by show 8 + (1 + 11) + (0) ≤ 66 + 75 * k; omega)⟩ ⟨(Nat.le_of_ble_eq_true rfl), (Nat.le_of_ble_eq_true rfl)⟩ (fun r h9 hp => ?_)
          obtain ⟨z52, rfl, rfl, h53⟩ := hp
          refine J_nf (nh2 := nh) (ck2 := 0) (sk2 := 0) (st2 := [.int (zI z52), .int (zI z49)]) rfl rfl rfl rfl ?_
          refine Z_icmp_ne (tgt := 58) dX12_termOf_51 (by decide) (v_b25fa51a85 h51) (v_a06c48b26f h53) (fun h54 => ?_) (fun h54 => absurd h54 (v_c8966f3198 h43 h46 h47 h50 h53))
          refine Z_iconst (n := 0) dX12_termOf_58 ?_
          refine J_istore dX12_termOf_59 (Nat.le_of_ble_eq_true rfl) rfl ?_
          refine J_ls (ls2 := [some (.ref 98), some (.int (zI lv)), some (.long (zL v_6)), none, some (.int (zI 0)), none, none]) rfl ?_
          refine J_aload_n dX12_termOf_61 rfl rfl ?_
          refine J_dup dX12_termOf_62 rfl ?_
          refine J_get (v := .int (zI go_6)) dX12_termOf_63 fl_X12_240 rfl rfl ?_
          refine Z_iconst (n := 1) dX12_termOf_66 ?_
          refine Z_iadd (c := go_6 + 1) dX12_termOf_67 rfl ?_
          refine K_put (fs2 := (.int (zI ms) :: .int (zI mv) :: .ref 99 :: .ref 100 :: .ref 101 :: .ref 102 :: .ref 103 :: .ref 104 :: .ref 105 :: .int (zI mt) :: .int (zI mfa) :: .ref 106 :: .ref 107 :: .ref 108 :: .int (zI mtn) :: .int (zI mtk) :: .int (zI mlv) :: .int (zI mbd) :: .int (zI (go_6 + 1)) :: .int (zI mge) :: .int (zI bk_6) :: .ref 109 :: .int (zI mtt) :: .int (zI mtl) :: .ref 110 :: .ref 111 :: .ref 112 :: .ref 113 :: .ref 114 :: .ref 115 :: .ref 116 :: .ref 117 :: .int (zI hm) :: .int (zI pm) :: .int (zI hb) :: .int (zI sb) :: .ref 118 :: .ref 119 :: .ref 120 :: .ref 121 :: .ref 122 :: .ref 123 :: .ref 124 :: .ref 125 :: .ref 126 :: .ref 127 :: .ref 128 :: .ref 129 :: .int (zI mfu) :: .ref 130 :: .ref 131 :: .ref 132 :: .ref 133 :: .ref 134 :: .int (zI mdm) :: .int (zI mla) :: [])) dX12_termOf_68 fw_X12_240 rfl (Nat.le_of_ble_eq_true rfl) (fun _ => ⟨rfl, rfl⟩) rfl ?_
          obtain ⟨m1, fa, fy, gm1p, gm1l, gm1e, gm1v, gm1t⟩ := TlX.next (IncD_pt k) i6_6 (show opM _ from (Or.inr (h50.trans (v_ea184dcf99 h43 h46 h47 h50))))
          have gm1q : PtD (Cd K mge) (Vd K) k (go_6 + 1) m1 fy := by have u : (go_6 + 1) = go_6 + 1 := v_e828b09c4d; rw [u]; exact gm1p
          refine J_aload_n dX12_termOf_71 rfl rfl ?_
          refine J_iload_n dX12_termOf_72 rfl rfl ?_
          refine J_callV (st := []) dX12_termOf_73 cv_X12_262 (k_partOf k ih lv m1 fy w8 ms mv mt mfa mtn mtk mlv mbd (go_6 + 1) mge bk_6 mtt mtl hm pm hb sb mfu mdm mla K aq gm1q gm1l (v_f57be7c965 q2 gm1e) (v_da458fa48a i6_0) q4 q5 q6 i6_2 i6_3 q9 q10 q11 q12 rfl hk100 hk109) rfl rfl rfl (Nat.le_of_ble_eq_true rfl) ⟨(by show (2 + 3 * k : Nat) + 1 ≤ 3 + 3 * k; omega), (by show 8 + (4 + 11) + (43 + 75 * k) ≤ 66 + 75 * k; omega)⟩ ⟨(Nat.le_of_ble_eq_true rfl), (Nat.le_of_ble_eq_true rfl)⟩ (fun r h9 hp => ?_)
          obtain ⟨z55, z56, z57, rfl, rfl, h58, h59, h60, h61, h62, h63⟩ := hp
          refine J_nf (nh2 := nh) (ck2 := 0) (sk2 := 0) (st2 := [.long (zL z55)]) rfl rfl rfl rfl ?_
          refine J_app (L3 := [(98, .inr (12, (.int (zI ms) :: .int (zI mv) :: .ref 99 :: .ref 100 :: .ref 101 :: .ref 102 :: .ref 103 :: .ref 104 :: .ref 105 :: .int (zI mt) :: .int (zI mfa) :: .ref 106 :: .ref 107 :: .ref 108 :: .int (zI mtn) :: .int (zI mtk) :: .int (zI mlv) :: .int (zI mbd) :: .int (zI z56) :: .int (zI mge) :: .int (zI z57) :: .ref 109 :: .int (zI mtt) :: .int (zI mtl) :: .ref 110 :: .ref 111 :: .ref 112 :: .ref 113 :: .ref 114 :: .ref 115 :: .ref 116 :: .ref 117 :: .int (zI hm) :: .int (zI pm) :: .int (zI hb) :: .int (zI sb) :: .ref 118 :: .ref 119 :: .ref 120 :: .ref 121 :: .ref 122 :: .ref 123 :: .ref 124 :: .ref 125 :: .ref 126 :: .ref 127 :: .ref 128 :: .ref 129 :: .int (zI mfu) :: .ref 130 :: .ref 131 :: .ref 132 :: .ref 133 :: .ref 134 :: .int (zI mdm) :: .int (zI mla) :: []))), (98, .inr (12, (.int (zI ms) :: .int (zI mv) :: .ref 99 :: .ref 100 :: .ref 101 :: .ref 102 :: .ref 103 :: .ref 104 :: .ref 105 :: .int (zI mt) :: .int (zI mfa) :: .ref 106 :: .ref 107 :: .ref 108 :: .int (zI mtn) :: .int (zI mtk) :: .int (zI mlv) :: .int (zI mbd) :: .int (zI (go_6 + 1)) :: .int (zI mge) :: .int (zI bk_6) :: .ref 109 :: .int (zI mtt) :: .int (zI mtl) :: .ref 110 :: .ref 111 :: .ref 112 :: .ref 113 :: .ref 114 :: .ref 115 :: .ref 116 :: .ref 117 :: .int (zI hm) :: .int (zI pm) :: .int (zI hb) :: .int (zI sb) :: .ref 118 :: .ref 119 :: .ref 120 :: .ref 121 :: .ref 122 :: .ref 123 :: .ref 124 :: .ref 125 :: .ref 126 :: .ref 127 :: .ref 128 :: .ref 129 :: .int (zI mfu) :: .ref 130 :: .ref 131 :: .ref 132 :: .ref 133 :: .ref 134 :: .int (zI mdm) :: .int (zI mla) :: []))), (98, .inr (12, (.int (zI ms) :: .int (zI mv) :: .ref 99 :: .ref 100 :: .ref 101 :: .ref 102 :: .ref 103 :: .ref 104 :: .ref 105 :: .int (zI mt) :: .int (zI mfa) :: .ref 106 :: .ref 107 :: .ref 108 :: .int (zI mtn) :: .int (zI mtk) :: .int (zI mlv) :: .int (zI mbd) :: .int (zI go_6) :: .int (zI mge) :: .int (zI bk_6) :: .ref 109 :: .int (zI mtt) :: .int (zI mtl) :: .ref 110 :: .ref 111 :: .ref 112 :: .ref 113 :: .ref 114 :: .ref 115 :: .ref 116 :: .ref 117 :: .int (zI hm) :: .int (zI pm) :: .int (zI hb) :: .int (zI sb) :: .ref 118 :: .ref 119 :: .ref 120 :: .ref 121 :: .ref 122 :: .ref 123 :: .ref 124 :: .ref 125 :: .ref 126 :: .ref 127 :: .ref 128 :: .ref 129 :: .int (zI mfu) :: .ref 130 :: .ref 131 :: .ref 132 :: .ref 133 :: .ref 134 :: .int (zI mdm) :: .int (zI mla) :: [])))]) rfl ?_
          refine J_mask (L2 := [(98, .inr (12, (.int (zI ms) :: .int (zI mv) :: .ref 99 :: .ref 100 :: .ref 101 :: .ref 102 :: .ref 103 :: .ref 104 :: .ref 105 :: .int (zI mt) :: .int (zI mfa) :: .ref 106 :: .ref 107 :: .ref 108 :: .int (zI mtn) :: .int (zI mtk) :: .int (zI mlv) :: .int (zI mbd) :: .int (zI z56) :: .int (zI mge) :: .int (zI z57) :: .ref 109 :: .int (zI mtt) :: .int (zI mtl) :: .ref 110 :: .ref 111 :: .ref 112 :: .ref 113 :: .ref 114 :: .ref 115 :: .ref 116 :: .ref 117 :: .int (zI hm) :: .int (zI pm) :: .int (zI hb) :: .int (zI sb) :: .ref 118 :: .ref 119 :: .ref 120 :: .ref 121 :: .ref 122 :: .ref 123 :: .ref 124 :: .ref 125 :: .ref 126 :: .ref 127 :: .ref 128 :: .ref 129 :: .int (zI mfu) :: .ref 130 :: .ref 131 :: .ref 132 :: .ref 133 :: .ref 134 :: .int (zI mdm) :: .int (zI mla) :: [])))]) (ks := [98, 98, 98]) [true, false, false] rfl (by decide +kernel) rfl ?_
          refine J_lstore dX12_termOf_76 (Nat.le_of_ble_eq_true rfl) rfl ?_
          refine J_ls (ls2 := [some (.ref 98), some (.int (zI lv)), some (.long (zL v_6)), none, some (.int (zI 0)), some (.long (zL z55)), none]) rfl ?_
          refine J_iload dX12_termOf_78 rfl ?_
          refine Z_if_ne (tgt := 113) dX12_termOf_80 (by decide) v_b17331891f (fun h64 => absurd h64 (fun q => q v_2ca2bbca1f)) (fun h64 => ?_)
          refine J_lload dX12_termOf_83 rfl ?_
          refine J_lconst (v := zL 0) dX12_termOf_85 (by decide +kernel) ?_
          refine Y_lcmp dX12_termOf_86 (v_ce139c3fca h61 h62) v_648c9410ae (fun z65 z65a z65b z65c z65d => ?_)
          refine Z_if_ne (tgt := 113) dX12_termOf_87 (by decide) (v_51ccf7ebfa z65a z65b) (fun h66 => ?_) (fun h66 => ?_)
          · have h67 : ¬ z55 = 0 := by omega
            refine J_aload_n dX12_termOf_113 rfl rfl ?_
            refine J_iload dX12_termOf_114 rfl ?_
            refine Z_if_eq (tgt := 126) dX12_termOf_116 (by decide) v_b17331891f (fun h68 => ?_) (fun h68 => absurd h68 (fun q => q v_2ca2bbca1f))
            refine J_lload_n dX12_termOf_126 rfl rfl ?_
            refine J_lload dX12_termOf_127 rfl ?_
            obtain ⟨z69, ez69⟩ : ∃ z : Int, Int.tdiv v_6 z55 = z := ⟨_, rfl⟩
            refine Y_ldivt dX12_termOf_129 (v_ba75b8fd0e i6_4) (v_17fa43f9b8 i6_5) (v_ce139c3fca h61 h62) (v_7502709ab7 h67) ez69 ?_
            have h70 := tdiv_bd ez69 (v_ba75b8fd0e i6_4) (v_17fa43f9b8 i6_5)
            have gz : lv = 0 → z69 = 0 := fun q => by rw [← ez69, (gm1v.2.1 q).1, Int.zero_tdiv]
            refine J_iload_n dX12_termOf_130 rfl rfl ?_
            refine J_callV (st := []) dX12_termOf_131 cv_X12_258 (k_bounded z69 lv ms mv mt mfa mtn mtk mlv mbd z56 mge z57 mtt mtl hm pm hb sb mfu mdm mla (v_ce139c3fca h70.1 h70.2) q5 q6 h59 h60 gz rfl) rfl rfl rfl (Nat.le_of_ble_eq_true rfl) ⟨(by show (0 : Nat) + 1 ≤ 3 + 3 * k; omega), (by show 8 + (4 + 11) + (0) ≤ 66 + 75 * k; omega)⟩ ⟨(Nat.le_of_ble_eq_true rfl), (Nat.le_of_ble_eq_true rfl)⟩ (fun r h9 hp => ?_)
            obtain ⟨z71, z72, rfl, rfl, h73, h74, h75, h76, h77⟩ := hp
            refine J_nf (nh2 := nh) (ck2 := 0) (sk2 := 0) (st2 := [.long (zL z71)]) rfl rfl rfl rfl ?_
            refine J_app (L3 := [(98, .inr (12, (.int (zI ms) :: .int (zI mv) :: .ref 99 :: .ref 100 :: .ref 101 :: .ref 102 :: .ref 103 :: .ref 104 :: .ref 105 :: .int (zI mt) :: .int (zI mfa) :: .ref 106 :: .ref 107 :: .ref 108 :: .int (zI mtn) :: .int (zI mtk) :: .int (zI mlv) :: .int (zI mbd) :: .int (zI z56) :: .int (zI mge) :: .int (zI z72) :: .ref 109 :: .int (zI mtt) :: .int (zI mtl) :: .ref 110 :: .ref 111 :: .ref 112 :: .ref 113 :: .ref 114 :: .ref 115 :: .ref 116 :: .ref 117 :: .int (zI hm) :: .int (zI pm) :: .int (zI hb) :: .int (zI sb) :: .ref 118 :: .ref 119 :: .ref 120 :: .ref 121 :: .ref 122 :: .ref 123 :: .ref 124 :: .ref 125 :: .ref 126 :: .ref 127 :: .ref 128 :: .ref 129 :: .int (zI mfu) :: .ref 130 :: .ref 131 :: .ref 132 :: .ref 133 :: .ref 134 :: .int (zI mdm) :: .int (zI mla) :: []))), (98, .inr (12, (.int (zI ms) :: .int (zI mv) :: .ref 99 :: .ref 100 :: .ref 101 :: .ref 102 :: .ref 103 :: .ref 104 :: .ref 105 :: .int (zI mt) :: .int (zI mfa) :: .ref 106 :: .ref 107 :: .ref 108 :: .int (zI mtn) :: .int (zI mtk) :: .int (zI mlv) :: .int (zI mbd) :: .int (zI z56) :: .int (zI mge) :: .int (zI z57) :: .ref 109 :: .int (zI mtt) :: .int (zI mtl) :: .ref 110 :: .ref 111 :: .ref 112 :: .ref 113 :: .ref 114 :: .ref 115 :: .ref 116 :: .ref 117 :: .int (zI hm) :: .int (zI pm) :: .int (zI hb) :: .int (zI sb) :: .ref 118 :: .ref 119 :: .ref 120 :: .ref 121 :: .ref 122 :: .ref 123 :: .ref 124 :: .ref 125 :: .ref 126 :: .ref 127 :: .ref 128 :: .ref 129 :: .int (zI mfu) :: .ref 130 :: .ref 131 :: .ref 132 :: .ref 133 :: .ref 134 :: .int (zI mdm) :: .int (zI mla) :: [])))]) rfl ?_
            refine J_mask (L2 := [(98, .inr (12, (.int (zI ms) :: .int (zI mv) :: .ref 99 :: .ref 100 :: .ref 101 :: .ref 102 :: .ref 103 :: .ref 104 :: .ref 105 :: .int (zI mt) :: .int (zI mfa) :: .ref 106 :: .ref 107 :: .ref 108 :: .int (zI mtn) :: .int (zI mtk) :: .int (zI mlv) :: .int (zI mbd) :: .int (zI z56) :: .int (zI mge) :: .int (zI z72) :: .ref 109 :: .int (zI mtt) :: .int (zI mtl) :: .ref 110 :: .ref 111 :: .ref 112 :: .ref 113 :: .ref 114 :: .ref 115 :: .ref 116 :: .ref 117 :: .int (zI hm) :: .int (zI pm) :: .int (zI hb) :: .int (zI sb) :: .ref 118 :: .ref 119 :: .ref 120 :: .ref 121 :: .ref 122 :: .ref 123 :: .ref 124 :: .ref 125 :: .ref 126 :: .ref 127 :: .ref 128 :: .ref 129 :: .int (zI mfu) :: .ref 130 :: .ref 131 :: .ref 132 :: .ref 133 :: .ref 134 :: .int (zI mdm) :: .int (zI mla) :: [])))]) (ks := [98, 98]) [true, false] rfl (by decide +kernel) rfl ?_
            refine J_lstore_n dX12_termOf_134 rfl (Nat.le_of_ble_eq_true rfl) rfl ?_
            refine J_ls (ls2 := [some (.ref 98), some (.int (zI lv)), some (.long (zL z71)), none, some (.int (zI 0)), some (.long (zL z55)), none]) rfl ?_
            refine J_goto (tgt := 6) dX12_termOf_135 (by decide) ?_
            refine J_drop (ls2 := [some (.ref 98), some (.int (zI lv)), some (.long (zL z71)), none, none, none, none]) [true, true, true, false, false, false, false] rfl ?_
            exact ih6 z71 z56 z72 (v_ec671fffcf i6_0 gm1l h58) (v_402efff558 gm1e h58) h73 h74 h75 h76 (by have u : z56 = m1 := (v_cd91a95e4e h58); rw [u]; exact gm1t _ _ (EvS.div (h50.trans (v_ea184dcf99 h43 h46 h47 h50)) (zo_of (v_2b02420001 q5) (v_6b0b292328 q6)) (zo_of (v_2b02420001 h59) (v_6b0b292328 h60)) gm1v h63 (v_7502709ab7 h67) ez69 h77)) (meas_lt (v_ccbf9b7651 gm1l h58) (v_293abdd145 gm1l gm1e) hm6)
          · have h78 : z55 = 0 := by omega
            refine J_aload_n dX12_termOf_90 rfl rfl ?_
            refine J_aload_n dX12_termOf_91 rfl rfl ?_
            refine J_get (v := .int (zI z57)) dX12_termOf_92 fl_X12_250 rfl rfl ?_
            refine Z_if_ne (tgt := 102) dX12_termOf_95 (by decide) (v_5f10a759cd h59 h60) (fun h79 => ?_) (fun h79 => ?_)
            · refine Z_iconst (n := 1) dX12_termOf_102 ?_
              refine J_goto (tgt := 107) dX12_termOf_103 (by decide) ?_
              refine K_put (fs2 := (.int (zI ms) :: .int (zI mv) :: .ref 99 :: .ref 100 :: .ref 101 :: .ref 102 :: .ref 103 :: .ref 104 :: .ref 105 :: .int (zI mt) :: .int (zI mfa) :: .ref 106 :: .ref 107 :: .ref 108 :: .int (zI mtn) :: .int (zI mtk) :: .int (zI mlv) :: .int (zI mbd) :: .int (zI z56) :: .int (zI mge) :: .int (zI 1) :: .ref 109 :: .int (zI mtt) :: .int (zI mtl) :: .ref 110 :: .ref 111 :: .ref 112 :: .ref 113 :: .ref 114 :: .ref 115 :: .ref 116 :: .ref 117 :: .int (zI hm) :: .int (zI pm) :: .int (zI hb) :: .int (zI sb) :: .ref 118 :: .ref 119 :: .ref 120 :: .ref 121 :: .ref 122 :: .ref 123 :: .ref 124 :: .ref 125 :: .ref 126 :: .ref 127 :: .ref 128 :: .ref 129 :: .int (zI mfu) :: .ref 130 :: .ref 131 :: .ref 132 :: .ref 133 :: .ref 134 :: .int (zI mdm) :: .int (zI mla) :: [])) dX12_termOf_107 fw_X12_250 rfl (Nat.le_of_ble_eq_true rfl) (jbz v_316afd7d0b v_bbcfac9b7d) rfl ?_
              refine J_lconst (v := zL 1) dX12_termOf_110 (by decide +kernel) ?_
              refine J_lstore dX12_termOf_111 (Nat.le_of_ble_eq_true rfl) rfl ?_
              refine J_ls (ls2 := [some (.ref 98), some (.int (zI lv)), some (.long (zL v_6)), none, some (.int (zI 0)), some (.long (zL 1)), none]) rfl ?_
              refine J_aload_n dX12_termOf_113 rfl rfl ?_
              refine J_iload dX12_termOf_114 rfl ?_
              refine Z_if_eq (tgt := 126) dX12_termOf_116 (by decide) v_b17331891f (fun h80 => ?_) (fun h80 => absurd h80 (fun q => q v_2ca2bbca1f))
              refine J_lload_n dX12_termOf_126 rfl rfl ?_
              refine J_lload dX12_termOf_127 rfl ?_
              obtain ⟨z81, ez81⟩ : ∃ z : Int, Int.tdiv v_6 1 = z := ⟨_, rfl⟩
              refine Y_ldivt dX12_termOf_129 (v_ba75b8fd0e i6_4) (v_17fa43f9b8 i6_5) v_c87c4d349e v_3a47bfd896 ez81 ?_
              have h82 := tdiv_bd ez81 (v_ba75b8fd0e i6_4) (v_17fa43f9b8 i6_5)
              have gz : lv = 0 → z81 = 0 := fun q => by rw [← ez81, (gm1v.2.1 q).1, Int.zero_tdiv]
              refine J_iload_n dX12_termOf_130 rfl rfl ?_
              refine J_callV (st := []) dX12_termOf_131 cv_X12_258 (k_bounded z81 lv ms mv mt mfa mtn mtk mlv mbd z56 mge 1 mtt mtl hm pm hb sb mfu mdm mla (v_ce139c3fca h82.1 h82.2) q5 q6 v_316afd7d0b v_bbcfac9b7d gz rfl) rfl rfl rfl (Nat.le_of_ble_eq_true rfl) ⟨(by show (0 : Nat) + 1 ≤ 3 + 3 * k; omega), (by show 8 + (4 + 11) + (0) ≤ 66 + 75 * k; omega)⟩ ⟨(Nat.le_of_ble_eq_true rfl), (Nat.le_of_ble_eq_true rfl)⟩ (fun r h9 hp => ?_)
              obtain ⟨z83, z84, rfl, rfl, h85, h86, h87, h88, h89⟩ := hp
              refine J_nf (nh2 := nh) (ck2 := 0) (sk2 := 0) (st2 := [.long (zL z83)]) rfl rfl rfl rfl ?_
              refine J_app (L3 := [(98, .inr (12, (.int (zI ms) :: .int (zI mv) :: .ref 99 :: .ref 100 :: .ref 101 :: .ref 102 :: .ref 103 :: .ref 104 :: .ref 105 :: .int (zI mt) :: .int (zI mfa) :: .ref 106 :: .ref 107 :: .ref 108 :: .int (zI mtn) :: .int (zI mtk) :: .int (zI mlv) :: .int (zI mbd) :: .int (zI z56) :: .int (zI mge) :: .int (zI z84) :: .ref 109 :: .int (zI mtt) :: .int (zI mtl) :: .ref 110 :: .ref 111 :: .ref 112 :: .ref 113 :: .ref 114 :: .ref 115 :: .ref 116 :: .ref 117 :: .int (zI hm) :: .int (zI pm) :: .int (zI hb) :: .int (zI sb) :: .ref 118 :: .ref 119 :: .ref 120 :: .ref 121 :: .ref 122 :: .ref 123 :: .ref 124 :: .ref 125 :: .ref 126 :: .ref 127 :: .ref 128 :: .ref 129 :: .int (zI mfu) :: .ref 130 :: .ref 131 :: .ref 132 :: .ref 133 :: .ref 134 :: .int (zI mdm) :: .int (zI mla) :: []))), (98, .inr (12, (.int (zI ms) :: .int (zI mv) :: .ref 99 :: .ref 100 :: .ref 101 :: .ref 102 :: .ref 103 :: .ref 104 :: .ref 105 :: .int (zI mt) :: .int (zI mfa) :: .ref 106 :: .ref 107 :: .ref 108 :: .int (zI mtn) :: .int (zI mtk) :: .int (zI mlv) :: .int (zI mbd) :: .int (zI z56) :: .int (zI mge) :: .int (zI 1) :: .ref 109 :: .int (zI mtt) :: .int (zI mtl) :: .ref 110 :: .ref 111 :: .ref 112 :: .ref 113 :: .ref 114 :: .ref 115 :: .ref 116 :: .ref 117 :: .int (zI hm) :: .int (zI pm) :: .int (zI hb) :: .int (zI sb) :: .ref 118 :: .ref 119 :: .ref 120 :: .ref 121 :: .ref 122 :: .ref 123 :: .ref 124 :: .ref 125 :: .ref 126 :: .ref 127 :: .ref 128 :: .ref 129 :: .int (zI mfu) :: .ref 130 :: .ref 131 :: .ref 132 :: .ref 133 :: .ref 134 :: .int (zI mdm) :: .int (zI mla) :: []))), (98, .inr (12, (.int (zI ms) :: .int (zI mv) :: .ref 99 :: .ref 100 :: .ref 101 :: .ref 102 :: .ref 103 :: .ref 104 :: .ref 105 :: .int (zI mt) :: .int (zI mfa) :: .ref 106 :: .ref 107 :: .ref 108 :: .int (zI mtn) :: .int (zI mtk) :: .int (zI mlv) :: .int (zI mbd) :: .int (zI z56) :: .int (zI mge) :: .int (zI z57) :: .ref 109 :: .int (zI mtt) :: .int (zI mtl) :: .ref 110 :: .ref 111 :: .ref 112 :: .ref 113 :: .ref 114 :: .ref 115 :: .ref 116 :: .ref 117 :: .int (zI hm) :: .int (zI pm) :: .int (zI hb) :: .int (zI sb) :: .ref 118 :: .ref 119 :: .ref 120 :: .ref 121 :: .ref 122 :: .ref 123 :: .ref 124 :: .ref 125 :: .ref 126 :: .ref 127 :: .ref 128 :: .ref 129 :: .int (zI mfu) :: .ref 130 :: .ref 131 :: .ref 132 :: .ref 133 :: .ref 134 :: .int (zI mdm) :: .int (zI mla) :: [])))]) rfl ?_
              refine J_mask (L2 := [(98, .inr (12, (.int (zI ms) :: .int (zI mv) :: .ref 99 :: .ref 100 :: .ref 101 :: .ref 102 :: .ref 103 :: .ref 104 :: .ref 105 :: .int (zI mt) :: .int (zI mfa) :: .ref 106 :: .ref 107 :: .ref 108 :: .int (zI mtn) :: .int (zI mtk) :: .int (zI mlv) :: .int (zI mbd) :: .int (zI z56) :: .int (zI mge) :: .int (zI z84) :: .ref 109 :: .int (zI mtt) :: .int (zI mtl) :: .ref 110 :: .ref 111 :: .ref 112 :: .ref 113 :: .ref 114 :: .ref 115 :: .ref 116 :: .ref 117 :: .int (zI hm) :: .int (zI pm) :: .int (zI hb) :: .int (zI sb) :: .ref 118 :: .ref 119 :: .ref 120 :: .ref 121 :: .ref 122 :: .ref 123 :: .ref 124 :: .ref 125 :: .ref 126 :: .ref 127 :: .ref 128 :: .ref 129 :: .int (zI mfu) :: .ref 130 :: .ref 131 :: .ref 132 :: .ref 133 :: .ref 134 :: .int (zI mdm) :: .int (zI mla) :: [])))]) (ks := [98, 98, 98]) [true, false, false] rfl (by decide +kernel) rfl ?_
              refine J_lstore_n dX12_termOf_134 rfl (Nat.le_of_ble_eq_true rfl) rfl ?_
              refine J_ls (ls2 := [some (.ref 98), some (.int (zI lv)), some (.long (zL z83)), none, some (.int (zI 0)), some (.long (zL 1)), none]) rfl ?_
              refine J_goto (tgt := 6) dX12_termOf_135 (by decide) ?_
              refine J_drop (ls2 := [some (.ref 98), some (.int (zI lv)), some (.long (zL z83)), none, none, none, none]) [true, true, true, false, false, false, false] rfl ?_
              exact ih6 z83 z56 z84 (v_ec671fffcf i6_0 gm1l h58) (v_402efff558 gm1e h58) h85 h86 h87 h88 (by have u : z56 = m1 := (v_cd91a95e4e h58); rw [u]; exact gm1t _ _ (EvS.div0 (h50.trans (v_ea184dcf99 h43 h46 h47 h50)) (zo_of (v_2b02420001 q5) (v_6b0b292328 q6)) (zo_of (v_2b02420001 h59) (v_6b0b292328 h60)) gm1v h63 (v_2b2aa55e09 h78) (ez81.symm.trans (Int.tdiv_one _)) (by omega) h89)) (meas_lt (v_ccbf9b7651 gm1l h58) (v_293abdd145 gm1l gm1e) hm6)
            · refine J_iload_n dX12_termOf_98 rfl rfl ?_
              refine Z_if_eq (tgt := 106) dX12_termOf_99 (by decide) (v_5f10a759cd q5 q6) (fun h90 => ?_) (fun h90 => ?_)
              · refine Z_iconst (n := 0) dX12_termOf_106 ?_
                refine K_put (fs2 := (.int (zI ms) :: .int (zI mv) :: .ref 99 :: .ref 100 :: .ref 101 :: .ref 102 :: .ref 103 :: .ref 104 :: .ref 105 :: .int (zI mt) :: .int (zI mfa) :: .ref 106 :: .ref 107 :: .ref 108 :: .int (zI mtn) :: .int (zI mtk) :: .int (zI mlv) :: .int (zI mbd) :: .int (zI z56) :: .int (zI mge) :: .int (zI 0) :: .ref 109 :: .int (zI mtt) :: .int (zI mtl) :: .ref 110 :: .ref 111 :: .ref 112 :: .ref 113 :: .ref 114 :: .ref 115 :: .ref 116 :: .ref 117 :: .int (zI hm) :: .int (zI pm) :: .int (zI hb) :: .int (zI sb) :: .ref 118 :: .ref 119 :: .ref 120 :: .ref 121 :: .ref 122 :: .ref 123 :: .ref 124 :: .ref 125 :: .ref 126 :: .ref 127 :: .ref 128 :: .ref 129 :: .int (zI mfu) :: .ref 130 :: .ref 131 :: .ref 132 :: .ref 133 :: .ref 134 :: .int (zI mdm) :: .int (zI mla) :: [])) dX12_termOf_107 fw_X12_250 rfl (Nat.le_of_ble_eq_true rfl) (jbz v_939070ca3f v_316afd7d0b) rfl ?_
                refine J_lconst (v := zL 1) dX12_termOf_110 (by decide +kernel) ?_
                refine J_lstore dX12_termOf_111 (Nat.le_of_ble_eq_true rfl) rfl ?_
                refine J_ls (ls2 := [some (.ref 98), some (.int (zI lv)), some (.long (zL v_6)), none, some (.int (zI 0)), some (.long (zL 1)), none]) rfl ?_
                refine J_aload_n dX12_termOf_113 rfl rfl ?_
                refine J_iload dX12_termOf_114 rfl ?_
                refine Z_if_eq (tgt := 126) dX12_termOf_116 (by decide) v_b17331891f (fun h91 => ?_) (fun h91 => absurd h91 (fun q => q v_2ca2bbca1f))
                refine J_lload_n dX12_termOf_126 rfl rfl ?_
                refine J_lload dX12_termOf_127 rfl ?_
                obtain ⟨z92, ez92⟩ : ∃ z : Int, Int.tdiv v_6 1 = z := ⟨_, rfl⟩
                refine Y_ldivt dX12_termOf_129 (v_ba75b8fd0e i6_4) (v_17fa43f9b8 i6_5) v_c87c4d349e v_3a47bfd896 ez92 ?_
                have h93 := tdiv_bd ez92 (v_ba75b8fd0e i6_4) (v_17fa43f9b8 i6_5)
                have gz : lv = 0 → z92 = 0 := fun q => by rw [← ez92, (gm1v.2.1 q).1, Int.zero_tdiv]
                refine J_iload_n dX12_termOf_130 rfl rfl ?_
                refine J_callV (st := []) dX12_termOf_131 cv_X12_258 (k_bounded z92 lv ms mv mt mfa mtn mtk mlv mbd z56 mge 0 mtt mtl hm pm hb sb mfu mdm mla (v_ce139c3fca h93.1 h93.2) q5 q6 v_939070ca3f v_316afd7d0b gz rfl) rfl rfl rfl (Nat.le_of_ble_eq_true rfl) ⟨(by show (0 : Nat) + 1 ≤ 3 + 3 * k; omega), (by show 8 + (4 + 11) + (0) ≤ 66 + 75 * k; omega)⟩ ⟨(Nat.le_of_ble_eq_true rfl), (Nat.le_of_ble_eq_true rfl)⟩ (fun r h9 hp => ?_)
                obtain ⟨z94, z95, rfl, rfl, h96, h97, h98, h99, h100⟩ := hp
                refine J_nf (nh2 := nh) (ck2 := 0) (sk2 := 0) (st2 := [.long (zL z94)]) rfl rfl rfl rfl ?_
                refine J_app (L3 := [(98, .inr (12, (.int (zI ms) :: .int (zI mv) :: .ref 99 :: .ref 100 :: .ref 101 :: .ref 102 :: .ref 103 :: .ref 104 :: .ref 105 :: .int (zI mt) :: .int (zI mfa) :: .ref 106 :: .ref 107 :: .ref 108 :: .int (zI mtn) :: .int (zI mtk) :: .int (zI mlv) :: .int (zI mbd) :: .int (zI z56) :: .int (zI mge) :: .int (zI z95) :: .ref 109 :: .int (zI mtt) :: .int (zI mtl) :: .ref 110 :: .ref 111 :: .ref 112 :: .ref 113 :: .ref 114 :: .ref 115 :: .ref 116 :: .ref 117 :: .int (zI hm) :: .int (zI pm) :: .int (zI hb) :: .int (zI sb) :: .ref 118 :: .ref 119 :: .ref 120 :: .ref 121 :: .ref 122 :: .ref 123 :: .ref 124 :: .ref 125 :: .ref 126 :: .ref 127 :: .ref 128 :: .ref 129 :: .int (zI mfu) :: .ref 130 :: .ref 131 :: .ref 132 :: .ref 133 :: .ref 134 :: .int (zI mdm) :: .int (zI mla) :: []))), (98, .inr (12, (.int (zI ms) :: .int (zI mv) :: .ref 99 :: .ref 100 :: .ref 101 :: .ref 102 :: .ref 103 :: .ref 104 :: .ref 105 :: .int (zI mt) :: .int (zI mfa) :: .ref 106 :: .ref 107 :: .ref 108 :: .int (zI mtn) :: .int (zI mtk) :: .int (zI mlv) :: .int (zI mbd) :: .int (zI z56) :: .int (zI mge) :: .int (zI 0) :: .ref 109 :: .int (zI mtt) :: .int (zI mtl) :: .ref 110 :: .ref 111 :: .ref 112 :: .ref 113 :: .ref 114 :: .ref 115 :: .ref 116 :: .ref 117 :: .int (zI hm) :: .int (zI pm) :: .int (zI hb) :: .int (zI sb) :: .ref 118 :: .ref 119 :: .ref 120 :: .ref 121 :: .ref 122 :: .ref 123 :: .ref 124 :: .ref 125 :: .ref 126 :: .ref 127 :: .ref 128 :: .ref 129 :: .int (zI mfu) :: .ref 130 :: .ref 131 :: .ref 132 :: .ref 133 :: .ref 134 :: .int (zI mdm) :: .int (zI mla) :: []))), (98, .inr (12, (.int (zI ms) :: .int (zI mv) :: .ref 99 :: .ref 100 :: .ref 101 :: .ref 102 :: .ref 103 :: .ref 104 :: .ref 105 :: .int (zI mt) :: .int (zI mfa) :: .ref 106 :: .ref 107 :: .ref 108 :: .int (zI mtn) :: .int (zI mtk) :: .int (zI mlv) :: .int (zI mbd) :: .int (zI z56) :: .int (zI mge) :: .int (zI z57) :: .ref 109 :: .int (zI mtt) :: .int (zI mtl) :: .ref 110 :: .ref 111 :: .ref 112 :: .ref 113 :: .ref 114 :: .ref 115 :: .ref 116 :: .ref 117 :: .int (zI hm) :: .int (zI pm) :: .int (zI hb) :: .int (zI sb) :: .ref 118 :: .ref 119 :: .ref 120 :: .ref 121 :: .ref 122 :: .ref 123 :: .ref 124 :: .ref 125 :: .ref 126 :: .ref 127 :: .ref 128 :: .ref 129 :: .int (zI mfu) :: .ref 130 :: .ref 131 :: .ref 132 :: .ref 133 :: .ref 134 :: .int (zI mdm) :: .int (zI mla) :: [])))]) rfl ?_
                refine J_mask (L2 := [(98, .inr (12, (.int (zI ms) :: .int (zI mv) :: .ref 99 :: .ref 100 :: .ref 101 :: .ref 102 :: .ref 103 :: .ref 104 :: .ref 105 :: .int (zI mt) :: .int (zI mfa) :: .ref 106 :: .ref 107 :: .ref 108 :: .int (zI mtn) :: .int (zI mtk) :: .int (zI mlv) :: .int (zI mbd) :: .int (zI z56) :: .int (zI mge) :: .int (zI z95) :: .ref 109 :: .int (zI mtt) :: .int (zI mtl) :: .ref 110 :: .ref 111 :: .ref 112 :: .ref 113 :: .ref 114 :: .ref 115 :: .ref 116 :: .ref 117 :: .int (zI hm) :: .int (zI pm) :: .int (zI hb) :: .int (zI sb) :: .ref 118 :: .ref 119 :: .ref 120 :: .ref 121 :: .ref 122 :: .ref 123 :: .ref 124 :: .ref 125 :: .ref 126 :: .ref 127 :: .ref 128 :: .ref 129 :: .int (zI mfu) :: .ref 130 :: .ref 131 :: .ref 132 :: .ref 133 :: .ref 134 :: .int (zI mdm) :: .int (zI mla) :: [])))]) (ks := [98, 98, 98]) [true, false, false] rfl (by decide +kernel) rfl ?_
                refine J_lstore_n dX12_termOf_134 rfl (Nat.le_of_ble_eq_true rfl) rfl ?_
                refine J_ls (ls2 := [some (.ref 98), some (.int (zI lv)), some (.long (zL z94)), none, some (.int (zI 0)), some (.long (zL 1)), none]) rfl ?_
                refine J_goto (tgt := 6) dX12_termOf_135 (by decide) ?_
                refine J_drop (ls2 := [some (.ref 98), some (.int (zI lv)), some (.long (zL z94)), none, none, none, none]) [true, true, true, false, false, false, false] rfl ?_
                exact ih6 z94 z56 z95 (v_ec671fffcf i6_0 gm1l h58) (v_402efff558 gm1e h58) h96 h97 h98 h99 (by have u : z56 = m1 := (v_cd91a95e4e h58); rw [u]; exact gm1t _ _ (EvS.div0 (h50.trans (v_ea184dcf99 h43 h46 h47 h50)) (zo_of (v_2b02420001 q5) (v_e327774f82 h90)) (zo_of (v_2b02420001 h59) (v_e327774f82 h79)) gm1v h63 (v_2b2aa55e09 h78) (ez92.symm.trans (Int.tdiv_one _)) (by omega) h100)) (meas_lt (v_ccbf9b7651 gm1l h58) (v_293abdd145 gm1l gm1e) hm6)
              · refine Z_iconst (n := 1) dX12_termOf_102 ?_
                refine J_goto (tgt := 107) dX12_termOf_103 (by decide) ?_
                refine K_put (fs2 := (.int (zI ms) :: .int (zI mv) :: .ref 99 :: .ref 100 :: .ref 101 :: .ref 102 :: .ref 103 :: .ref 104 :: .ref 105 :: .int (zI mt) :: .int (zI mfa) :: .ref 106 :: .ref 107 :: .ref 108 :: .int (zI mtn) :: .int (zI mtk) :: .int (zI mlv) :: .int (zI mbd) :: .int (zI z56) :: .int (zI mge) :: .int (zI 1) :: .ref 109 :: .int (zI mtt) :: .int (zI mtl) :: .ref 110 :: .ref 111 :: .ref 112 :: .ref 113 :: .ref 114 :: .ref 115 :: .ref 116 :: .ref 117 :: .int (zI hm) :: .int (zI pm) :: .int (zI hb) :: .int (zI sb) :: .ref 118 :: .ref 119 :: .ref 120 :: .ref 121 :: .ref 122 :: .ref 123 :: .ref 124 :: .ref 125 :: .ref 126 :: .ref 127 :: .ref 128 :: .ref 129 :: .int (zI mfu) :: .ref 130 :: .ref 131 :: .ref 132 :: .ref 133 :: .ref 134 :: .int (zI mdm) :: .int (zI mla) :: [])) dX12_termOf_107 fw_X12_250 rfl (Nat.le_of_ble_eq_true rfl) (jbz v_316afd7d0b v_bbcfac9b7d) rfl ?_
                refine J_lconst (v := zL 1) dX12_termOf_110 (by decide +kernel) ?_
                refine J_lstore dX12_termOf_111 (Nat.le_of_ble_eq_true rfl) rfl ?_
                refine J_ls (ls2 := [some (.ref 98), some (.int (zI lv)), some (.long (zL v_6)), none, some (.int (zI 0)), some (.long (zL 1)), none]) rfl ?_
                refine J_aload_n dX12_termOf_113 rfl rfl ?_
                refine J_iload dX12_termOf_114 rfl ?_
                refine Z_if_eq (tgt := 126) dX12_termOf_116 (by decide) v_b17331891f (fun h101 => ?_) (fun h101 => absurd h101 (fun q => q v_2ca2bbca1f))
                refine J_lload_n dX12_termOf_126 rfl rfl ?_
                refine J_lload dX12_termOf_127 rfl ?_
                obtain ⟨z102, ez102⟩ : ∃ z : Int, Int.tdiv v_6 1 = z := ⟨_, rfl⟩
                refine Y_ldivt dX12_termOf_129 (v_ba75b8fd0e i6_4) (v_17fa43f9b8 i6_5) v_c87c4d349e v_3a47bfd896 ez102 ?_
                have h103 := tdiv_bd ez102 (v_ba75b8fd0e i6_4) (v_17fa43f9b8 i6_5)
                have gz : lv = 0 → z102 = 0 := fun q => by rw [← ez102, (gm1v.2.1 q).1, Int.zero_tdiv]
                refine J_iload_n dX12_termOf_130 rfl rfl ?_
                refine J_callV (st := []) dX12_termOf_131 cv_X12_258 (k_bounded z102 lv ms mv mt mfa mtn mtk mlv mbd z56 mge 1 mtt mtl hm pm hb sb mfu mdm mla (v_ce139c3fca h103.1 h103.2) q5 q6 v_316afd7d0b v_bbcfac9b7d gz rfl) rfl rfl rfl (Nat.le_of_ble_eq_true rfl) ⟨(by show (0 : Nat) + 1 ≤ 3 + 3 * k; omega), (by show 8 + (4 + 11) + (0) ≤ 66 + 75 * k; omega)⟩ ⟨(Nat.le_of_ble_eq_true rfl), (Nat.le_of_ble_eq_true rfl)⟩ (fun r h9 hp => ?_)
                obtain ⟨z104, z105, rfl, rfl, h106, h107, h108, h109, h110⟩ := hp
                refine J_nf (nh2 := nh) (ck2 := 0) (sk2 := 0) (st2 := [.long (zL z104)]) rfl rfl rfl rfl ?_
                refine J_app (L3 := [(98, .inr (12, (.int (zI ms) :: .int (zI mv) :: .ref 99 :: .ref 100 :: .ref 101 :: .ref 102 :: .ref 103 :: .ref 104 :: .ref 105 :: .int (zI mt) :: .int (zI mfa) :: .ref 106 :: .ref 107 :: .ref 108 :: .int (zI mtn) :: .int (zI mtk) :: .int (zI mlv) :: .int (zI mbd) :: .int (zI z56) :: .int (zI mge) :: .int (zI z105) :: .ref 109 :: .int (zI mtt) :: .int (zI mtl) :: .ref 110 :: .ref 111 :: .ref 112 :: .ref 113 :: .ref 114 :: .ref 115 :: .ref 116 :: .ref 117 :: .int (zI hm) :: .int (zI pm) :: .int (zI hb) :: .int (zI sb) :: .ref 118 :: .ref 119 :: .ref 120 :: .ref 121 :: .ref 122 :: .ref 123 :: .ref 124 :: .ref 125 :: .ref 126 :: .ref 127 :: .ref 128 :: .ref 129 :: .int (zI mfu) :: .ref 130 :: .ref 131 :: .ref 132 :: .ref 133 :: .ref 134 :: .int (zI mdm) :: .int (zI mla) :: []))), (98, .inr (12, (.int (zI ms) :: .int (zI mv) :: .ref 99 :: .ref 100 :: .ref 101 :: .ref 102 :: .ref 103 :: .ref 104 :: .ref 105 :: .int (zI mt) :: .int (zI mfa) :: .ref 106 :: .ref 107 :: .ref 108 :: .int (zI mtn) :: .int (zI mtk) :: .int (zI mlv) :: .int (zI mbd) :: .int (zI z56) :: .int (zI mge) :: .int (zI 1) :: .ref 109 :: .int (zI mtt) :: .int (zI mtl) :: .ref 110 :: .ref 111 :: .ref 112 :: .ref 113 :: .ref 114 :: .ref 115 :: .ref 116 :: .ref 117 :: .int (zI hm) :: .int (zI pm) :: .int (zI hb) :: .int (zI sb) :: .ref 118 :: .ref 119 :: .ref 120 :: .ref 121 :: .ref 122 :: .ref 123 :: .ref 124 :: .ref 125 :: .ref 126 :: .ref 127 :: .ref 128 :: .ref 129 :: .int (zI mfu) :: .ref 130 :: .ref 131 :: .ref 132 :: .ref 133 :: .ref 134 :: .int (zI mdm) :: .int (zI mla) :: []))), (98, .inr (12, (.int (zI ms) :: .int (zI mv) :: .ref 99 :: .ref 100 :: .ref 101 :: .ref 102 :: .ref 103 :: .ref 104 :: .ref 105 :: .int (zI mt) :: .int (zI mfa) :: .ref 106 :: .ref 107 :: .ref 108 :: .int (zI mtn) :: .int (zI mtk) :: .int (zI mlv) :: .int (zI mbd) :: .int (zI z56) :: .int (zI mge) :: .int (zI z57) :: .ref 109 :: .int (zI mtt) :: .int (zI mtl) :: .ref 110 :: .ref 111 :: .ref 112 :: .ref 113 :: .ref 114 :: .ref 115 :: .ref 116 :: .ref 117 :: .int (zI hm) :: .int (zI pm) :: .int (zI hb) :: .int (zI sb) :: .ref 118 :: .ref 119 :: .ref 120 :: .ref 121 :: .ref 122 :: .ref 123 :: .ref 124 :: .ref 125 :: .ref 126 :: .ref 127 :: .ref 128 :: .ref 129 :: .int (zI mfu) :: .ref 130 :: .ref 131 :: .ref 132 :: .ref 133 :: .ref 134 :: .int (zI mdm) :: .int (zI mla) :: [])))]) rfl ?_
                refine J_mask (L2 := [(98, .inr (12, (.int (zI ms) :: .int (zI mv) :: .ref 99 :: .ref 100 :: .ref 101 :: .ref 102 :: .ref 103 :: .ref 104 :: .ref 105 :: .int (zI mt) :: .int (zI mfa) :: .ref 106 :: .ref 107 :: .ref 108 :: .int (zI mtn) :: .int (zI mtk) :: .int (zI mlv) :: .int (zI mbd) :: .int (zI z56) :: .int (zI mge) :: .int (zI z105) :: .ref 109 :: .int (zI mtt) :: .int (zI mtl) :: .ref 110 :: .ref 111 :: .ref 112 :: .ref 113 :: .ref 114 :: .ref 115 :: .ref 116 :: .ref 117 :: .int (zI hm) :: .int (zI pm) :: .int (zI hb) :: .int (zI sb) :: .ref 118 :: .ref 119 :: .ref 120 :: .ref 121 :: .ref 122 :: .ref 123 :: .ref 124 :: .ref 125 :: .ref 126 :: .ref 127 :: .ref 128 :: .ref 129 :: .int (zI mfu) :: .ref 130 :: .ref 131 :: .ref 132 :: .ref 133 :: .ref 134 :: .int (zI mdm) :: .int (zI mla) :: [])))]) (ks := [98, 98, 98]) [true, false, false] rfl (by decide +kernel) rfl ?_
                refine J_lstore_n dX12_termOf_134 rfl (Nat.le_of_ble_eq_true rfl) rfl ?_
                refine J_ls (ls2 := [some (.ref 98), some (.int (zI lv)), some (.long (zL z104)), none, some (.int (zI 0)), some (.long (zL 1)), none]) rfl ?_
                refine J_goto (tgt := 6) dX12_termOf_135 (by decide) ?_
                refine J_drop (ls2 := [some (.ref 98), some (.int (zI lv)), some (.long (zL z104)), none, none, none, none]) [true, true, true, false, false, false, false] rfl ?_
                exact ih6 z104 z56 z105 (v_ec671fffcf i6_0 gm1l h58) (v_402efff558 gm1e h58) h106 h107 h108 h109 (by have u : z56 = m1 := (v_cd91a95e4e h58); rw [u]; exact gm1t _ _ (EvS.div0 (h50.trans (v_ea184dcf99 h43 h46 h47 h50)) (zo_of (v_2b02420001 q5) (v_6b0b292328 q6)) (zo_of (v_2b02420001 h59) (v_e327774f82 h79)) gm1v h63 (v_2b2aa55e09 h78) (ez102.symm.trans (Int.tdiv_one _)) (by omega) h110)) (meas_lt (v_ccbf9b7651 gm1l h58) (v_293abdd145 gm1l gm1e) hm6)
  exact lp6 _ z1 z2 z3 (v_7f1b51b98a q3 gm0l h4) (v_402efff558 gm0e h4) h5 h6 h7 h8 (by have u : z2 = m0 := (v_cd91a95e4e h4); rw [u]; exact gm0t _ _ _ h9) (Nat.lt_succ_self _)
set_option maxHeartbeats 4000000 in
set_option maxRecDepth 100000 in
theorem k_sumOf_i {l : Launch} {G : jG} {nh : Nat} {fh : Nat → Option va_E} (k : Nat) (ih : ∀ j : Nat, k = j + 1 → Q_sumOf l G j) (lv : Int) (e : Int) (f : DV) (w8 : Int → Int) (ms : Int) (mv : Int) (mt : Int) (mfa : Int) (mtn : Int) (mtk : Int) (mlv : Int) (mbd : Int) (mgo : Int) (mge : Int) (mbk : Int) (mtt : Int) (mtl : Int) (hm : Int) (pm : Int) (hb : Int) (sb : Int) (mfu : Int) (mdm : Int) (mla : Int) (K : Int → Int) (aq : Int → Int) (q0 : SmD (Cd K mge) (Vd K) k mgo e f) (q1 : mgo < e) (q2 : e ≤ mge) (q3 : 0 ≤ mgo) (q4 : mge ≤ 2400) (q5 : 0 ≤ lv) (q6 : lv ≤ 1) (q7 : 0 ≤ mbk) (q8 : mbk ≤ 1) (q9 : Rg K 4870 (-2147483648) 2147483647) (q10 : Rg aq 8 (-2147483648) 2147483647) (q11 : EqN aq w8 8) (q12 : Rg w8 8 (-1000000000) 1000000000) (hk98 : fh 98 = some (.inr (12, (.int (zI ms) :: .int (zI mv) :: .ref 99 :: .ref 100 :: .ref 101 :: .ref 102 :: .ref 103 :: .ref 104 :: .ref 105 :: .int (zI mt) :: .int (zI mfa) :: .ref 106 :: .ref 107 :: .ref 108 :: .int (zI mtn) :: .int (zI mtk) :: .int (zI mlv) :: .int (zI mbd) :: .int (zI mgo) :: .int (zI mge) :: .int (zI mbk) :: .ref 109 :: .int (zI mtt) :: .int (zI mtl) :: .ref 110 :: .ref 111 :: .ref 112 :: .ref 113 :: .ref 114 :: .ref 115 :: .ref 116 :: .ref 117 :: .int (zI hm) :: .int (zI pm) :: .int (zI hb) :: .int (zI sb) :: .ref 118 :: .ref 119 :: .ref 120 :: .ref 121 :: .ref 122 :: .ref 123 :: .ref 124 :: .ref 125 :: .ref 126 :: .ref 127 :: .ref 128 :: .ref 129 :: .int (zI mfu) :: .ref 130 :: .ref 131 :: .ref 132 :: .ref 133 :: .ref 134 :: .int (zI mdm) :: .int (zI mla) :: [])))) (hk100 : fh 100 = some (.inl (0, 4870, .inl (zA K)))) (hk109 : fh 109 = some (.inl (0, 8, .inl (zA aq)))) : JM l G yX12_sumOf MX12_sumOf { frames := 4 + 3 * k, cells := 0, slots := 0, locals := 92 + 75 * k } [.ref 98, .int (zI lv)] (nh, fh) (fun rr h9 => ∃ r : Int, ∃ go2 : Int, ∃ bk2 : Int, rr = some (.long (zL r)) ∧ h9 = (nh, hc fh [(98, .inr (12, (.int (zI ms) :: .int (zI mv) :: .ref 99 :: .ref 100 :: .ref 101 :: .ref 102 :: .ref 103 :: .ref 104 :: .ref 105 :: .int (zI mt) :: .int (zI mfa) :: .ref 106 :: .ref 107 :: .ref 108 :: .int (zI mtn) :: .int (zI mtk) :: .int (zI mlv) :: .int (zI mbd) :: .int (zI go2) :: .int (zI mge) :: .int (zI bk2) :: .ref 109 :: .int (zI mtt) :: .int (zI mtl) :: .ref 110 :: .ref 111 :: .ref 112 :: .ref 113 :: .ref 114 :: .ref 115 :: .ref 116 :: .ref 117 :: .int (zI hm) :: .int (zI pm) :: .int (zI hb) :: .int (zI sb) :: .ref 118 :: .ref 119 :: .ref 120 :: .ref 121 :: .ref 122 :: .ref 123 :: .ref 124 :: .ref 125 :: .ref 126 :: .ref 127 :: .ref 128 :: .ref 129 :: .int (zI mfu) :: .ref 130 :: .ref 131 :: .ref 132 :: .ref 133 :: .ref 134 :: .int (zI mdm) :: .int (zI mla) :: [])))]) ∧ (go2 = e) ∧ (0 ≤ bk2) ∧ (bk2 ≤ 1) ∧ (-1000000000 ≤ r) ∧ (r ≤ 1000000000) ∧ (EvS lv mbk w8 f r bk2)) := by
  refine JM.of (by decide) rfl (fun h => by cases h) (Nat.le_of_ble_eq_true rfl) ⟨5, rfl⟩ ?_
  refine J_hc0 (J_ls (ls2 := [some (.ref 98), some (.int (zI lv)), none, none, none, none, none]) rfl ?_)
  obtain ⟨m0, fx, gm0p, gm0l, gm0e, gm0t⟩ := SeD.opn (IncD_tm k) q0
  refine J_aload_n dX12_sumOf_0 rfl rfl ?_
  refine J_iload_n dX12_sumOf_1 rfl rfl ?_
  refine J_callV (st := []) dX12_sumOf_2 cv_X12_254 (k_termOf k ih lv m0 fx w8 ms mv mt mfa mtn mtk mlv mbd mgo mge mbk mtt mtl hm pm hb sb mfu mdm mla K aq gm0p gm0l (v_f57be7c965 q2 gm0e) q3 q4 q5 q6 q7 q8 q9 q10 q11 q12 hk98 hk100 hk109) hk98 rfl rfl (Nat.le_of_ble_eq_true rfl) ⟨(by show (3 + 3 * k : Nat) + 1 ≤ 4 + 3 * k; omega), (by show 8 + (7 + 11) + (66 + 75 * k) ≤ 92 + 75 * k; omega)⟩ ⟨(Nat.le_of_ble_eq_true rfl), (Nat.le_of_ble_eq_true rfl)⟩ (fun r h9 hp => ?_)
  obtain ⟨z1, z2, z3, rfl, rfl, h4, h5, h6, h7, h8, h9⟩ := hp
  refine J_nf (nh2 := nh) (ck2 := 0) (sk2 := 0) (st2 := [.long (zL z1)]) rfl rfl rfl rfl ?_
  refine J_app (L3 := [(98, .inr (12, (.int (zI ms) :: .int (zI mv) :: .ref 99 :: .ref 100 :: .ref 101 :: .ref 102 :: .ref 103 :: .ref 104 :: .ref 105 :: .int (zI mt) :: .int (zI mfa) :: .ref 106 :: .ref 107 :: .ref 108 :: .int (zI mtn) :: .int (zI mtk) :: .int (zI mlv) :: .int (zI mbd) :: .int (zI z2) :: .int (zI mge) :: .int (zI z3) :: .ref 109 :: .int (zI mtt) :: .int (zI mtl) :: .ref 110 :: .ref 111 :: .ref 112 :: .ref 113 :: .ref 114 :: .ref 115 :: .ref 116 :: .ref 117 :: .int (zI hm) :: .int (zI pm) :: .int (zI hb) :: .int (zI sb) :: .ref 118 :: .ref 119 :: .ref 120 :: .ref 121 :: .ref 122 :: .ref 123 :: .ref 124 :: .ref 125 :: .ref 126 :: .ref 127 :: .ref 128 :: .ref 129 :: .int (zI mfu) :: .ref 130 :: .ref 131 :: .ref 132 :: .ref 133 :: .ref 134 :: .int (zI mdm) :: .int (zI mla) :: [])))]) rfl ?_
  refine J_lstore_n dX12_sumOf_5 rfl (Nat.le_of_ble_eq_true rfl) rfl ?_
  refine J_ls (ls2 := [some (.ref 98), some (.int (zI lv)), some (.long (zL z1)), none, none, none, none]) rfl ?_
  have lp6 : ∀ (N6 : Nat) (v_6 : Int) (go_6 : Int) (bk_6 : Int), (0 ≤ go_6) → (go_6 ≤ e) → (0 ≤ bk_6) → (bk_6 ≤ 1) → (-1000000000 ≤ v_6) → (v_6 ≤ 1000000000) → (TlX (EvS lv mbk w8) (TmD (Cd K mge) (Vd K) k) opA arC (Cd K mge) go_6 v_6 bk_6 e f) → (e - go_6).toNat < N6 → J l G MX12_sumOf { frames := 4 + 3 * k, cells := 0, slots := 0, locals := 92 + 75 * k } jE (jMQ G { frames := 4 + 3 * k, cells := 0, slots := 0, locals := 92 + 75 * k } (fun rr h9 => ∃ r : Int, ∃ go2 : Int, ∃ bk2 : Int, rr = some (.long (zL r)) ∧ h9 = (nh, hc fh [(98, .inr (12, (.int (zI ms) :: .int (zI mv) :: .ref 99 :: .ref 100 :: .ref 101 :: .ref 102 :: .ref 103 :: .ref 104 :: .ref 105 :: .int (zI mt) :: .int (zI mfa) :: .ref 106 :: .ref 107 :: .ref 108 :: .int (zI mtn) :: .int (zI mtk) :: .int (zI mlv) :: .int (zI mbd) :: .int (zI go2) :: .int (zI mge) :: .int (zI bk2) :: .ref 109 :: .int (zI mtt) :: .int (zI mtl) :: .ref 110 :: .ref 111 :: .ref 112 :: .ref 113 :: .ref 114 :: .ref 115 :: .ref 116 :: .ref 117 :: .int (zI hm) :: .int (zI pm) :: .int (zI hb) :: .int (zI sb) :: .ref 118 :: .ref 119 :: .ref 120 :: .ref 121 :: .ref 122 :: .ref 123 :: .ref 124 :: .ref 125 :: .ref 126 :: .ref 127 :: .ref 128 :: .ref 129 :: .int (zI mfu) :: .ref 130 :: .ref 131 :: .ref 132 :: .ref 133 :: .ref 134 :: .int (zI mdm) :: .int (zI mla) :: [])))]) ∧ (go2 = e) ∧ (0 ≤ bk2) ∧ (bk2 ≤ 1) ∧ (-1000000000 ≤ r) ∧ (r ≤ 1000000000) ∧ (EvS lv mbk w8 f r bk2))) (nh, hc fh [(98, .inr (12, (.int (zI ms) :: .int (zI mv) :: .ref 99 :: .ref 100 :: .ref 101 :: .ref 102 :: .ref 103 :: .ref 104 :: .ref 105 :: .int (zI mt) :: .int (zI mfa) :: .ref 106 :: .ref 107 :: .ref 108 :: .int (zI mtn) :: .int (zI mtk) :: .int (zI mlv) :: .int (zI mbd) :: .int (zI go_6) :: .int (zI mge) :: .int (zI bk_6) :: .ref 109 :: .int (zI mtt) :: .int (zI mtl) :: .ref 110 :: .ref 111 :: .ref 112 :: .ref 113 :: .ref 114 :: .ref 115 :: .ref 116 :: .ref 117 :: .int (zI hm) :: .int (zI pm) :: .int (zI hb) :: .int (zI sb) :: .ref 118 :: .ref 119 :: .ref 120 :: .ref 121 :: .ref 122 :: .ref 123 :: .ref 124 :: .ref 125 :: .ref 126 :: .ref 127 :: .ref 128 :: .ref 129 :: .int (zI mfu) :: .ref 130 :: .ref 131 :: .ref 132 :: .ref 133 :: .ref 134 :: .int (zI mdm) :: .int (zI mla) :: [])))]) 0 0 6 [some (.ref 98), some (.int (zI lv)), some (.long (zL v_6)), none, none, none, none] [] := by
    intro N6
    induction N6 with
    | zero => intro v_6 go_6 bk_6 i6_0 i6_1 i6_2 i6_3 i6_4 i6_5 i6_6 hm; exact absurd hm (Nat.not_lt_zero _)
    | succ N6 ih6 =>
      intro v_6 go_6 bk_6 i6_0 i6_1 i6_2 i6_3 i6_4 i6_5 i6_6 hm6
      refine J_aload_n dX12_sumOf_6 rfl rfl ?_
      refine J_aload_n dX12_sumOf_7 rfl rfl ?_
      refine J_get (v := .int (zI go_6)) dX12_sumOf_8 fl_X12_240 rfl rfl ?_
      refine J_callV (st := []) dX12_sumOf_11 cv_X12_243 (k_codeAt go_6 K ms mv mt mfa mtn mtk mlv mbd go_6 mge bk_6 mtt mtl hm pm hb sb mfu mdm mla i6_0 (v_ae25b4a4ea q2 q4 i6_1) (v_3dc59781b4 q1 q2 q3) q4 q9 rfl hk100) rfl rfl rfl (Nat.le_of_ble_eq_true rfl) ⟨(by show (0 : Nat) + 1 ≤ 4 + 3 * k; omega), (by show 8 + (2 + 11) + (0) ≤ 92 + 75 * k; omega)⟩ ⟨(Nat.le_of_ble_eq_true rfl), (Nat.le_of_ble_eq_true rfl)⟩ (fun r h9 hp => ?_)
      obtain ⟨z10, rfl, rfl, h11, h12⟩ := hp
      refine J_nf (nh2 := nh) (ck2 := 0) (sk2 := 0) (st2 := [.int (zI z10)]) rfl rfl rfl rfl ?_
      refine Z_bipush (n := 43) dX12_sumOf_14 (by decide +kernel) ?_
      refine J_callS (st := [.int (zI z10)]) dX12_sumOf_16 cs_X12_215 (k_sign 43 v_8b70ad274a v_ff10987188) rfl rfl (Nat.le_of_ble_eq_true rfl) ⟨(by show (0 : Nat) + 1 ≤ 4 + 3 * k; omega), (by show 8 + (1 + 11) + (0) ≤ 92 + 75 * k; omega)⟩ ⟨(Nat.le_of_ble_eq_true rfl), (Nat.le_of_ble_eq_true rfl)⟩ (fun r h9 hp => ?_)
      obtain ⟨z13, rfl, rfl, h14⟩ := hp
      refine J_nf (nh2 := nh) (ck2 := 0) (sk2 := 0) (st2 := [.int (zI z13), .int (zI z10)]) rfl rfl rfl rfl ?_
      refine Z_icmp_eq (tgt := 38) dX12_sumOf_19 (by decide) (v_b25fa51a85 h12) (v_0837c82268 h14) (fun h15 => ?_) (fun h15 => ?_)
      · refine J_aload_n dX12_sumOf_38 rfl rfl ?_
        refine J_aload_n dX12_sumOf_39 rfl rfl ?_
        refine J_get (v := .int (zI go_6)) dX12_sumOf_40 fl_X12_240 rfl rfl ?_
        refine J_callV (st := []) dX12_sumOf_43 cv_X12_243 (k_codeAt go_6 K ms mv mt mfa mtn mtk mlv mbd go_6 mge bk_6 mtt mtl hm pm hb sb mfu mdm mla i6_0 (v_ae25b4a4ea q2 q4 i6_1) (v_3dc59781b4 q1 q2 q3) q4 q9 rfl hk100) rfl rfl rfl (Nat.le_of_ble_eq_true rfl) ⟨(by show (0 : Nat) + 1 ≤ 4 + 3 * k; omega), (by show 8 + (2 + 11) + (0) ≤ 92 + 75 * k; omega)⟩ ⟨(Nat.le_of_ble_eq_true rfl), (Nat.le_of_ble_eq_true rfl)⟩ (fun r h9 hp => ?_)
        obtain ⟨z16, rfl, rfl, h17, h18⟩ := hp
        refine J_nf (nh2 := nh) (ck2 := 0) (sk2 := 0) (st2 := [.int (zI z16)]) rfl rfl rfl rfl ?_
        refine Z_bipush (n := 43) dX12_sumOf_46 (by decide +kernel) ?_
        refine J_callS (st := [.int (zI z16)]) dX12_sumOf_48 cs_X12_215 (k_sign 43 v_8b70ad274a v_ff10987188) rfl rfl (Nat.le_of_ble_eq_true rfl) ⟨(by show (0 : Nat) + 1 ≤ 4 + 3 * k; omega), (by show 8 + (1 + 11) + (0) ≤ 92 + 75 * k; omega)⟩ ⟨(Nat.le_of_ble_eq_true rfl), (Nat.le_of_ble_eq_true rfl)⟩ (fun r h9 hp => ?_)
        obtain ⟨z19, rfl, rfl, h20⟩ := hp
        refine J_nf (nh2 := nh) (ck2 := 0) (sk2 := 0) (st2 := [.int (zI z19), .int (zI z16)]) rfl rfl rfl rfl ?_
        refine Z_icmp_ne (tgt := 58) dX12_sumOf_51 (by decide) (v_b25fa51a85 h18) (v_0837c82268 h20) (fun h21 => absurd h21 (fun q => q (v_57bfee0c15 h11 h14 h15 h17 h20))) (fun h21 => ?_)
        refine Z_iconst (n := 1) dX12_sumOf_54 ?_
        refine J_goto (tgt := 59) dX12_sumOf_55 (by decide) ?_
        refine J_istore dX12_sumOf_59 (Nat.le_of_ble_eq_true rfl) rfl ?_
        refine J_ls (ls2 := [some (.ref 98), some (.int (zI lv)), some (.long (zL v_6)), none, some (.int (zI 1)), none, none]) rfl ?_
        refine J_aload_n dX12_sumOf_61 rfl rfl ?_
        refine J_dup dX12_sumOf_62 rfl ?_
        refine J_get (v := .int (zI go_6)) dX12_sumOf_63 fl_X12_240 rfl rfl ?_
        refine Z_iconst (n := 1) dX12_sumOf_66 ?_
        refine Z_iadd (c := go_6 + 1) dX12_sumOf_67 rfl ?_
        refine K_put (fs2 := (.int (zI ms) :: .int (zI mv) :: .ref 99 :: .ref 100 :: .ref 101 :: .ref 102 :: .ref 103 :: .ref 104 :: .ref 105 :: .int (zI mt) :: .int (zI mfa) :: .ref 106 :: .ref 107 :: .ref 108 :: .int (zI mtn) :: .int (zI mtk) :: .int (zI mlv) :: .int (zI mbd) :: .int (zI (go_6 + 1)) :: .int (zI mge) :: .int (zI bk_6) :: .ref 109 :: .int (zI mtt) :: .int (zI mtl) :: .ref 110 :: .ref 111 :: .ref 112 :: .ref 113 :: .ref 114 :: .ref 115 :: .ref 116 :: .ref 117 :: .int (zI hm) :: .int (zI pm) :: .int (zI hb) :: .int (zI sb) :: .ref 118 :: .ref 119 :: .ref 120 :: .ref 121 :: .ref 122 :: .ref 123 :: .ref 124 :: .ref 125 :: .ref 126 :: .ref 127 :: .ref 128 :: .ref 129 :: .int (zI mfu) :: .ref 130 :: .ref 131 :: .ref 132 :: .ref 133 :: .ref 134 :: .int (zI mdm) :: .int (zI mla) :: [])) dX12_sumOf_68 fw_X12_240 rfl (Nat.le_of_ble_eq_true rfl) (fun _ => ⟨rfl, rfl⟩) rfl ?_
        obtain ⟨m1, fa, fy, gm1p, gm1l, gm1e, gm1v, gm1t⟩ := TlX.next (IncD_tm k) i6_6 (show opA _ from (Or.inl (h17.trans (v_12efcbba8e h20 h21))))
        have gm1q : TmD (Cd K mge) (Vd K) k (go_6 + 1) m1 fy := by have u : (go_6 + 1) = go_6 + 1 := v_e828b09c4d; rw [u]; exact gm1p
        refine J_aload_n dX12_sumOf_71 rfl rfl ?_
        refine J_iload_n dX12_sumOf_72 rfl rfl ?_
        refine J_callV (st := []) dX12_sumOf_73 cv_X12_254 (k_termOf k ih lv m1 fy w8 ms mv mt mfa mtn mtk mlv mbd (go_6 + 1) mge bk_6 mtt mtl hm pm hb sb mfu mdm mla K aq gm1q gm1l (v_f57be7c965 q2 gm1e) (v_da458fa48a i6_0) q4 q5 q6 i6_2 i6_3 q9 q10 q11 q12 rfl hk100 hk109) rfl rfl rfl (Nat.le_of_ble_eq_true rfl) ⟨(by show (3 + 3 * k : Nat) + 1 ≤ 4 + 3 * k; omega), (by show 8 + (7 + 11) + (66 + 75 * k) ≤ 92 + 75 * k; omega)⟩ ⟨(Nat.le_of_ble_eq_true rfl), (Nat.le_of_ble_eq_true rfl)⟩ (fun r h9 hp => ?_)
        obtain ⟨z22, z23, z24, rfl, rfl, h25, h26, h27, h28, h29, h30⟩ := hp
        refine J_nf (nh2 := nh) (ck2 := 0) (sk2 := 0) (st2 := [.long (zL z22)]) rfl rfl rfl rfl ?_
        refine J_app (L3 := [(98, .inr (12, (.int (zI ms) :: .int (zI mv) :: .ref 99 :: .ref 100 :: .ref 101 :: .ref 102 :: .ref 103 :: .ref 104 :: .ref 105 :: .int (zI mt) :: .int (zI mfa) :: .ref 106 :: .ref 107 :: .ref 108 :: .int (zI mtn) :: .int (zI mtk) :: .int (zI mlv) :: .int (zI mbd) :: .int (zI z23) :: .int (zI mge) :: .int (zI z24) :: .ref 109 :: .int (zI mtt) :: .int (zI mtl) :: .ref 110 :: .ref 111 :: .ref 112 :: .ref 113 :: .ref 114 :: .ref 115 :: .ref 116 :: .ref 117 :: .int (zI hm) :: .int (zI pm) :: .int (zI hb) :: .int (zI sb) :: .ref 118 :: .ref 119 :: .ref 120 :: .ref 121 :: .ref 122 :: .ref 123 :: .ref 124 :: .ref 125 :: .ref 126 :: .ref 127 :: .ref 128 :: .ref 129 :: .int (zI mfu) :: .ref 130 :: .ref 131 :: .ref 132 :: .ref 133 :: .ref 134 :: .int (zI mdm) :: .int (zI mla) :: []))), (98, .inr (12, (.int (zI ms) :: .int (zI mv) :: .ref 99 :: .ref 100 :: .ref 101 :: .ref 102 :: .ref 103 :: .ref 104 :: .ref 105 :: .int (zI mt) :: .int (zI mfa) :: .ref 106 :: .ref 107 :: .ref 108 :: .int (zI mtn) :: .int (zI mtk) :: .int (zI mlv) :: .int (zI mbd) :: .int (zI (go_6 + 1)) :: .int (zI mge) :: .int (zI bk_6) :: .ref 109 :: .int (zI mtt) :: .int (zI mtl) :: .ref 110 :: .ref 111 :: .ref 112 :: .ref 113 :: .ref 114 :: .ref 115 :: .ref 116 :: .ref 117 :: .int (zI hm) :: .int (zI pm) :: .int (zI hb) :: .int (zI sb) :: .ref 118 :: .ref 119 :: .ref 120 :: .ref 121 :: .ref 122 :: .ref 123 :: .ref 124 :: .ref 125 :: .ref 126 :: .ref 127 :: .ref 128 :: .ref 129 :: .int (zI mfu) :: .ref 130 :: .ref 131 :: .ref 132 :: .ref 133 :: .ref 134 :: .int (zI mdm) :: .int (zI mla) :: []))), (98, .inr (12, (.int (zI ms) :: .int (zI mv) :: .ref 99 :: .ref 100 :: .ref 101 :: .ref 102 :: .ref 103 :: .ref 104 :: .ref 105 :: .int (zI mt) :: .int (zI mfa) :: .ref 106 :: .ref 107 :: .ref 108 :: .int (zI mtn) :: .int (zI mtk) :: .int (zI mlv) :: .int (zI mbd) :: .int (zI go_6) :: .int (zI mge) :: .int (zI bk_6) :: .ref 109 :: .int (zI mtt) :: .int (zI mtl) :: .ref 110 :: .ref 111 :: .ref 112 :: .ref 113 :: .ref 114 :: .ref 115 :: .ref 116 :: .ref 117 :: .int (zI hm) :: .int (zI pm) :: .int (zI hb) :: .int (zI sb) :: .ref 118 :: .ref 119 :: .ref 120 :: .ref 121 :: .ref 122 :: .ref 123 :: .ref 124 :: .ref 125 :: .ref 126 :: .ref 127 :: .ref 128 :: .ref 129 :: .int (zI mfu) :: .ref 130 :: .ref 131 :: .ref 132 :: .ref 133 :: .ref 134 :: .int (zI mdm) :: .int (zI mla) :: [])))]) rfl ?_
        refine J_mask (L2 := [(98, .inr (12, (.int (zI ms) :: .int (zI mv) :: .ref 99 :: .ref 100 :: .ref 101 :: .ref 102 :: .ref 103 :: .ref 104 :: .ref 105 :: .int (zI mt) :: .int (zI mfa) :: .ref 106 :: .ref 107 :: .ref 108 :: .int (zI mtn) :: .int (zI mtk) :: .int (zI mlv) :: .int (zI mbd) :: .int (zI z23) :: .int (zI mge) :: .int (zI z24) :: .ref 109 :: .int (zI mtt) :: .int (zI mtl) :: .ref 110 :: .ref 111 :: .ref 112 :: .ref 113 :: .ref 114 :: .ref 115 :: .ref 116 :: .ref 117 :: .int (zI hm) :: .int (zI pm) :: .int (zI hb) :: .int (zI sb) :: .ref 118 :: .ref 119 :: .ref 120 :: .ref 121 :: .ref 122 :: .ref 123 :: .ref 124 :: .ref 125 :: .ref 126 :: .ref 127 :: .ref 128 :: .ref 129 :: .int (zI mfu) :: .ref 130 :: .ref 131 :: .ref 132 :: .ref 133 :: .ref 134 :: .int (zI mdm) :: .int (zI mla) :: [])))]) (ks := [98, 98, 98]) [true, false, false] rfl (by decide +kernel) rfl ?_
        refine J_lstore dX12_sumOf_76 (Nat.le_of_ble_eq_true rfl) rfl ?_
        refine J_ls (ls2 := [some (.ref 98), some (.int (zI lv)), some (.long (zL v_6)), none, some (.int (zI 1)), some (.long (zL z22)), none]) rfl ?_
        refine J_aload_n dX12_sumOf_78 rfl rfl ?_
        refine J_iload dX12_sumOf_79 rfl ?_
        refine Z_if_eq (tgt := 91) dX12_sumOf_81 (by decide) v_4dcc24baa7 (fun h31 => absurd h31 v_3a47bfd896) (fun h31 => ?_)
        refine J_lload_n dX12_sumOf_84 rfl rfl ?_
        refine J_lload dX12_sumOf_85 rfl ?_
        refine Y_ladd (c := v_6 + z22) dX12_sumOf_87 rfl ?_
        refine J_goto (tgt := 95) dX12_sumOf_88 (by decide) ?_
        have gz : lv = 0 → v_6 + z22 = 0 := fun q => by have a := (gm1v.2.1 q).1; have b := (h30.2.1 q).1; omega
        refine J_iload_n dX12_sumOf_95 rfl rfl ?_
        refine J_callV (st := []) dX12_sumOf_96 cv_X12_258 (k_bounded (v_6 + z22) lv ms mv mt mfa mtn mtk mlv mbd z23 mge z24 mtt mtl hm pm hb sb mfu mdm mla (v_98c31d82bf i6_4 i6_5 h28 h29) q5 q6 h26 h27 gz rfl) rfl rfl rfl (Nat.le_of_ble_eq_true rfl) ⟨(by show (0 : Nat) + 1 ≤ 4 + 3 * k; omega), (by show 8 + (4 + 11) + (0) ≤ 92 + 75 * k; omega)⟩ ⟨(Nat.le_of_ble_eq_true rfl), (Nat.le_of_ble_eq_true rfl)⟩ (fun r h9 hp => ?_)
        obtain ⟨z32, z33, rfl, rfl, h34, h35, h36, h37, h38⟩ := hp
        refine J_nf (nh2 := nh) (ck2 := 0) (sk2 := 0) (st2 := [.long (zL z32)]) rfl rfl rfl rfl ?_
        refine J_app (L3 := [(98, .inr (12, (.int (zI ms) :: .int (zI mv) :: .ref 99 :: .ref 100 :: .ref 101 :: .ref 102 :: .ref 103 :: .ref 104 :: .ref 105 :: .int (zI mt) :: .int (zI mfa) :: .ref 106 :: .ref 107 :: .ref 108 :: .int (zI mtn) :: .int (zI mtk) :: .int (zI mlv) :: .int (zI mbd) :: .int (zI z23) :: .int (zI mge) :: .int (zI z33) :: .ref 109 :: .int (zI mtt) :: .int (zI mtl) :: .ref 110 :: .ref 111 :: .ref 112 :: .ref 113 :: .ref 114 :: .ref 115 :: .ref 116 :: .ref 117 :: .int (zI hm) :: .int (zI pm) :: .int (zI hb) :: .int (zI sb) :: .ref 118 :: .ref 119 :: .ref 120 :: .ref 121 :: .ref 122 :: .ref 123 :: .ref 124 :: .ref 125 :: .ref 126 :: .ref 127 :: .ref 128 :: .ref 129 :: .int (zI mfu) :: .ref 130 :: .ref 131 :: .ref 132 :: .ref 133 :: .ref 134 :: .int (zI mdm) :: .int (zI mla) :: []))), (98, .inr (12, (.int (zI ms) :: .int (zI mv) :: .ref 99 :: .ref 100 :: .ref 101 :: .ref 102 :: .ref 103 :: .ref 104 :: .ref 105 :: .int (zI mt) :: .int (zI mfa) :: .ref 106 :: .ref 107 :: .ref 108 :: .int (zI mtn) :: .int (zI mtk) :: .int (zI mlv) :: .int (zI mbd) :: .int (zI z23) :: .int (zI mge) :: .int (zI z24) :: .ref 109 :: .int (zI mtt) :: .int (zI mtl) :: .ref 110 :: .ref 111 :: .ref 112 :: .ref 113 :: .ref 114 :: .ref 115 :: .ref 116 :: .ref 117 :: .int (zI hm) :: .int (zI pm) :: .int (zI hb) :: .int (zI sb) :: .ref 118 :: .ref 119 :: .ref 120 :: .ref 121 :: .ref 122 :: .ref 123 :: .ref 124 :: .ref 125 :: .ref 126 :: .ref 127 :: .ref 128 :: .ref 129 :: .int (zI mfu) :: .ref 130 :: .ref 131 :: .ref 132 :: .ref 133 :: .ref 134 :: .int (zI mdm) :: .int (zI mla) :: [])))]) rfl ?_
        refine J_mask (L2 := [(98, .inr (12, (.int (zI ms) :: .int (zI mv) :: .ref 99 :: .ref 100 :: .ref 101 :: .ref 102 :: .ref 103 :: .ref 104 :: .ref 105 :: .int (zI mt) :: .int (zI mfa) :: .ref 106 :: .ref 107 :: .ref 108 :: .int (zI mtn) :: .int (zI mtk) :: .int (zI mlv) :: .int (zI mbd) :: .int (zI z23) :: .int (zI mge) :: .int (zI z33) :: .ref 109 :: .int (zI mtt) :: .int (zI mtl) :: .ref 110 :: .ref 111 :: .ref 112 :: .ref 113 :: .ref 114 :: .ref 115 :: .ref 116 :: .ref 117 :: .int (zI hm) :: .int (zI pm) :: .int (zI hb) :: .int (zI sb) :: .ref 118 :: .ref 119 :: .ref 120 :: .ref 121 :: .ref 122 :: .ref 123 :: .ref 124 :: .ref 125 :: .ref 126 :: .ref 127 :: .ref 128 :: .ref 129 :: .int (zI mfu) :: .ref 130 :: .ref 131 :: .ref 132 :: .ref 133 :: .ref 134 :: .int (zI mdm) :: .int (zI mla) :: [])))]) (ks := [98, 98]) [true, false] rfl (by decide +kernel) rfl ?_
        refine J_lstore_n dX12_sumOf_99 rfl (Nat.le_of_ble_eq_true rfl) rfl ?_
        refine J_ls (ls2 := [some (.ref 98), some (.int (zI lv)), some (.long (zL z32)), none, some (.int (zI 1)), some (.long (zL z22)), none]) rfl ?_
        refine J_goto (tgt := 6) dX12_sumOf_100 (by decide) ?_
        refine J_drop (ls2 := [some (.ref 98), some (.int (zI lv)), some (.long (zL z32)), none, none, none, none]) [true, true, true, false, false, false, false] rfl ?_
        exact ih6 z32 z23 z33 (v_ec671fffcf i6_0 gm1l h25) (v_402efff558 gm1e h25) h34 h35 h36 h37 (by have u : z23 = m1 := (v_cd91a95e4e h25); rw [u]; exact gm1t _ _ (EvS.add (h17.trans (v_12efcbba8e h20 h21)) (zo_of (v_2b02420001 q5) (v_6b0b292328 q6)) (zo_of (v_2b02420001 h26) (v_6b0b292328 h27)) gm1v h30 v_e3f00f9fd3 h38)) (meas_lt (v_ccbf9b7651 gm1l h25) (v_293abdd145 gm1l gm1e) hm6)
      · refine J_aload_n dX12_sumOf_22 rfl rfl ?_
        refine J_aload_n dX12_sumOf_23 rfl rfl ?_
        refine J_get (v := .int (zI go_6)) dX12_sumOf_24 fl_X12_240 rfl rfl ?_
        refine J_callV (st := []) dX12_sumOf_27 cv_X12_243 (k_codeAt go_6 K ms mv mt mfa mtn mtk mlv mbd go_6 mge bk_6 mtt mtl hm pm hb sb mfu mdm mla i6_0 (v_ae25b4a4ea q2 q4 i6_1) (v_3dc59781b4 q1 q2 q3) q4 q9 rfl hk100) rfl rfl rfl (Nat.le_of_ble_eq_true rfl) ⟨(by show (0 : Nat) + 1 ≤ 4 + 3 * k; omega), (by show 8 + (2 + 11) + (0) ≤ 92 + 75 * k; omega)⟩ ⟨(Nat.le_of_ble_eq_true rfl), (Nat.le_of_ble_eq_true rfl)⟩ (fun r h9 hp => ?_)
        obtain ⟨z39, rfl, rfl, h40, h41⟩ := hp
        refine J_nf (nh2 := nh) (ck2 := 0) (sk2 := 0) (st2 := [.int (zI z39)]) rfl rfl rfl rfl ?_
        refine Z_bipush (n := 45) dX12_sumOf_30 (by decide +kernel) ?_
        refine J_callS (st := [.int (zI z39)]) dX12_sumOf_32 cs_X12_215 (k_sign 45 v_8bc5410605 v_46bbb1acae) rfl rfl (Nat.le_of_ble_eq_true rfl) ⟨(by show (0 : Nat) + 1 ≤ 4 + 3 * k; omega), (by show 8 + (1 + 11) + (0) ≤ 92 + 75 * k; omega)⟩ ⟨(Nat.le_of_ble_eq_true rfl), (Nat.le_of_ble_eq_true rfl)⟩ (fun r h9 hp => ?_)
        obtain ⟨z42, rfl, rfl, h43⟩ := hp
        refine J_nf (nh2 := nh) (ck2 := 0) (sk2 := 0) (st2 := [.int (zI z42), .int (zI z39)]) rfl rfl rfl rfl ?_
        refine Z_icmp_ne (tgt := 103) dX12_sumOf_35 (by decide) (v_b25fa51a85 h41) (v_e8d1fa8a39 h43) (fun h44 => ?_) (fun h44 => ?_)
        · have g45 := TlX.stop i6_6 (fun w => by have u0 := h11; have u1 := h14; have u2 := h15; have u3 := h40; have u4 := h43; have u5 := h44; rcases w with w | w <;> omega)
          refine J_lload_n dX12_sumOf_103 rfl rfl ?_
          exact J_lret dX12_sumOf_104 rfl (Nat.le_of_ble_eq_true rfl) (Nat.le_of_ble_eq_true rfl) ⟨v_6, go_6, bk_6, rfl, rfl, g45.1, i6_2, i6_3, i6_4, i6_5, (g45.2)⟩
        · refine J_aload_n dX12_sumOf_38 rfl rfl ?_
          refine J_aload_n dX12_sumOf_39 rfl rfl ?_
          refine J_get (v := .int (zI go_6)) dX12_sumOf_40 fl_X12_240 rfl rfl ?_
          refine J_callV (st := []) dX12_sumOf_43 cv_X12_243 (k_codeAt go_6 K ms mv mt mfa mtn mtk mlv mbd go_6 mge bk_6 mtt mtl hm pm hb sb mfu mdm mla i6_0 (v_ae25b4a4ea q2 q4 i6_1) (v_3dc59781b4 q1 q2 q3) q4 q9 rfl hk100) rfl rfl rfl (Nat.le_of_ble_eq_true rfl) ⟨(by show (0 : Nat) + 1 ≤ 4 + 3 * k; omega), (by show 8 + (2 + 11) + (0) ≤ 92 + 75 * k; omega)⟩ ⟨(Nat.le_of_ble_eq_true rfl), (Nat.le_of_ble_eq_true rfl)⟩ (fun r h9 hp => ?_)
          obtain ⟨z46, rfl, rfl, h47, h48⟩ := hp
          refine J_nf (nh2 := nh) (ck2 := 0) (sk2 := 0) (st2 := [.int (zI z46)]) rfl rfl rfl rfl ?_
          refine Z_bipush (n := 43) dX12_sumOf_46 (by decide +kernel) ?_
          refine J_callS (st := [.int (zI z46)]) dX12_sumOf_48 cs_X12_215 (k_sign 43 v_8b70ad274a v_ff10987188) rfl rfl (Nat.le_of_ble_eq_true rfl) ⟨(by show (0 : Nat) + 1 ≤ 4 + 3 * k; omega), (by show 8 + (1 + 11) + (0) ≤ 92 + 75 * k; omega)⟩ ⟨(Nat.le_of_ble_eq_true rfl), (Nat.le_of_ble_eq_true rfl)⟩ (fun r h9 hp => ?_)
          obtain ⟨z49, rfl, rfl, h50⟩ := hp
          refine J_nf (nh2 := nh) (ck2 := 0) (sk2 := 0) (st2 := [.int (zI z49), .int (zI z46)]) rfl rfl rfl rfl ?_
          refine Z_icmp_ne (tgt := 58) dX12_sumOf_51 (by decide) (v_b25fa51a85 h48) (v_0837c82268 h50) (fun h51 => ?_) (fun h51 => absurd h51 (v_377ea9590a h40 h43 h44 h47 h50))
          refine Z_iconst (n := 0) dX12_sumOf_58 ?_
          refine J_istore dX12_sumOf_59 (Nat.le_of_ble_eq_true rfl) rfl ?_
          refine J_ls (ls2 := [some (.ref 98), some (.int (zI lv)), some (.long (zL v_6)), none, some (.int (zI 0)), none, none]) rfl ?_
          refine J_aload_n dX12_sumOf_61 rfl rfl ?_
          refine J_dup dX12_sumOf_62 rfl ?_
          refine J_get (v := .int (zI go_6)) dX12_sumOf_63 fl_X12_240 rfl rfl ?_
          refine Z_iconst (n := 1) dX12_sumOf_66 ?_
          refine Z_iadd (c := go_6 + 1) dX12_sumOf_67 rfl ?_
          refine K_put (fs2 := (.int (zI ms) :: .int (zI mv) :: .ref 99 :: .ref 100 :: .ref 101 :: .ref 102 :: .ref 103 :: .ref 104 :: .ref 105 :: .int (zI mt) :: .int (zI mfa) :: .ref 106 :: .ref 107 :: .ref 108 :: .int (zI mtn) :: .int (zI mtk) :: .int (zI mlv) :: .int (zI mbd) :: .int (zI (go_6 + 1)) :: .int (zI mge) :: .int (zI bk_6) :: .ref 109 :: .int (zI mtt) :: .int (zI mtl) :: .ref 110 :: .ref 111 :: .ref 112 :: .ref 113 :: .ref 114 :: .ref 115 :: .ref 116 :: .ref 117 :: .int (zI hm) :: .int (zI pm) :: .int (zI hb) :: .int (zI sb) :: .ref 118 :: .ref 119 :: .ref 120 :: .ref 121 :: .ref 122 :: .ref 123 :: .ref 124 :: .ref 125 :: .ref 126 :: .ref 127 :: .ref 128 :: .ref 129 :: .int (zI mfu) :: .ref 130 :: .ref 131 :: .ref 132 :: .ref 133 :: .ref 134 :: .int (zI mdm) :: .int (zI mla) :: [])) dX12_sumOf_68 fw_X12_240 rfl (Nat.le_of_ble_eq_true rfl) (fun _ => ⟨rfl, rfl⟩) rfl ?_
          obtain ⟨m1, fa, fy, gm1p, gm1l, gm1e, gm1v, gm1t⟩ := TlX.next (IncD_tm k) i6_6 (show opA _ from (Or.inr (h47.trans (v_5dff43669c h40 h43 h44 h47))))
          have gm1q : TmD (Cd K mge) (Vd K) k (go_6 + 1) m1 fy := by have u : (go_6 + 1) = go_6 + 1 := v_e828b09c4d; rw [u]; exact gm1p
          refine J_aload_n dX12_sumOf_71 rfl rfl ?_
          refine J_iload_n dX12_sumOf_72 rfl rfl ?_
          refine J_callV (st := []) dX12_sumOf_73 cv_X12_254 (k_termOf k ih lv m1 fy w8 ms mv mt mfa mtn mtk mlv mbd (go_6 + 1) mge bk_6 mtt mtl hm pm hb sb mfu mdm mla K aq gm1q gm1l (v_f57be7c965 q2 gm1e) (v_da458fa48a i6_0) q4 q5 q6 i6_2 i6_3 q9 q10 q11 q12 rfl hk100 hk109) rfl rfl rfl (Nat.le_of_ble_eq_true rfl) ⟨(by show (3 + 3 * k : Nat) + 1 ≤ 4 + 3 * k; omega), (by show 8 + (7 + 11) + (66 + 75 * k) ≤ 92 + 75 * k; omega)⟩ ⟨(Nat.le_of_ble_eq_true rfl), (Nat.le_of_ble_eq_true rfl)⟩ (fun r h9 hp => ?_)
          obtain ⟨z52, z53, z54, rfl, rfl, h55, h56, h57, h58, h59, h60⟩ := hp
          refine J_nf (nh2 := nh) (ck2 := 0) (sk2 := 0) (st2 := [.long (zL z52)]) rfl rfl rfl rfl ?_
          refine J_app (L3 := [(98, .inr (12, (.int (zI ms) :: .int (zI mv) :: .ref 99 :: .ref 100 :: .ref 101 :: .ref 102 :: .ref 103 :: .ref 104 :: .ref 105 :: .int (zI mt) :: .int (zI mfa) :: .ref 106 :: .ref 107 :: .ref 108 :: .int (zI mtn) :: .int (zI mtk) :: .int (zI mlv) :: .int (zI mbd) :: .int (zI z53) :: .int (zI mge) :: .int (zI z54) :: .ref 109 :: .int (zI mtt) :: .int (zI mtl) :: .ref 110 :: .ref 111 :: .ref 112 :: .ref 113 :: .ref 114 :: .ref 115 :: .ref 116 :: .ref 117 :: .int (zI hm) :: .int (zI pm) :: .int (zI hb) :: .int (zI sb) :: .ref 118 :: .ref 119 :: .ref 120 :: .ref 121 :: .ref 122 :: .ref 123 :: .ref 124 :: .ref 125 :: .ref 126 :: .ref 127 :: .ref 128 :: .ref 129 :: .int (zI mfu) :: .ref 130 :: .ref 131 :: .ref 132 :: .ref 133 :: .ref 134 :: .int (zI mdm) :: .int (zI mla) :: []))), (98, .inr (12, (.int (zI ms) :: .int (zI mv) :: .ref 99 :: .ref 100 :: .ref 101 :: .ref 102 :: .ref 103 :: .ref 104 :: .ref 105 :: .int (zI mt) :: .int (zI mfa) :: .ref 106 :: .ref 107 :: .ref 108 :: .int (zI mtn) :: .int (zI mtk) :: .int (zI mlv) :: .int (zI mbd) :: .int (zI (go_6 + 1)) :: .int (zI mge) :: .int (zI bk_6) :: .ref 109 :: .int (zI mtt) :: .int (zI mtl) :: .ref 110 :: .ref 111 :: .ref 112 :: .ref 113 :: .ref 114 :: .ref 115 :: .ref 116 :: .ref 117 :: .int (zI hm) :: .int (zI pm) :: .int (zI hb) :: .int (zI sb) :: .ref 118 :: .ref 119 :: .ref 120 :: .ref 121 :: .ref 122 :: .ref 123 :: .ref 124 :: .ref 125 :: .ref 126 :: .ref 127 :: .ref 128 :: .ref 129 :: .int (zI mfu) :: .ref 130 :: .ref 131 :: .ref 132 :: .ref 133 :: .ref 134 :: .int (zI mdm) :: .int (zI mla) :: []))), (98, .inr (12, (.int (zI ms) :: .int (zI mv) :: .ref 99 :: .ref 100 :: .ref 101 :: .ref 102 :: .ref 103 :: .ref 104 :: .ref 105 :: .int (zI mt) :: .int (zI mfa) :: .ref 106 :: .ref 107 :: .ref 108 :: .int (zI mtn) :: .int (zI mtk) :: .int (zI mlv) :: .int (zI mbd) :: .int (zI go_6) :: .int (zI mge) :: .int (zI bk_6) :: .ref 109 :: .int (zI mtt) :: .int (zI mtl) :: .ref 110 :: .ref 111 :: .ref 112 :: .ref 113 :: .ref 114 :: .ref 115 :: .ref 116 :: .ref 117 :: .int (zI hm) :: .int (zI pm) :: .int (zI hb) :: .int (zI sb) :: .ref 118 :: .ref 119 :: .ref 120 :: .ref 121 :: .ref 122 :: .ref 123 :: .ref 124 :: .ref 125 :: .ref 126 :: .ref 127 :: .ref 128 :: .ref 129 :: .int (zI mfu) :: .ref 130 :: .ref 131 :: .ref 132 :: .ref 133 :: .ref 134 :: .int (zI mdm) :: .int (zI mla) :: [])))]) rfl ?_
          refine J_mask (L2 := [(98, .inr (12, (.int (zI ms) :: .int (zI mv) :: .ref 99 :: .ref 100 :: .ref 101 :: .ref 102 :: .ref 103 :: .ref 104 :: .ref 105 :: .int (zI mt) :: .int (zI mfa) :: .ref 106 :: .ref 107 :: .ref 108 :: .int (zI mtn) :: .int (zI mtk) :: .int (zI mlv) :: .int (zI mbd) :: .int (zI z53) :: .int (zI mge) :: .int (zI z54) :: .ref 109 :: .int (zI mtt) :: .int (zI mtl) :: .ref 110 :: .ref 111 :: .ref 112 :: .ref 113 :: .ref 114 :: .ref 115 :: .ref 116 :: .ref 117 :: .int (zI hm) :: .int (zI pm) :: .int (zI hb) :: .int (zI sb) :: .ref 118 :: .ref 119 :: .ref 120 :: .ref 121 :: .ref 122 :: .ref 123 :: .ref 124 :: .ref 125 :: .ref 126 :: .ref 127 :: .ref 128 :: .ref 129 :: .int (zI mfu) :: .ref 130 :: .ref 131 :: .ref 132 :: .ref 133 :: .ref 134 :: .int (zI mdm) :: .int (zI mla) :: [])))]) (ks := [98, 98, 98]) [true, false, false] rfl (by decide +kernel) rfl ?_
          refine J_lstore dX12_sumOf_76 (Nat.le_of_ble_eq_true rfl) rfl ?_
          refine J_ls (ls2 := [some (.ref 98), some (.int (zI lv)), some (.long (zL v_6)), none, some (.int (zI 0)), some (.long (zL z52)), none]) rfl ?_
          refine J_aload_n dX12_sumOf_78 rfl rfl ?_
          refine J_iload dX12_sumOf_79 rfl ?_
          refine Z_if_eq (tgt := 91) dX12_sumOf_81 (by decide) v_b17331891f (fun h61 => ?_) (fun h61 => absurd h61 (fun q => q v_2ca2bbca1f))
          refine J_lload_n dX12_sumOf_91 rfl rfl ?_
          refine J_lload dX12_sumOf_92 rfl ?_
          refine Y_lsub (c := v_6 - z52) dX12_sumOf_94 rfl ?_
          have gz : lv = 0 → v_6 - z52 = 0 := fun q => by have a := (gm1v.2.1 q).1; have b := (h60.2.1 q).1; omega
          refine J_iload_n dX12_sumOf_95 rfl rfl ?_
          refine J_callV (st := []) dX12_sumOf_96 cv_X12_258 (k_bounded (v_6 - z52) lv ms mv mt mfa mtn mtk mlv mbd z53 mge z54 mtt mtl hm pm hb sb mfu mdm mla (v_8d22173226 i6_4 i6_5 h58 h59) q5 q6 h56 h57 gz rfl) rfl rfl rfl (Nat.le_of_ble_eq_true rfl) ⟨(by show (0 : Nat) + 1 ≤ 4 + 3 * k; omega), (by show 8 + (4 + 11) + (0) ≤ 92 + 75 * k; omega)⟩ ⟨(Nat.le_of_ble_eq_true rfl), (Nat.le_of_ble_eq_true rfl)⟩ (fun r h9 hp => ?_)
          obtain ⟨z62, z63, rfl, rfl, h64, h65, h66, h67, h68⟩ := hp
          refine J_nf (nh2 := nh) (ck2 := 0) (sk2 := 0) (st2 := [.long (zL z62)]) rfl rfl rfl rfl ?_
          refine J_app (L3 := [(98, .inr (12, (.int (zI ms) :: .int (zI mv) :: .ref 99 :: .ref 100 :: .ref 101 :: .ref 102 :: .ref 103 :: .ref 104 :: .ref 105 :: .int (zI mt) :: .int (zI mfa) :: .ref 106 :: .ref 107 :: .ref 108 :: .int (zI mtn) :: .int (zI mtk) :: .int (zI mlv) :: .int (zI mbd) :: .int (zI z53) :: .int (zI mge) :: .int (zI z63) :: .ref 109 :: .int (zI mtt) :: .int (zI mtl) :: .ref 110 :: .ref 111 :: .ref 112 :: .ref 113 :: .ref 114 :: .ref 115 :: .ref 116 :: .ref 117 :: .int (zI hm) :: .int (zI pm) :: .int (zI hb) :: .int (zI sb) :: .ref 118 :: .ref 119 :: .ref 120 :: .ref 121 :: .ref 122 :: .ref 123 :: .ref 124 :: .ref 125 :: .ref 126 :: .ref 127 :: .ref 128 :: .ref 129 :: .int (zI mfu) :: .ref 130 :: .ref 131 :: .ref 132 :: .ref 133 :: .ref 134 :: .int (zI mdm) :: .int (zI mla) :: []))), (98, .inr (12, (.int (zI ms) :: .int (zI mv) :: .ref 99 :: .ref 100 :: .ref 101 :: .ref 102 :: .ref 103 :: .ref 104 :: .ref 105 :: .int (zI mt) :: .int (zI mfa) :: .ref 106 :: .ref 107 :: .ref 108 :: .int (zI mtn) :: .int (zI mtk) :: .int (zI mlv) :: .int (zI mbd) :: .int (zI z53) :: .int (zI mge) :: .int (zI z54) :: .ref 109 :: .int (zI mtt) :: .int (zI mtl) :: .ref 110 :: .ref 111 :: .ref 112 :: .ref 113 :: .ref 114 :: .ref 115 :: .ref 116 :: .ref 117 :: .int (zI hm) :: .int (zI pm) :: .int (zI hb) :: .int (zI sb) :: .ref 118 :: .ref 119 :: .ref 120 :: .ref 121 :: .ref 122 :: .ref 123 :: .ref 124 :: .ref 125 :: .ref 126 :: .ref 127 :: .ref 128 :: .ref 129 :: .int (zI mfu) :: .ref 130 :: .ref 131 :: .ref 132 :: .ref 133 :: .ref 134 :: .int (zI mdm) :: .int (zI mla) :: [])))]) rfl ?_
          refine J_mask (L2 := [(98, .inr (12, (.int (zI ms) :: .int (zI mv) :: .ref 99 :: .ref 100 :: .ref 101 :: .ref 102 :: .ref 103 :: .ref 104 :: .ref 105 :: .int (zI mt) :: .int (zI mfa) :: .ref 106 :: .ref 107 :: .ref 108 :: .int (zI mtn) :: .int (zI mtk) :: .int (zI mlv) :: .int (zI mbd) :: .int (zI z53) :: .int (zI mge) :: .int (zI z63) :: .ref 109 :: .int (zI mtt) :: .int (zI mtl) :: .ref 110 :: .ref 111 :: .ref 112 :: .ref 113 :: .ref 114 :: .ref 115 :: .ref 116 :: .ref 117 :: .int (zI hm) :: .int (zI pm) :: .int (zI hb) :: .int (zI sb) :: .ref 118 :: .ref 119 :: .ref 120 :: .ref 121 :: .ref 122 :: .ref 123 :: .ref 124 :: .ref 125 :: .ref 126 :: .ref 127 :: .ref 128 :: .ref 129 :: .int (zI mfu) :: .ref 130 :: .ref 131 :: .ref 132 :: .ref 133 :: .ref 134 :: .int (zI mdm) :: .int (zI mla) :: [])))]) (ks := [98, 98]) [true, false] rfl (by decide +kernel) rfl ?_
          refine J_lstore_n dX12_sumOf_99 rfl (Nat.le_of_ble_eq_true rfl) rfl ?_
          refine J_ls (ls2 := [some (.ref 98), some (.int (zI lv)), some (.long (zL z62)), none, some (.int (zI 0)), some (.long (zL z52)), none]) rfl ?_
          refine J_goto (tgt := 6) dX12_sumOf_100 (by decide) ?_
          refine J_drop (ls2 := [some (.ref 98), some (.int (zI lv)), some (.long (zL z62)), none, none, none, none]) [true, true, true, false, false, false, false] rfl ?_
          exact ih6 z62 z53 z63 (v_ec671fffcf i6_0 gm1l h55) (v_402efff558 gm1e h55) h64 h65 h66 h67 (by have u : z53 = m1 := (v_cd91a95e4e h55); rw [u]; exact gm1t _ _ (EvS.sub (h47.trans (v_5dff43669c h40 h43 h44 h47)) (zo_of (v_2b02420001 q5) (v_6b0b292328 q6)) (zo_of (v_2b02420001 h56) (v_6b0b292328 h57)) gm1v h60 v_d5c855ab67 h68)) (meas_lt (v_ccbf9b7651 gm1l h55) (v_293abdd145 gm1l gm1e) hm6)
  exact lp6 _ z1 z2 z3 (v_7f1b51b98a q3 gm0l h4) (v_402efff558 gm0e h4) h5 h6 h7 h8 (by have u : z2 = m0 := (v_cd91a95e4e h4); rw [u]; exact gm0t _ _ _ h9) (Nat.lt_succ_self _)
theorem k_sumOf {l : Launch} {G : jG} : ∀ k : Nat, Q_sumOf l G k := fun k => by
  induction k with
  | zero => intro nh fh; exact k_sumOf_i 0 (fun j e => absurd e (by omega))
  | succ k hk =>
    intro nh fh
    refine k_sumOf_i (k + 1) (fun j e => ?_)
    have e2 : j = k := by omega
    subst e2
    exact @hk
