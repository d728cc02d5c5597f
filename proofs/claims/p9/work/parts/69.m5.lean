abbrev MX12_findsFits : jM := (RX12, cX12_findsFits, 3, some .int, false)
theorem fl_X12_123 : jFL RX12 123 12 49 := ⟨_, _, _, rfl, iX12, by decide, Or.inl (jt6 123 rfl rfl)⟩
abbrev MX12_fits : jM := (RX12, cX12_fits, 5, some .int, false)
theorem cv_X12_363 : jCV RX12 363 12 yX12_findsFits MX12_findsFits 0 := ⟨_, _, rfl, (jt8 103 rfl rfl), (jt8 102 rfl rfl), (jtp (q := (⟨"BeanStreetModel", "findsFits", "()I"⟩, 56)) (List.mem_of_getElem? (i := 104) rfl)), (jt1 13 rfl rfl), ⟨by decide, by decide, by decide +kernel⟩, Or.inl (jt8 100 rfl rfl)⟩
abbrev MX12_ask : jM := (RX12, cX12_ask, 8, some .int, false)
theorem fl_X12_126 : jFL RX12 126 12 50 := ⟨_, _, _, rfl, iX12, by decide, Or.inl (jt6 124 rfl rfl)⟩
abbrev MX12_draws : jM := (RX12, cX12_draws, 2, some .int, false)
theorem fl_X12_368 : jFL RX12 368 12 55 := ⟨_, _, _, rfl, iX12, by decide, Or.inl (jt6 129 rfl rfl)⟩
theorem fw_X12_368 : jFW RX12 368 12 55 (.int) false := ⟨_, _, _, tyX12, rfl, iX12, tyX12_ok, nmX12, by decide, rfl, rfl, (fun h => by cases h), Or.inl (jt6 129 rfl rfl)⟩
abbrev MX12_status : jM := (RX12, cX12_status, 1, some .int, false)
theorem fl_X12_3 : jFL RX12 3 12 0 := ⟨_, _, _, rfl, iX12, by decide, Or.inl (jt6 74 rfl rfl)⟩
abbrev MX12_fault : jM := (RX12, cX12_fault, 1, some .int, false)
theorem fl_X12_40 : jFL RX12 40 12 10 := ⟨_, _, _, rfl, iX12, by decide, Or.inl (jt6 84 rfl rfl)⟩
abbrev MX12_drawn : jM := (RX12, cX12_drawn, 2, some .int, false)
theorem fl_X12_375 : jFL RX12 375 12 54 := ⟨_, _, _, rfl, iX12, by decide, Or.inl (jt6 128 rfl rfl)⟩
theorem fl_X12_135 : jFL RX12 135 12 53 := ⟨_, _, _, rfl, iX12, by decide, Or.inl (jt6 127 rfl rfl)⟩
abbrev MX12_count : jM := (RX12, cX12_count, 2, some .int, false)
theorem fl_X12_156 : jFL RX12 156 12 9 := ⟨_, _, _, rfl, iX12, by decide, Or.inl (jt6 83 rfl rfl)⟩
abbrev MX12_drunk : jM := (RX12, cX12_drunk, 6, some .int, false)
theorem fw_X12_375 : jFW RX12 375 12 54 (.int) false := ⟨_, _, _, tyX12, rfl, iX12, tyX12_ok, nmX12, by decide, rfl, rfl, (fun h => by cases h), Or.inl (jt6 128 rfl rfl)⟩
theorem cv_X12_146 : jCV RX12 146 12 yX12_good MX12_good 1 := ⟨_, _, rfl, (jt7 17 rfl rfl), (jt7 16 rfl rfl), (jtp (q := (⟨"BeanStreetModel", "good", "(I)I"⟩, 56)) (List.mem_of_getElem? (i := 55) rfl)), (jt1 13 rfl rfl), ⟨by decide, by decide, by decide +kernel⟩, Or.inl (jt7 14 rfl rfl)⟩
theorem cv_X12_378 : jCV RX12 378 12 yX12_draws MX12_draws 1 := ⟨_, _, rfl, (jt8 119 rfl rfl), (jt8 118 rfl rfl), (jtp (q := (⟨"BeanStreetModel", "draws", "(I)I"⟩, 56)) (List.mem_of_getElem? (i := 105) rfl)), (jt1 13 rfl rfl), ⟨by decide, by decide, by decide +kernel⟩, Or.inl (jt8 116 rfl rfl)⟩
theorem cv_X12_142 : jCV RX12 142 12 yX12_refuses MX12_refuses 1 := ⟨_, _, rfl, (jt7 13 rfl rfl), (jt7 12 rfl rfl), (jtp (q := (⟨"BeanStreetModel", "refuses", "(I)I"⟩, 56)) (List.mem_of_getElem? (i := 54) rfl)), (jt1 13 rfl rfl), ⟨by decide, by decide, by decide +kernel⟩, Or.inl (jt7 10 rfl rfl)⟩
theorem dX12_findsFits_0 : decode cX12_findsFits 0 = .ok (.aload_n 0, 1) := by decide +kernel
theorem dX12_findsFits_1 : decode cX12_findsFits 1 = .ok (.invokevirtual 328, 3) := by decide +kernel
theorem dX12_findsFits_4 : decode cX12_findsFits 4 = .ok (.iconst 0, 1) := by decide +kernel
theorem dX12_findsFits_5 : decode cX12_findsFits 5 = .ok (.istore_n 1, 1) := by decide +kernel
theorem dX12_findsFits_6 : decode cX12_findsFits 6 = .ok (.iload_n 1, 1) := by decide +kernel
theorem dX12_findsFits_7 : decode cX12_findsFits 7 = .ok (.aload_n 0, 1) := by decide +kernel
theorem dX12_findsFits_8 : decode cX12_findsFits 8 = .ok (.getfield 298, 3) := by decide +kernel
theorem dX12_findsFits_11 : decode cX12_findsFits 11 = .ok (.if_icmp .ge 16, 3) := by decide +kernel
theorem dX12_findsFits_27 : decode cX12_findsFits 27 = .ok (.iconst 0, 1) := by decide +kernel
theorem dX12_findsFits_28 : decode cX12_findsFits 28 = .ok (.istore_n 1, 1) := by decide +kernel
theorem dX12_findsFits_29 : decode cX12_findsFits 29 = .ok (.iload_n 1, 1) := by decide +kernel
theorem dX12_findsFits_30 : decode cX12_findsFits 30 = .ok (.aload_n 0, 1) := by decide +kernel
theorem dX12_findsFits_31 : decode cX12_findsFits 31 = .ok (.getfield 20, 3) := by decide +kernel
theorem dX12_findsFits_34 : decode cX12_findsFits 34 = .ok (.bipush 61, 2) := by decide +kernel
theorem dX12_findsFits_36 : decode cX12_findsFits 36 = .ok (.iaload, 1) := by decide +kernel
theorem dX12_findsFits_37 : decode cX12_findsFits 37 = .ok (.if_icmp .ge 83, 3) := by decide +kernel
theorem dX12_findsFits_120 : decode cX12_findsFits 120 = .ok (.iconst 0, 1) := by decide +kernel
theorem dX12_findsFits_121 : decode cX12_findsFits 121 = .ok (.istore_n 1, 1) := by decide +kernel
theorem dX12_findsFits_122 : decode cX12_findsFits 122 = .ok (.iconst 0, 1) := by decide +kernel
theorem dX12_findsFits_123 : decode cX12_findsFits 123 = .ok (.istore_n 2, 1) := by decide +kernel
theorem dX12_findsFits_124 : decode cX12_findsFits 124 = .ok (.iload_n 2, 1) := by decide +kernel
theorem dX12_findsFits_125 : decode cX12_findsFits 125 = .ok (.aload_n 0, 1) := by decide +kernel
theorem dX12_findsFits_126 : decode cX12_findsFits 126 = .ok (.getfield 298, 3) := by decide +kernel
theorem dX12_findsFits_129 : decode cX12_findsFits 129 = .ok (.if_icmp .ge 26, 3) := by decide +kernel
theorem dX12_findsFits_155 : decode cX12_findsFits 155 = .ok (.iload_n 1, 1) := by decide +kernel
theorem dX12_findsFits_156 : decode cX12_findsFits 156 = .ok (.ireturn, 1) := by decide +kernel
theorem dX12_findsFits_132 : decode cX12_findsFits 132 = .ok (.iload_n 1, 1) := by decide +kernel
theorem dX12_findsFits_133 : decode cX12_findsFits 133 = .ok (.aload_n 0, 1) := by decide +kernel
theorem dX12_findsFits_134 : decode cX12_findsFits 134 = .ok (.getfield 123, 3) := by decide +kernel
theorem dX12_findsFits_137 : decode cX12_findsFits 137 = .ok (.iload_n 2, 1) := by decide +kernel
theorem dX12_findsFits_138 : decode cX12_findsFits 138 = .ok (.baload, 1) := by decide +kernel
theorem dX12_findsFits_139 : decode cX12_findsFits 139 = .ok (.ifCond .eq 7, 3) := by decide +kernel
theorem dX12_findsFits_146 : decode cX12_findsFits 146 = .ok (.iconst 0, 1) := by decide +kernel
theorem dX12_findsFits_147 : decode cX12_findsFits 147 = .ok (.iadd, 1) := by decide +kernel
theorem dX12_findsFits_148 : decode cX12_findsFits 148 = .ok (.istore_n 1, 1) := by decide +kernel
theorem dX12_findsFits_149 : decode cX12_findsFits 149 = .ok (.iinc 2 1, 3) := by decide +kernel
theorem dX12_findsFits_152 : decode cX12_findsFits 152 = .ok (.goto (-28), 3) := by decide +kernel
theorem dX12_findsFits_142 : decode cX12_findsFits 142 = .ok (.iconst 1, 1) := by decide +kernel
theorem dX12_findsFits_143 : decode cX12_findsFits 143 = .ok (.goto 4, 3) := by decide +kernel
theorem dX12_findsFits_40 : decode cX12_findsFits 40 = .ok (.aload_n 0, 1) := by decide +kernel
theorem dX12_findsFits_41 : decode cX12_findsFits 41 = .ok (.aload_n 0, 1) := by decide +kernel
theorem dX12_findsFits_42 : decode cX12_findsFits 42 = .ok (.getfield 20, 3) := by decide +kernel
theorem dX12_findsFits_45 : decode cX12_findsFits 45 = .ok (.bipush 47, 2) := by decide +kernel
theorem dX12_findsFits_47 : decode cX12_findsFits 47 = .ok (.iconst 2, 1) := by decide +kernel
theorem dX12_findsFits_48 : decode cX12_findsFits 48 = .ok (.iload_n 1, 1) := by decide +kernel
theorem dX12_findsFits_49 : decode cX12_findsFits 49 = .ok (.imul, 1) := by decide +kernel
theorem dX12_findsFits_50 : decode cX12_findsFits 50 = .ok (.iadd, 1) := by decide +kernel
theorem dX12_findsFits_51 : decode cX12_findsFits 51 = .ok (.iaload, 1) := by decide +kernel
theorem dX12_findsFits_52 : decode cX12_findsFits 52 = .ok (.invokevirtual 334, 3) := by decide +kernel
theorem dX12_findsFits_55 : decode cX12_findsFits 55 = .ok (.pop, 1) := by decide +kernel
theorem dX12_findsFits_56 : decode cX12_findsFits 56 = .ok (.iconst 0, 1) := by decide +kernel
theorem dX12_findsFits_57 : decode cX12_findsFits 57 = .ok (.istore_n 2, 1) := by decide +kernel
theorem dX12_findsFits_58 : decode cX12_findsFits 58 = .ok (.iload_n 2, 1) := by decide +kernel
theorem dX12_findsFits_59 : decode cX12_findsFits 59 = .ok (.aload_n 0, 1) := by decide +kernel
theorem dX12_findsFits_60 : decode cX12_findsFits 60 = .ok (.getfield 298, 3) := by decide +kernel
theorem dX12_findsFits_63 : decode cX12_findsFits 63 = .ok (.if_icmp .ge 51, 3) := by decide +kernel
theorem dX12_findsFits_114 : decode cX12_findsFits 114 = .ok (.iinc 1 1, 3) := by decide +kernel
theorem dX12_findsFits_117 : decode cX12_findsFits 117 = .ok (.goto (-88), 3) := by decide +kernel
theorem dX12_findsFits_66 : decode cX12_findsFits 66 = .ok (.aload_n 0, 1) := by decide +kernel
theorem dX12_findsFits_67 : decode cX12_findsFits 67 = .ok (.getfield 123, 3) := by decide +kernel
theorem dX12_findsFits_70 : decode cX12_findsFits 70 = .ok (.iload_n 2, 1) := by decide +kernel
theorem dX12_findsFits_71 : decode cX12_findsFits 71 = .ok (.aload_n 0, 1) := by decide +kernel
theorem dX12_findsFits_72 : decode cX12_findsFits 72 = .ok (.getfield 123, 3) := by decide +kernel
theorem dX12_findsFits_75 : decode cX12_findsFits 75 = .ok (.iload_n 2, 1) := by decide +kernel
theorem dX12_findsFits_76 : decode cX12_findsFits 76 = .ok (.baload, 1) := by decide +kernel
theorem dX12_findsFits_77 : decode cX12_findsFits 77 = .ok (.ifCond .eq 29, 3) := by decide +kernel
theorem dX12_findsFits_106 : decode cX12_findsFits 106 = .ok (.iconst 0, 1) := by decide +kernel
theorem dX12_findsFits_107 : decode cX12_findsFits 107 = .ok (.bastore, 1) := by decide +kernel
theorem dX12_findsFits_108 : decode cX12_findsFits 108 = .ok (.iinc 2 1, 3) := by decide +kernel
theorem dX12_findsFits_111 : decode cX12_findsFits 111 = .ok (.goto (-53), 3) := by decide +kernel
theorem dX12_findsFits_80 : decode cX12_findsFits 80 = .ok (.aload_n 0, 1) := by decide +kernel
theorem dX12_findsFits_81 : decode cX12_findsFits 81 = .ok (.getfield 85, 3) := by decide +kernel
theorem dX12_findsFits_84 : decode cX12_findsFits 84 = .ok (.iload_n 2, 1) := by decide +kernel
theorem dX12_findsFits_85 : decode cX12_findsFits 85 = .ok (.iaload, 1) := by decide +kernel
theorem dX12_findsFits_86 : decode cX12_findsFits 86 = .ok (.aload_n 0, 1) := by decide +kernel
theorem dX12_findsFits_87 : decode cX12_findsFits 87 = .ok (.getfield 20, 3) := by decide +kernel
theorem dX12_findsFits_90 : decode cX12_findsFits 90 = .ok (.bipush 47, 2) := by decide +kernel
theorem dX12_findsFits_92 : decode cX12_findsFits 92 = .ok (.iconst 2, 1) := by decide +kernel
theorem dX12_findsFits_93 : decode cX12_findsFits 93 = .ok (.iload_n 1, 1) := by decide +kernel
theorem dX12_findsFits_94 : decode cX12_findsFits 94 = .ok (.imul, 1) := by decide +kernel
theorem dX12_findsFits_95 : decode cX12_findsFits 95 = .ok (.iadd, 1) := by decide +kernel
theorem dX12_findsFits_96 : decode cX12_findsFits 96 = .ok (.iconst 1, 1) := by decide +kernel
theorem dX12_findsFits_97 : decode cX12_findsFits 97 = .ok (.iadd, 1) := by decide +kernel
theorem dX12_findsFits_98 : decode cX12_findsFits 98 = .ok (.iaload, 1) := by decide +kernel
theorem dX12_findsFits_99 : decode cX12_findsFits 99 = .ok (.if_icmp .ne 7, 3) := by decide +kernel
theorem dX12_findsFits_102 : decode cX12_findsFits 102 = .ok (.iconst 1, 1) := by decide +kernel
theorem dX12_findsFits_103 : decode cX12_findsFits 103 = .ok (.goto 4, 3) := by decide +kernel
theorem dX12_findsFits_14 : decode cX12_findsFits 14 = .ok (.aload_n 0, 1) := by decide +kernel
theorem dX12_findsFits_15 : decode cX12_findsFits 15 = .ok (.getfield 123, 3) := by decide +kernel
theorem dX12_findsFits_18 : decode cX12_findsFits 18 = .ok (.iload_n 1, 1) := by decide +kernel
theorem dX12_findsFits_19 : decode cX12_findsFits 19 = .ok (.iconst 1, 1) := by decide +kernel
theorem dX12_findsFits_20 : decode cX12_findsFits 20 = .ok (.bastore, 1) := by decide +kernel
theorem dX12_findsFits_21 : decode cX12_findsFits 21 = .ok (.iinc 1 1, 3) := by decide +kernel
theorem dX12_findsFits_24 : decode cX12_findsFits 24 = .ok (.goto (-18), 3) := by decide +kernel
theorem dX12_fits_0 : decode cX12_fits 0 = .ok (.aload_n 0, 1) := by decide +kernel
theorem dX12_fits_1 : decode cX12_fits 1 = .ok (.invokevirtual 363, 3) := by decide +kernel
theorem dX12_fits_4 : decode cX12_fits 4 = .ok (.istore_n 2, 1) := by decide +kernel
theorem dX12_fits_5 : decode cX12_fits 5 = .ok (.iload_n 1, 1) := by decide +kernel
theorem dX12_fits_6 : decode cX12_fits 6 = .ok (.iconst (-1), 1) := by decide +kernel
theorem dX12_fits_7 : decode cX12_fits 7 = .ok (.if_icmp .ne 5, 3) := by decide +kernel
theorem dX12_fits_12 : decode cX12_fits 12 = .ok (.iload_n 1, 1) := by decide +kernel
theorem dX12_fits_13 : decode cX12_fits 13 = .ok (.iconst 0, 1) := by decide +kernel
theorem dX12_fits_14 : decode cX12_fits 14 = .ok (.iload_n 2, 1) := by decide +kernel
theorem dX12_fits_15 : decode cX12_fits 15 = .ok (.iconst 1, 1) := by decide +kernel
theorem dX12_fits_16 : decode cX12_fits 16 = .ok (.isub, 1) := by decide +kernel
theorem dX12_fits_17 : decode cX12_fits 17 = .ok (.invokestatic 138, 3) := by decide +kernel
theorem dX12_fits_20 : decode cX12_fits 20 = .ok (.ifCond .ne 5, 3) := by decide +kernel
theorem dX12_fits_25 : decode cX12_fits 25 = .ok (.iload_n 1, 1) := by decide +kernel
theorem dX12_fits_26 : decode cX12_fits 26 = .ok (.istore_n 3, 1) := by decide +kernel
theorem dX12_fits_27 : decode cX12_fits 27 = .ok (.iconst 0, 1) := by decide +kernel
theorem dX12_fits_28 : decode cX12_fits 28 = .ok (.istore 4, 2) := by decide +kernel
theorem dX12_fits_30 : decode cX12_fits 30 = .ok (.iload 4, 2) := by decide +kernel
theorem dX12_fits_32 : decode cX12_fits 32 = .ok (.aload_n 0, 1) := by decide +kernel
theorem dX12_fits_33 : decode cX12_fits 33 = .ok (.getfield 298, 3) := by decide +kernel
theorem dX12_fits_36 : decode cX12_fits 36 = .ok (.if_icmp .ge 32, 3) := by decide +kernel
theorem dX12_fits_68 : decode cX12_fits 68 = .ok (.iconst (-1), 1) := by decide +kernel
theorem dX12_fits_69 : decode cX12_fits 69 = .ok (.ireturn, 1) := by decide +kernel
theorem dX12_fits_39 : decode cX12_fits 39 = .ok (.aload_n 0, 1) := by decide +kernel
theorem dX12_fits_40 : decode cX12_fits 40 = .ok (.getfield 123, 3) := by decide +kernel
theorem dX12_fits_43 : decode cX12_fits 43 = .ok (.iload 4, 2) := by decide +kernel
theorem dX12_fits_45 : decode cX12_fits 45 = .ok (.baload, 1) := by decide +kernel
theorem dX12_fits_46 : decode cX12_fits 46 = .ok (.ifCond .ne 6, 3) := by decide +kernel
theorem dX12_fits_52 : decode cX12_fits 52 = .ok (.iload_n 3, 1) := by decide +kernel
theorem dX12_fits_53 : decode cX12_fits 53 = .ok (.ifCond .ne 6, 3) := by decide +kernel
theorem dX12_fits_59 : decode cX12_fits 59 = .ok (.iinc 3 (-1), 3) := by decide +kernel
theorem dX12_fits_62 : decode cX12_fits 62 = .ok (.iinc 4 1, 3) := by decide +kernel
theorem dX12_fits_65 : decode cX12_fits 65 = .ok (.goto (-35), 3) := by decide +kernel
theorem dX12_fits_56 : decode cX12_fits 56 = .ok (.iload 4, 2) := by decide +kernel
theorem dX12_fits_58 : decode cX12_fits 58 = .ok (.ireturn, 1) := by decide +kernel
theorem dX12_fits_49 : decode cX12_fits 49 = .ok (.goto 13, 3) := by decide +kernel
theorem dX12_fits_23 : decode cX12_fits 23 = .ok (.iconst (-1), 1) := by decide +kernel
theorem dX12_fits_24 : decode cX12_fits 24 = .ok (.ireturn, 1) := by decide +kernel
theorem dX12_fits_10 : decode cX12_fits 10 = .ok (.iload_n 2, 1) := by decide +kernel
theorem dX12_fits_11 : decode cX12_fits 11 = .ok (.ireturn, 1) := by decide +kernel
theorem dX12_ask_0 : decode cX12_ask 0 = .ok (.iload_n 1, 1) := by decide +kernel
theorem dX12_ask_1 : decode cX12_ask 1 = .ok (.iconst 0, 1) := by decide +kernel
theorem dX12_ask_2 : decode cX12_ask 2 = .ok (.iconst 1, 1) := by decide +kernel
theorem dX12_ask_3 : decode cX12_ask 3 = .ok (.invokestatic 138, 3) := by decide +kernel
theorem dX12_ask_6 : decode cX12_ask 6 = .ok (.ifCond .eq 10, 3) := by decide +kernel
theorem dX12_ask_9 : decode cX12_ask 9 = .ok (.aload_n 0, 1) := by decide +kernel
theorem dX12_ask_10 : decode cX12_ask 10 = .ok (.invokevirtual 363, 3) := by decide +kernel
theorem dX12_ask_13 : decode cX12_ask 13 = .ok (.ifCond .ne 5, 3) := by decide +kernel
theorem dX12_ask_18 : decode cX12_ask 18 = .ok (.iconst (-1), 1) := by decide +kernel
theorem dX12_ask_19 : decode cX12_ask 19 = .ok (.istore_n 2, 1) := by decide +kernel
theorem dX12_ask_20 : decode cX12_ask 20 = .ok (.ldc 179, 2) := by decide +kernel
theorem dX12_ask_22 : decode cX12_ask 22 = .ok (.istore_n 3, 1) := by decide +kernel
theorem dX12_ask_23 : decode cX12_ask 23 = .ok (.iconst 0, 1) := by decide +kernel
theorem dX12_ask_24 : decode cX12_ask 24 = .ok (.istore 4, 2) := by decide +kernel
theorem dX12_ask_26 : decode cX12_ask 26 = .ok (.iload 4, 2) := by decide +kernel
theorem dX12_ask_28 : decode cX12_ask 28 = .ok (.aload_n 0, 1) := by decide +kernel
theorem dX12_ask_29 : decode cX12_ask 29 = .ok (.getfield 298, 3) := by decide +kernel
theorem dX12_ask_32 : decode cX12_ask 32 = .ok (.if_icmp .ge 155, 3) := by decide +kernel
theorem dX12_ask_187 : decode cX12_ask 187 = .ok (.iload_n 1, 1) := by decide +kernel
theorem dX12_ask_188 : decode cX12_ask 188 = .ok (.ifCond .ne 7, 3) := by decide +kernel
theorem dX12_ask_195 : decode cX12_ask 195 = .ok (.iload_n 3, 1) := by decide +kernel
theorem dX12_ask_196 : decode cX12_ask 196 = .ok (.ireturn, 1) := by decide +kernel
theorem dX12_ask_191 : decode cX12_ask 191 = .ok (.iload_n 2, 1) := by decide +kernel
theorem dX12_ask_192 : decode cX12_ask 192 = .ok (.goto 4, 3) := by decide +kernel
theorem dX12_ask_35 : decode cX12_ask 35 = .ok (.aload_n 0, 1) := by decide +kernel
theorem dX12_ask_36 : decode cX12_ask 36 = .ok (.iload 4, 2) := by decide +kernel
theorem dX12_ask_38 : decode cX12_ask 38 = .ok (.invokevirtual 334, 3) := by decide +kernel
theorem dX12_ask_41 : decode cX12_ask 41 = .ok (.pop, 1) := by decide +kernel
theorem dX12_ask_42 : decode cX12_ask 42 = .ok (.iconst 0, 1) := by decide +kernel
theorem dX12_ask_43 : decode cX12_ask 43 = .ok (.istore 5, 2) := by decide +kernel
theorem dX12_ask_45 : decode cX12_ask 45 = .ok (.iload 5, 2) := by decide +kernel
theorem dX12_ask_47 : decode cX12_ask 47 = .ok (.aload_n 0, 1) := by decide +kernel
theorem dX12_ask_48 : decode cX12_ask 48 = .ok (.getfield 298, 3) := by decide +kernel
theorem dX12_ask_51 : decode cX12_ask 51 = .ok (.if_icmp .gt 17, 3) := by decide +kernel
theorem dX12_ask_68 : decode cX12_ask 68 = .ok (.iconst 0, 1) := by decide +kernel
theorem dX12_ask_69 : decode cX12_ask 69 = .ok (.istore 5, 2) := by decide +kernel
theorem dX12_ask_71 : decode cX12_ask 71 = .ok (.iconst 0, 1) := by decide +kernel
theorem dX12_ask_72 : decode cX12_ask 72 = .ok (.istore 6, 2) := by decide +kernel
theorem dX12_ask_74 : decode cX12_ask 74 = .ok (.iload 6, 2) := by decide +kernel
theorem dX12_ask_76 : decode cX12_ask 76 = .ok (.aload_n 0, 1) := by decide +kernel
theorem dX12_ask_77 : decode cX12_ask 77 = .ok (.getfield 298, 3) := by decide +kernel
theorem dX12_ask_80 : decode cX12_ask 80 = .ok (.if_icmp .ge 86, 3) := by decide +kernel
theorem dX12_ask_166 : decode cX12_ask 166 = .ok (.iload 5, 2) := by decide +kernel
theorem dX12_ask_168 : decode cX12_ask 168 = .ok (.iload_n 3, 1) := by decide +kernel
theorem dX12_ask_169 : decode cX12_ask 169 = .ok (.if_icmp .lt 6, 3) := by decide +kernel
theorem dX12_ask_175 : decode cX12_ask 175 = .ok (.iload 5, 2) := by decide +kernel
theorem dX12_ask_177 : decode cX12_ask 177 = .ok (.istore_n 3, 1) := by decide +kernel
theorem dX12_ask_178 : decode cX12_ask 178 = .ok (.iload 4, 2) := by decide +kernel
theorem dX12_ask_180 : decode cX12_ask 180 = .ok (.istore_n 2, 1) := by decide +kernel
theorem dX12_ask_181 : decode cX12_ask 181 = .ok (.iinc 4 1, 3) := by decide +kernel
theorem dX12_ask_184 : decode cX12_ask 184 = .ok (.goto (-158), 3) := by decide +kernel
theorem dX12_ask_172 : decode cX12_ask 172 = .ok (.goto 9, 3) := by decide +kernel
theorem dX12_ask_83 : decode cX12_ask 83 = .ok (.aload_n 0, 1) := by decide +kernel
theorem dX12_ask_84 : decode cX12_ask 84 = .ok (.getfield 123, 3) := by decide +kernel
theorem dX12_ask_87 : decode cX12_ask 87 = .ok (.iload 6, 2) := by decide +kernel
theorem dX12_ask_89 : decode cX12_ask 89 = .ok (.baload, 1) := by decide +kernel
theorem dX12_ask_90 : decode cX12_ask 90 = .ok (.ifCond .ne 6, 3) := by decide +kernel
theorem dX12_ask_96 : decode cX12_ask 96 = .ok (.aload_n 0, 1) := by decide +kernel
theorem dX12_ask_97 : decode cX12_ask 97 = .ok (.getfield 85, 3) := by decide +kernel
theorem dX12_ask_100 : decode cX12_ask 100 = .ok (.iload 6, 2) := by decide +kernel
theorem dX12_ask_102 : decode cX12_ask 102 = .ok (.iaload, 1) := by decide +kernel
theorem dX12_ask_103 : decode cX12_ask 103 = .ok (.iconst (-1), 1) := by decide +kernel
theorem dX12_ask_104 : decode cX12_ask 104 = .ok (.if_icmp .ne 10, 3) := by decide +kernel
theorem dX12_ask_114 : decode cX12_ask 114 = .ok (.aload_n 0, 1) := by decide +kernel
theorem dX12_ask_115 : decode cX12_ask 115 = .ok (.getfield 85, 3) := by decide +kernel
theorem dX12_ask_118 : decode cX12_ask 118 = .ok (.iload 6, 2) := by decide +kernel
theorem dX12_ask_120 : decode cX12_ask 120 = .ok (.iaload, 1) := by decide +kernel
theorem dX12_ask_121 : decode cX12_ask 121 = .ok (.istore 7, 2) := by decide +kernel
theorem dX12_ask_123 : decode cX12_ask 123 = .ok (.aload_n 0, 1) := by decide +kernel
theorem dX12_ask_124 : decode cX12_ask 124 = .ok (.getfield 126, 3) := by decide +kernel
theorem dX12_ask_127 : decode cX12_ask 127 = .ok (.iload 7, 2) := by decide +kernel
theorem dX12_ask_129 : decode cX12_ask 129 = .ok (.dup2, 1) := by decide +kernel
theorem dX12_ask_130 : decode cX12_ask 130 = .ok (.iaload, 1) := by decide +kernel
theorem dX12_ask_131 : decode cX12_ask 131 = .ok (.iconst 1, 1) := by decide +kernel
theorem dX12_ask_132 : decode cX12_ask 132 = .ok (.iadd, 1) := by decide +kernel
theorem dX12_ask_133 : decode cX12_ask 133 = .ok (.iastore, 1) := by decide +kernel
theorem dX12_ask_134 : decode cX12_ask 134 = .ok (.aload_n 0, 1) := by decide +kernel
theorem dX12_ask_135 : decode cX12_ask 135 = .ok (.getfield 126, 3) := by decide +kernel
theorem dX12_ask_138 : decode cX12_ask 138 = .ok (.iload 7, 2) := by decide +kernel
theorem dX12_ask_140 : decode cX12_ask 140 = .ok (.iaload, 1) := by decide +kernel
theorem dX12_ask_141 : decode cX12_ask 141 = .ok (.iload 5, 2) := by decide +kernel
theorem dX12_ask_143 : decode cX12_ask 143 = .ok (.if_icmp .le 13, 3) := by decide +kernel
theorem dX12_ask_156 : decode cX12_ask 156 = .ok (.iload 5, 2) := by decide +kernel
theorem dX12_ask_158 : decode cX12_ask 158 = .ok (.istore 5, 2) := by decide +kernel
theorem dX12_ask_160 : decode cX12_ask 160 = .ok (.iinc 6 1, 3) := by decide +kernel
theorem dX12_ask_163 : decode cX12_ask 163 = .ok (.goto (-89), 3) := by decide +kernel
theorem dX12_ask_146 : decode cX12_ask 146 = .ok (.aload_n 0, 1) := by decide +kernel
theorem dX12_ask_147 : decode cX12_ask 147 = .ok (.getfield 126, 3) := by decide +kernel
theorem dX12_ask_150 : decode cX12_ask 150 = .ok (.iload 7, 2) := by decide +kernel
theorem dX12_ask_152 : decode cX12_ask 152 = .ok (.iaload, 1) := by decide +kernel
theorem dX12_ask_153 : decode cX12_ask 153 = .ok (.goto 5, 3) := by decide +kernel
theorem dX12_ask_107 : decode cX12_ask 107 = .ok (.aload_n 0, 1) := by decide +kernel
theorem dX12_ask_108 : decode cX12_ask 108 = .ok (.getfield 298, 3) := by decide +kernel
theorem dX12_ask_111 : decode cX12_ask 111 = .ok (.goto 10, 3) := by decide +kernel
theorem dX12_ask_93 : decode cX12_ask 93 = .ok (.goto 67, 3) := by decide +kernel
theorem dX12_ask_54 : decode cX12_ask 54 = .ok (.aload_n 0, 1) := by decide +kernel
theorem dX12_ask_55 : decode cX12_ask 55 = .ok (.getfield 126, 3) := by decide +kernel
theorem dX12_ask_58 : decode cX12_ask 58 = .ok (.iload 5, 2) := by decide +kernel
theorem dX12_ask_60 : decode cX12_ask 60 = .ok (.iconst 0, 1) := by decide +kernel
theorem dX12_ask_61 : decode cX12_ask 61 = .ok (.iastore, 1) := by decide +kernel
theorem dX12_ask_62 : decode cX12_ask 62 = .ok (.iinc 5 1, 3) := by decide +kernel
theorem dX12_ask_65 : decode cX12_ask 65 = .ok (.goto (-20), 3) := by decide +kernel
theorem dX12_ask_16 : decode cX12_ask 16 = .ok (.iconst (-1), 1) := by decide +kernel
theorem dX12_ask_17 : decode cX12_ask 17 = .ok (.ireturn, 1) := by decide +kernel
theorem dX12_draws_0 : decode cX12_draws 0 = .ok (.aload_n 0, 1) := by decide +kernel
theorem dX12_draws_1 : decode cX12_draws 1 = .ok (.ldc2_w 366, 3) := by decide +kernel
theorem dX12_draws_4 : decode cX12_draws 4 = .ok (.aload_n 0, 1) := by decide +kernel
theorem dX12_draws_5 : decode cX12_draws 5 = .ok (.getfield 368, 3) := by decide +kernel
theorem dX12_draws_8 : decode cX12_draws 8 = .ok (.i2l, 1) := by decide +kernel
theorem dX12_draws_9 : decode cX12_draws 9 = .ok (.lmul, 1) := by decide +kernel
theorem dX12_draws_10 : decode cX12_draws 10 = .ok (.ldc2_w 371, 3) := by decide +kernel
theorem dX12_draws_13 : decode cX12_draws 13 = .ok (.ladd, 1) := by decide +kernel
theorem dX12_draws_14 : decode cX12_draws 14 = .ok (.ldc2_w 373, 3) := by decide +kernel
theorem dX12_draws_17 : decode cX12_draws 17 = .ok (.lrem, 1) := by decide +kernel
theorem dX12_draws_18 : decode cX12_draws 18 = .ok (.l2i, 1) := by decide +kernel
theorem dX12_draws_19 : decode cX12_draws 19 = .ok (.putfield 368, 3) := by decide +kernel
theorem dX12_draws_22 : decode cX12_draws 22 = .ok (.aload_n 0, 1) := by decide +kernel
theorem dX12_draws_23 : decode cX12_draws 23 = .ok (.getfield 368, 3) := by decide +kernel
theorem dX12_draws_26 : decode cX12_draws 26 = .ok (.iload_n 1, 1) := by decide +kernel
theorem dX12_draws_27 : decode cX12_draws 27 = .ok (.irem, 1) := by decide +kernel
theorem dX12_draws_28 : decode cX12_draws 28 = .ok (.ireturn, 1) := by decide +kernel
theorem dX12_status_0 : decode cX12_status 0 = .ok (.aload_n 0, 1) := by decide +kernel
theorem dX12_status_1 : decode cX12_status 1 = .ok (.getfield 3, 3) := by decide +kernel
theorem dX12_status_4 : decode cX12_status 4 = .ok (.ireturn, 1) := by decide +kernel
theorem dX12_fault_0 : decode cX12_fault 0 = .ok (.aload_n 0, 1) := by decide +kernel
theorem dX12_fault_1 : decode cX12_fault 1 = .ok (.getfield 40, 3) := by decide +kernel
theorem dX12_fault_4 : decode cX12_fault 4 = .ok (.ireturn, 1) := by decide +kernel
theorem dX12_drawn_0 : decode cX12_drawn 0 = .ok (.iload_n 1, 1) := by decide +kernel
theorem dX12_drawn_1 : decode cX12_drawn 1 = .ok (.iconst 0, 1) := by decide +kernel
theorem dX12_drawn_2 : decode cX12_drawn 2 = .ok (.aload_n 0, 1) := by decide +kernel
theorem dX12_drawn_3 : decode cX12_drawn 3 = .ok (.getfield 375, 3) := by decide +kernel
theorem dX12_drawn_6 : decode cX12_drawn 6 = .ok (.iconst 1, 1) := by decide +kernel
theorem dX12_drawn_7 : decode cX12_drawn 7 = .ok (.isub, 1) := by decide +kernel
theorem dX12_drawn_8 : decode cX12_drawn 8 = .ok (.invokestatic 138, 3) := by decide +kernel
theorem dX12_drawn_11 : decode cX12_drawn 11 = .ok (.ifCond .eq 12, 3) := by decide +kernel
theorem dX12_drawn_14 : decode cX12_drawn 14 = .ok (.aload_n 0, 1) := by decide +kernel
theorem dX12_drawn_15 : decode cX12_drawn 15 = .ok (.getfield 135, 3) := by decide +kernel
theorem dX12_drawn_18 : decode cX12_drawn 18 = .ok (.iload_n 1, 1) := by decide +kernel
theorem dX12_drawn_19 : decode cX12_drawn 19 = .ok (.iaload, 1) := by decide +kernel
theorem dX12_drawn_20 : decode cX12_drawn 20 = .ok (.goto 4, 3) := by decide +kernel
theorem dX12_drawn_24 : decode cX12_drawn 24 = .ok (.ireturn, 1) := by decide +kernel
theorem dX12_drawn_23 : decode cX12_drawn 23 = .ok (.iconst (-1), 1) := by decide +kernel
theorem dX12_count_0 : decode cX12_count 0 = .ok (.iload_n 1, 1) := by decide +kernel
theorem dX12_count_1 : decode cX12_count 1 = .ok (.tableswitch 189 0 18 #[91, 96, 96, 96, 96, 96, 107, 115, 123, 131, 139, 144, 144, 144, 154, 161, 169, 177, 177], 91) := by decide +kernel
theorem dX12_count_92 : decode cX12_count 92 = .ok (.aload_n 0, 1) := by decide +kernel
theorem dX12_count_93 : decode cX12_count 93 = .ok (.invokevirtual 149, 3) := by decide +kernel
theorem dX12_count_96 : decode cX12_count 96 = .ok (.ireturn, 1) := by decide +kernel
theorem dX12_count_97 : decode cX12_count 97 = .ok (.aload_n 0, 1) := by decide +kernel
theorem dX12_count_98 : decode cX12_count 98 = .ok (.getfield 20, 3) := by decide +kernel
theorem dX12_count_101 : decode cX12_count 101 = .ok (.iconst 0, 1) := by decide +kernel
theorem dX12_count_102 : decode cX12_count 102 = .ok (.iload_n 1, 1) := by decide +kernel
theorem dX12_count_103 : decode cX12_count 103 = .ok (.iadd, 1) := by decide +kernel
theorem dX12_count_104 : decode cX12_count 104 = .ok (.iconst 1, 1) := by decide +kernel
theorem dX12_count_105 : decode cX12_count 105 = .ok (.isub, 1) := by decide +kernel
theorem dX12_count_106 : decode cX12_count 106 = .ok (.iaload, 1) := by decide +kernel
theorem dX12_count_107 : decode cX12_count 107 = .ok (.ireturn, 1) := by decide +kernel
theorem dX12_count_108 : decode cX12_count 108 = .ok (.aload_n 0, 1) := by decide +kernel
theorem dX12_count_109 : decode cX12_count 109 = .ok (.getfield 20, 3) := by decide +kernel
theorem dX12_count_112 : decode cX12_count 112 = .ok (.bipush 62, 2) := by decide +kernel
theorem dX12_count_114 : decode cX12_count 114 = .ok (.iaload, 1) := by decide +kernel
theorem dX12_count_115 : decode cX12_count 115 = .ok (.ireturn, 1) := by decide +kernel
theorem dX12_count_116 : decode cX12_count 116 = .ok (.aload_n 0, 1) := by decide +kernel
theorem dX12_count_117 : decode cX12_count 117 = .ok (.getfield 20, 3) := by decide +kernel
theorem dX12_count_120 : decode cX12_count 120 = .ok (.bipush 59, 2) := by decide +kernel
theorem dX12_count_122 : decode cX12_count 122 = .ok (.iaload, 1) := by decide +kernel
theorem dX12_count_123 : decode cX12_count 123 = .ok (.ireturn, 1) := by decide +kernel
theorem dX12_count_124 : decode cX12_count 124 = .ok (.aload_n 0, 1) := by decide +kernel
theorem dX12_count_125 : decode cX12_count 125 = .ok (.getfield 20, 3) := by decide +kernel
theorem dX12_count_128 : decode cX12_count 128 = .ok (.bipush 61, 2) := by decide +kernel
theorem dX12_count_130 : decode cX12_count 130 = .ok (.iaload, 1) := by decide +kernel
theorem dX12_count_131 : decode cX12_count 131 = .ok (.ireturn, 1) := by decide +kernel
theorem dX12_count_132 : decode cX12_count 132 = .ok (.aload_n 0, 1) := by decide +kernel
theorem dX12_count_133 : decode cX12_count 133 = .ok (.getfield 20, 3) := by decide +kernel
theorem dX12_count_136 : decode cX12_count 136 = .ok (.bipush 60, 2) := by decide +kernel
theorem dX12_count_138 : decode cX12_count 138 = .ok (.iaload, 1) := by decide +kernel
theorem dX12_count_139 : decode cX12_count 139 = .ok (.ireturn, 1) := by decide +kernel
theorem dX12_count_140 : decode cX12_count 140 = .ok (.aload_n 0, 1) := by decide +kernel
theorem dX12_count_141 : decode cX12_count 141 = .ok (.getfield 156, 3) := by decide +kernel
theorem dX12_count_144 : decode cX12_count 144 = .ok (.ireturn, 1) := by decide +kernel
theorem dX12_count_145 : decode cX12_count 145 = .ok (.aload_n 0, 1) := by decide +kernel
theorem dX12_count_146 : decode cX12_count 146 = .ok (.getfield 7, 3) := by decide +kernel
theorem dX12_count_149 : decode cX12_count 149 = .ok (.iload_n 1, 1) := by decide +kernel
theorem dX12_count_150 : decode cX12_count 150 = .ok (.bipush 10, 2) := by decide +kernel
theorem dX12_count_152 : decode cX12_count 152 = .ok (.isub, 1) := by decide +kernel
theorem dX12_count_153 : decode cX12_count 153 = .ok (.iaload, 1) := by decide +kernel
theorem dX12_count_154 : decode cX12_count 154 = .ok (.ireturn, 1) := by decide +kernel
theorem dX12_count_155 : decode cX12_count 155 = .ok (.aload_n 0, 1) := by decide +kernel
theorem dX12_count_156 : decode cX12_count 156 = .ok (.getfield 7, 3) := by decide +kernel
theorem dX12_count_159 : decode cX12_count 159 = .ok (.iconst 5, 1) := by decide +kernel
theorem dX12_count_160 : decode cX12_count 160 = .ok (.iaload, 1) := by decide +kernel
theorem dX12_count_161 : decode cX12_count 161 = .ok (.ireturn, 1) := by decide +kernel
theorem dX12_count_162 : decode cX12_count 162 = .ok (.aload_n 0, 1) := by decide +kernel
theorem dX12_count_163 : decode cX12_count 163 = .ok (.getfield 7, 3) := by decide +kernel
theorem dX12_count_166 : decode cX12_count 166 = .ok (.bipush 6, 2) := by decide +kernel
theorem dX12_count_168 : decode cX12_count 168 = .ok (.iaload, 1) := by decide +kernel
theorem dX12_count_169 : decode cX12_count 169 = .ok (.ireturn, 1) := by decide +kernel
theorem dX12_count_170 : decode cX12_count 170 = .ok (.aload_n 0, 1) := by decide +kernel
theorem dX12_count_171 : decode cX12_count 171 = .ok (.getfield 20, 3) := by decide +kernel
theorem dX12_count_174 : decode cX12_count 174 = .ok (.bipush 63, 2) := by decide +kernel
theorem dX12_count_176 : decode cX12_count 176 = .ok (.iaload, 1) := by decide +kernel
theorem dX12_count_177 : decode cX12_count 177 = .ok (.ireturn, 1) := by decide +kernel
theorem dX12_count_178 : decode cX12_count 178 = .ok (.aload_n 0, 1) := by decide +kernel
theorem dX12_count_179 : decode cX12_count 179 = .ok (.getfield 20, 3) := by decide +kernel
theorem dX12_count_182 : decode cX12_count 182 = .ok (.iconst 5, 1) := by decide +kernel
theorem dX12_count_183 : decode cX12_count 183 = .ok (.iload_n 1, 1) := by decide +kernel
theorem dX12_count_184 : decode cX12_count 184 = .ok (.iadd, 1) := by decide +kernel
theorem dX12_count_185 : decode cX12_count 185 = .ok (.bipush 17, 2) := by decide +kernel
theorem dX12_count_187 : decode cX12_count 187 = .ok (.isub, 1) := by decide +kernel
theorem dX12_count_188 : decode cX12_count 188 = .ok (.iaload, 1) := by decide +kernel
theorem dX12_count_189 : decode cX12_count 189 = .ok (.ireturn, 1) := by decide +kernel
theorem dX12_count_190 : decode cX12_count 190 = .ok (.iconst (-1), 1) := by decide +kernel
theorem dX12_count_191 : decode cX12_count 191 = .ok (.ireturn, 1) := by decide +kernel
theorem dX12_drunk_0 : decode cX12_drunk 0 = .ok (.iload_n 1, 1) := by decide +kernel
theorem dX12_drunk_1 : decode cX12_drunk 1 = .ok (.iconst 0, 1) := by decide +kernel
theorem dX12_drunk_2 : decode cX12_drunk 2 = .ok (.ldc 179, 2) := by decide +kernel
theorem dX12_drunk_4 : decode cX12_drunk 4 = .ok (.invokestatic 138, 3) := by decide +kernel
theorem dX12_drunk_7 : decode cX12_drunk 7 = .ok (.ifCond .eq 14, 3) := by decide +kernel
theorem dX12_drunk_10 : decode cX12_drunk 10 = .ok (.iload_n 3, 1) := by decide +kernel
theorem dX12_drunk_11 : decode cX12_drunk 11 = .ok (.iconst 0, 1) := by decide +kernel
theorem dX12_drunk_12 : decode cX12_drunk 12 = .ok (.sipush 500, 3) := by decide +kernel
theorem dX12_drunk_15 : decode cX12_drunk 15 = .ok (.invokestatic 138, 3) := by decide +kernel
theorem dX12_drunk_18 : decode cX12_drunk 18 = .ok (.ifCond .ne 9, 3) := by decide +kernel
theorem dX12_drunk_27 : decode cX12_drunk 27 = .ok (.aload_n 0, 1) := by decide +kernel
theorem dX12_drunk_28 : decode cX12_drunk 28 = .ok (.iload_n 2, 1) := by decide +kernel
theorem dX12_drunk_29 : decode cX12_drunk 29 = .ok (.invokevirtual 325, 3) := by decide +kernel
theorem dX12_drunk_32 : decode cX12_drunk 32 = .ok (.ifCond .ne 10, 3) := by decide +kernel
theorem dX12_drunk_42 : decode cX12_drunk 42 = .ok (.aload_n 0, 1) := by decide +kernel
theorem dX12_drunk_43 : decode cX12_drunk 43 = .ok (.invokevirtual 328, 3) := by decide +kernel
theorem dX12_drunk_46 : decode cX12_drunk 46 = .ok (.aload_n 0, 1) := by decide +kernel
theorem dX12_drunk_47 : decode cX12_drunk 47 = .ok (.iload_n 1, 1) := by decide +kernel
theorem dX12_drunk_48 : decode cX12_drunk 48 = .ok (.putfield 368, 3) := by decide +kernel
theorem dX12_drunk_51 : decode cX12_drunk 51 = .ok (.aload_n 0, 1) := by decide +kernel
theorem dX12_drunk_52 : decode cX12_drunk 52 = .ok (.aload_n 0, 1) := by decide +kernel
theorem dX12_drunk_53 : decode cX12_drunk 53 = .ok (.getfield 298, 3) := by decide +kernel
theorem dX12_drunk_56 : decode cX12_drunk 56 = .ok (.putfield 375, 3) := by decide +kernel
theorem dX12_drunk_59 : decode cX12_drunk 59 = .ok (.iconst 0, 1) := by decide +kernel
theorem dX12_drunk_60 : decode cX12_drunk 60 = .ok (.istore 4, 2) := by decide +kernel
theorem dX12_drunk_62 : decode cX12_drunk 62 = .ok (.iload 4, 2) := by decide +kernel
theorem dX12_drunk_64 : decode cX12_drunk 64 = .ok (.aload_n 0, 1) := by decide +kernel
theorem dX12_drunk_65 : decode cX12_drunk 65 = .ok (.getfield 298, 3) := by decide +kernel
theorem dX12_drunk_68 : decode cX12_drunk 68 = .ok (.if_icmp .ge 17, 3) := by decide +kernel
theorem dX12_drunk_85 : decode cX12_drunk 85 = .ok (.iload_n 2, 1) := by decide +kernel
theorem dX12_drunk_86 : decode cX12_drunk 86 = .ok (.istore 4, 2) := by decide +kernel
theorem dX12_drunk_88 : decode cX12_drunk 88 = .ok (.aload_n 0, 1) := by decide +kernel
theorem dX12_drunk_89 : decode cX12_drunk 89 = .ok (.getfield 135, 3) := by decide +kernel
theorem dX12_drunk_92 : decode cX12_drunk 92 = .ok (.iload 4, 2) := by decide +kernel
theorem dX12_drunk_94 : decode cX12_drunk 94 = .ok (.dup2, 1) := by decide +kernel
theorem dX12_drunk_95 : decode cX12_drunk 95 = .ok (.iaload, 1) := by decide +kernel
theorem dX12_drunk_96 : decode cX12_drunk 96 = .ok (.iconst 1, 1) := by decide +kernel
theorem dX12_drunk_97 : decode cX12_drunk 97 = .ok (.iadd, 1) := by decide +kernel
theorem dX12_drunk_98 : decode cX12_drunk 98 = .ok (.iastore, 1) := by decide +kernel
theorem dX12_drunk_99 : decode cX12_drunk 99 = .ok (.iconst 0, 1) := by decide +kernel
theorem dX12_drunk_100 : decode cX12_drunk 100 = .ok (.istore 5, 2) := by decide +kernel
theorem dX12_drunk_102 : decode cX12_drunk 102 = .ok (.iload 5, 2) := by decide +kernel
theorem dX12_drunk_104 : decode cX12_drunk 104 = .ok (.iload_n 3, 1) := by decide +kernel
theorem dX12_drunk_105 : decode cX12_drunk 105 = .ok (.if_icmp .ge 54, 3) := by decide +kernel
theorem dX12_drunk_159 : decode cX12_drunk 159 = .ok (.aload_n 0, 1) := by decide +kernel
theorem dX12_drunk_160 : decode cX12_drunk 160 = .ok (.iload 4, 2) := by decide +kernel
theorem dX12_drunk_162 : decode cX12_drunk 162 = .ok (.invokevirtual 146, 3) := by decide +kernel
theorem dX12_drunk_165 : decode cX12_drunk 165 = .ok (.ireturn, 1) := by decide +kernel
theorem dX12_drunk_108 : decode cX12_drunk 108 = .ok (.aload_n 0, 1) := by decide +kernel
theorem dX12_drunk_109 : decode cX12_drunk 109 = .ok (.getfield 67, 3) := by decide +kernel
theorem dX12_drunk_112 : decode cX12_drunk 112 = .ok (.iload 4, 2) := by decide +kernel
theorem dX12_drunk_114 : decode cX12_drunk 114 = .ok (.iaload, 1) := by decide +kernel
theorem dX12_drunk_115 : decode cX12_drunk 115 = .ok (.ifCond .le 27, 3) := by decide +kernel
theorem dX12_drunk_142 : decode cX12_drunk 142 = .ok (.aload_n 0, 1) := by decide +kernel
theorem dX12_drunk_143 : decode cX12_drunk 143 = .ok (.getfield 135, 3) := by decide +kernel
theorem dX12_drunk_146 : decode cX12_drunk 146 = .ok (.iload 4, 2) := by decide +kernel
theorem dX12_drunk_148 : decode cX12_drunk 148 = .ok (.dup2, 1) := by decide +kernel
theorem dX12_drunk_149 : decode cX12_drunk 149 = .ok (.iaload, 1) := by decide +kernel
theorem dX12_drunk_150 : decode cX12_drunk 150 = .ok (.iconst 1, 1) := by decide +kernel
theorem dX12_drunk_151 : decode cX12_drunk 151 = .ok (.iadd, 1) := by decide +kernel
theorem dX12_drunk_152 : decode cX12_drunk 152 = .ok (.iastore, 1) := by decide +kernel
theorem dX12_drunk_153 : decode cX12_drunk 153 = .ok (.iinc 5 1, 3) := by decide +kernel
theorem dX12_drunk_156 : decode cX12_drunk 156 = .ok (.goto (-54), 3) := by decide +kernel
theorem dX12_drunk_118 : decode cX12_drunk 118 = .ok (.aload_n 0, 1) := by decide +kernel
theorem dX12_drunk_119 : decode cX12_drunk 119 = .ok (.getfield 61, 3) := by decide +kernel
theorem dX12_drunk_122 : decode cX12_drunk 122 = .ok (.bipush 22, 2) := by decide +kernel
theorem dX12_drunk_124 : decode cX12_drunk 124 = .ok (.iload 4, 2) := by decide +kernel
theorem dX12_drunk_126 : decode cX12_drunk 126 = .ok (.imul, 1) := by decide +kernel
theorem dX12_drunk_127 : decode cX12_drunk 127 = .ok (.aload_n 0, 1) := by decide +kernel
theorem dX12_drunk_128 : decode cX12_drunk 128 = .ok (.aload_n 0, 1) := by decide +kernel
theorem dX12_drunk_129 : decode cX12_drunk 129 = .ok (.getfield 67, 3) := by decide +kernel
theorem dX12_drunk_132 : decode cX12_drunk 132 = .ok (.iload 4, 2) := by decide +kernel
theorem dX12_drunk_134 : decode cX12_drunk 134 = .ok (.iaload, 1) := by decide +kernel
theorem dX12_drunk_135 : decode cX12_drunk 135 = .ok (.invokevirtual 378, 3) := by decide +kernel
theorem dX12_drunk_138 : decode cX12_drunk 138 = .ok (.iadd, 1) := by decide +kernel
theorem dX12_drunk_139 : decode cX12_drunk 139 = .ok (.iaload, 1) := by decide +kernel
theorem dX12_drunk_140 : decode cX12_drunk 140 = .ok (.istore 4, 2) := by decide +kernel
theorem dX12_drunk_71 : decode cX12_drunk 71 = .ok (.aload_n 0, 1) := by decide +kernel
theorem dX12_drunk_72 : decode cX12_drunk 72 = .ok (.getfield 135, 3) := by decide +kernel
theorem dX12_drunk_75 : decode cX12_drunk 75 = .ok (.iload 4, 2) := by decide +kernel
theorem dX12_drunk_77 : decode cX12_drunk 77 = .ok (.iconst 0, 1) := by decide +kernel
theorem dX12_drunk_78 : decode cX12_drunk 78 = .ok (.iastore, 1) := by decide +kernel
theorem dX12_drunk_79 : decode cX12_drunk 79 = .ok (.iinc 4 1, 3) := by decide +kernel
theorem dX12_drunk_82 : decode cX12_drunk 82 = .ok (.goto (-20), 3) := by decide +kernel
theorem dX12_drunk_35 : decode cX12_drunk 35 = .ok (.aload_n 0, 1) := by decide +kernel
theorem dX12_drunk_36 : decode cX12_drunk 36 = .ok (.bipush (-2), 2) := by decide +kernel
theorem dX12_drunk_38 : decode cX12_drunk 38 = .ok (.invokevirtual 142, 3) := by decide +kernel
theorem dX12_drunk_41 : decode cX12_drunk 41 = .ok (.ireturn, 1) := by decide +kernel
theorem dX12_drunk_21 : decode cX12_drunk 21 = .ok (.aload_n 0, 1) := by decide +kernel
theorem dX12_drunk_22 : decode cX12_drunk 22 = .ok (.iconst (-1), 1) := by decide +kernel
theorem dX12_drunk_23 : decode cX12_drunk 23 = .ok (.invokevirtual 142, 3) := by decide +kernel
theorem dX12_drunk_26 : decode cX12_drunk 26 = .ok (.ireturn, 1) := by decide +kernel
theorem v_ee60c78ede : (61 : Int) < 4870 := by omega
theorem v_1920de26d1 {a0 : Int} : 47 + (2 * a0) = 2 * a0 + 47 := by omega
theorem v_ad632c79b0 {a0 : Int} (h0 : 0 ≤ a0) : 0 ≤ 2 * a0 + 47 := by omega
theorem v_e3a02134cb {a0 a1 : Int} (h0 : a0 ≤ 6) (h1 : a1 ≤ a0) : 2 * a1 + 47 < 4870 := by omega
theorem v_1652f1a616 {a0 a1 a2 : Int} (h0 : a0 = a1) (h1 : a2 < a1) : a2 < a0 := by omega
theorem v_befdbcd050 {a0 : Int} : 2 * a0 + 47 + 1 = 2 * a0 + 48 := by omega
theorem v_48aecac2c6 {a0 : Int} (h0 : 0 ≤ a0) : 0 ≤ 2 * a0 + 48 := by omega
theorem v_3027c7ec56 {a0 a1 : Int} (h0 : a0 ≤ 6) (h1 : a1 ≤ a0) : 2 * a1 + 48 < 4870 := by omega
theorem v_db86af1b75 {a0 a1 : Int} (h0 : a0 ≤ 1260) (h1 : 0 ≤ a1) (h2 : a1 ≤ a0) : zr ((a1 - 1)) := by omega
theorem v_e32f4dd2e1 {a0 a1 a2 : Int} (h0 : a0 ≤ 1260) (h1 : a1 ≤ a0) (h2 : a2 ≤ (a1 - 1)) : a2 ≤ 1260 := by omega
theorem v_27adb7285f {a0 : Int} (h0 : 0 ≤ a0) : -1260 ≤ a0 + 0 := by omega
theorem v_f9e8dc6ff8 {a0 a1 a2 : Int} (h0 : a0 ≤ 1260) (h1 : a1 ≤ 1260) (h2 : -1260 ≤ a1 + a2) (h3 : ¬ a0 ≤ a2) : zr a1 := by omega
theorem v_837766ddeb {a0 : Int} (h0 : a0 ≤ 1260) : (a0 - 1) ≤ 1260 := by omega
theorem v_f317b1f1ac {a0 a1 : Int} (h0 : -1260 ≤ a0 + a1) : -1260 ≤ (a0 - 1) + (a1 + 1) := by omega
theorem v_e03644dc48 {a0 a1 : Int} (h0 : -1260 ≤ a0 + a1) : -1260 ≤ a0 + (a1 + 1) := by omega
theorem v_30efa75db2 {a0 : Int} (h0 : 1 ≤ a0) : 0 ≤ a0 + 1 := by omega
theorem v_91dbbcd35a {a0 a1 : Int} (h0 : a0 ≤ 1260) (h1 : 0 ≤ a1) (h2 : a1 ≤ a0 + 1) : zr a1 := by omega
theorem v_135523bb26 {a0 : Int} (h0 : a0 ≤ 1260) : a0 ≤ 1000000 := by omega
theorem v_174397be43 {a0 a1 : Int} (h0 : a0 ≤ a1 - 1) : a0 < a1 + 1 := by omega
theorem v_ee7ed464af {a0 a1 a2 a3 : Int} (h0 : a0 ≤ 1260) (h1 : ¬ a0 ≤ a1) (h2 : 0 ≤ a2) (h3 : a2 ≤ a1) (h4 : a3 = a2 + 1) : zr a3 := by omega
theorem v_444fd2bc2e {a0 a1 : Int} (h0 : a0 ≤ a1) : a0 + 1 ≤ a1 + 1 := by omega
theorem v_d39967efb8 {a0 a1 : Int} (h0 : 0 ≤ a0) (h1 : ¬ a1 ≤ a0) : 0 ≤ a1 := by omega
theorem v_707779d02c {a0 a1 a2 a3 : Int} (h0 : a0 ≤ 1260) (h1 : ¬ a0 ≤ a1) (h2 : a2 ≤ a1) (h3 : a3 = a2 + 1) : a3 ≤ 1260 := by omega
theorem v_d2d6c15858 {a0 : Int} (h0 : 0 ≤ a0) (h1 : a0 ≤ 1000003) : zr a0 := by omega
theorem v_2992af55c1 {a0 : Int} (h0 : 0 ≤ a0) (h1 : a0 ≤ 1000003) : zr64 ((1103 * a0 + 12345)) := by omega
theorem v_886e1772f5 : zr64 1000003 := by omega
theorem v_f9a2f6b189 {a0 : Int} (h0 : 0 ≤ a0) : 0 ≤ 1103 * a0 + 12345 := by omega
theorem v_4097a7b97a : (0 : Int) < 1000003 := by omega
theorem v_496157430d {a0 : Int} (h0 : 0 ≤ a0) (h1 : a0 < 1000003) : zr a0 := by omega
theorem v_0054323a56 {a0 : Int} (h0 : 1 ≤ a0) (h1 : a0 ≤ 22) : zr a0 := by omega
theorem v_7fe964b0ff {a0 : Int} (h0 : a0 < 1000003) : a0 ≤ 1000003 := by omega
theorem v_3c2aba2698 {a0 : Int} (h0 : 0 ≤ a0) (h1 : a0 ≤ 1260) : zr ((a0 - 1)) := by omega
theorem v_98e88a5ae1 {a0 a1 : Int} (h0 : a0 ≤ 1260) (h1 : a1 ≤ (a0 - 1)) : a1 < 1260 := by omega
theorem v_4f85b2b934 {a0 : Int} (h0 : a0 = 1) : 0 ≤ a0 - 1 := by omega
theorem v_2980a0e691 {a0 : Int} (h0 : a0 = 1) : a0 - 1 < 4870 := by omega
theorem v_67e34aa7fa {a0 : Int} (h0 : a0 = 2) : 0 ≤ a0 - 1 := by omega
theorem v_2cfa9e806b {a0 : Int} (h0 : a0 = 2) : a0 - 1 < 4870 := by omega
theorem v_0be71973b2 {a0 : Int} (h0 : a0 = 3) : 0 ≤ a0 - 1 := by omega
theorem v_45ebf1097f {a0 : Int} (h0 : a0 = 3) : a0 - 1 < 4870 := by omega
theorem v_a9a4958aea {a0 : Int} (h0 : a0 = 4) : 0 ≤ a0 - 1 := by omega
theorem v_c9f55578f0 {a0 : Int} (h0 : a0 = 4) : a0 - 1 < 4870 := by omega
theorem v_ed9086c6ba {a0 : Int} (h0 : a0 = 5) : 0 ≤ a0 - 1 := by omega
theorem v_492f510241 {a0 : Int} (h0 : a0 = 5) : a0 - 1 < 4870 := by omega
theorem v_1c3d7f81dc : (62 : Int) < 4870 := by omega
theorem v_e0fa6a9ceb {a0 : Int} (h0 : a0 = 8) : a0 = 8 := by omega
theorem v_953f52f1fe {a0 : Int} (h0 : a0 = 9) : a0 = 9 := by omega
theorem v_db2e89ee0b : (60 : Int) < 4870 := by omega
theorem v_a30286c0ef {a0 : Int} (h0 : a0 = 11) : a0 = 11 := by omega
theorem v_11f34355db {a0 : Int} (h0 : a0 = 11) : 0 ≤ a0 - 10 := by omega
theorem v_2f91656c17 {a0 : Int} (h0 : a0 = 11) : a0 - 10 < 7 := by omega
theorem v_7f42623cbd {a0 : Int} (h0 : a0 = 12) : a0 = 12 := by omega
theorem v_13cc6daa47 {a0 : Int} (h0 : a0 = 12) : 0 ≤ a0 - 10 := by omega
theorem v_18b126c8ef {a0 : Int} (h0 : a0 = 12) : a0 - 10 < 7 := by omega
theorem v_486f5fb9bb {a0 : Int} (h0 : a0 = 13) : a0 = 13 := by omega
theorem v_01f23894f3 {a0 : Int} (h0 : a0 = 13) : 0 ≤ a0 - 10 := by omega
theorem v_7ce0ed119e {a0 : Int} (h0 : a0 = 13) : a0 - 10 < 7 := by omega
theorem v_2ea180581b {a0 : Int} (h0 : a0 = 14) : a0 = 14 := by omega
theorem v_f5de102d41 : (5 : Int) < 7 := by omega
theorem v_bfb0711016 {a0 : Int} (h0 : a0 = 15) : a0 = 15 := by omega
theorem v_cb57b06e02 : (6 : Int) < 7 := by omega
theorem v_c5b5cc5484 {a0 : Int} (h0 : a0 = 16) : a0 = 16 := by omega
theorem v_b5b75bc3fa {a0 : Int} (h0 : a0 = 17) : a0 = 17 := by omega
theorem v_1676ffc731 {a0 : Int} : 5 + a0 = a0 + 5 := by omega
theorem v_f18b57e41c {a0 : Int} : a0 + 5 - 17 = a0 - 12 := by omega
theorem v_f3c1f34708 {a0 : Int} (h0 : a0 = 17) : 0 ≤ a0 - 12 := by omega
theorem v_dcd81cfa69 {a0 : Int} (h0 : a0 = 17) : a0 - 12 < 4870 := by omega
theorem v_79d75899e1 {a0 : Int} (h0 : a0 = 18) : a0 = 18 := by omega
theorem v_eb57f675cd {a0 : Int} (h0 : a0 = 18) : 0 ≤ a0 - 12 := by omega
theorem v_04a050ad86 {a0 : Int} (h0 : a0 = 18) : a0 - 12 < 4870 := by omega
theorem v_592b6f0a00 : zr 500 := by omega
theorem v_fcf9082196 {a0 a1 a2 a3 a4 : Int} (h0 : a0 = a1) (h1 : a2 < a0) (h2 : a3 = a1) (h3 : a3 ≤ a4) : a2 < a4 := by omega
theorem v_7843b869db {a0 : Int} (h0 : a0 ≤ 1000000) : a0 ≤ 1000003 := by omega
theorem v_43c9c4ae23 {a0 a1 : Int} (h0 : a0 ≤ 500) (h1 : 0 ≤ a1) (h2 : a1 ≤ a0) : zr a1 := by omega
theorem v_a4760d658d {a0 : Int} (h0 : 0 ≤ a0) (h1 : a0 ≤ 500) : zr a0 := by omega
theorem v_0a88acd510 {a0 a1 a2 a3 : Int} (h0 : a0 ≤ 1260) (h1 : a1 < a0) (h2 : a2 ≤ 22) (h3 : a3 < a2) : 22 * a1 + a3 < 27720 := by omega
theorem v_c15e852b74 : -(6 : Int) ≤ (-2) := by omega
theorem v_e7867eeafa : (-(2 : Int)) ≤ -1 := by omega
theorem v_ef59c9c3d8 : -(6 : Int) ≤ (-1) := by omega
theorem v_646fb950f3 : (-(1 : Int)) ≤ -1 := by omega
set_option maxHeartbeats 4000000 in
set_option maxRecDepth 100000 in
theorem k_findsFits {l : Launch} {G : jG} {nh : Nat} {fh : Nat → Option va_E} (ms : Int) (mv : Int) (mt : Int) (mfa : Int) (mtn : Int) (mtk : Int) (mlv : Int) (mbd : Int) (mgo : Int) (mge : Int) (mbk : Int) (mtt : Int) (mtl : Int) (hm : Int) (pm : Int) (hb : Int) (sb : Int) (mfu : Int) (mdm : Int) (mla : Int) (K : Int → Int) (co : Int → Int) (cd : Int → Int) (of : Int → Int) (st : Int → Int) (tk : Int → Int) (sm : Int → Int) (cf : Int → Int) (cm : Int → Int) (aq : Int → Int) (fa : Int → Int) (fm : Int → Int) (li : Int → Int) (fg : Int → Int) (q0 : KOK K) (q1 : Rg of 7 0 4) (q2 : zr hb) (q3 : zr mv) (q4 : hb = mv → HouT co cd K hm ∧ hm = Hi K ∧ pm = bsum K) (q5 : zr sb) (q6 : sb = mv → StM st tk sm (Hi K) ∧ CoM cf cm st sm (Hi K)) (q7 : hb ≤ mv) (q8 : sb ≤ mv) (q9 : 0 ≤ mbk) (q10 : mbk ≤ 1) (q11 : Rg aq 8 (-2147483648) 2147483647) (q12 : Rg fg 1260 0 1) (hk98 : fh 98 = some (.inr (12, (.int (zI ms) :: .int (zI mv) :: .ref 99 :: .ref 100 :: .ref 101 :: .ref 102 :: .ref 103 :: .ref 104 :: .ref 105 :: .int (zI mt) :: .int (zI mfa) :: .ref 106 :: .ref 107 :: .ref 108 :: .int (zI mtn) :: .int (zI mtk) :: .int (zI mlv) :: .int (zI mbd) :: .int (zI mgo) :: .int (zI mge) :: .int (zI mbk) :: .ref 109 :: .int (zI mtt) :: .int (zI mtl) :: .ref 110 :: .ref 111 :: .ref 112 :: .ref 113 :: .ref 114 :: .ref 115 :: .ref 116 :: .ref 117 :: .int (zI hm) :: .int (zI pm) :: .int (zI hb) :: .int (zI sb) :: .ref 118 :: .ref 119 :: .ref 120 :: .ref 121 :: .ref 122 :: .ref 123 :: .ref 124 :: .ref 125 :: .ref 126 :: .ref 127 :: .ref 128 :: .ref 129 :: .int (zI mfu) :: .ref 130 :: .ref 131 :: .ref 132 :: .ref 133 :: .ref 134 :: .int (zI mdm) :: .int (zI mla) :: [])))) (hk100 : fh 100 = some (.inl (0, 4870, .inl (zA K)))) (hk110 : fh 110 = some (.inl (0, 8820, .inl (zA co)))) (hk111 : fh 111 = some (.inl (0, 1260, .inl (zA cd)))) (hk117 : fh 117 = some (.inl (0, 7, .inl (zA of)))) (hk112 : fh 112 = some (.inl (0, 27720, .inl (zA st)))) (hk113 : fh 113 = some (.inl (0, 27720, .inl (zA tk)))) (hk114 : fh 114 = some (.inl (0, 1260, .inl (zA sm)))) (hk115 : fh 115 = some (.inl (0, 27720, .inl (zA cf)))) (hk116 : fh 116 = some (.inl (0, 1260, .inl (zA cm)))) (hk109 : fh 109 = some (.inl (0, 8, .inl (zA aq)))) (hk118 : fh 118 = some (.inl (0, 1260, .inl (zA fa)))) (hk119 : fh 119 = some (.inl (1, 1260, .inr (.inl (zAL fm))))) (hk120 : fh 120 = some (.inl (0, 1260, .inl (zA li)))) (hk130 : fh 130 = some (.inl (2, 1260, .inl (zA fg)))) : JM l G yX12_findsFits MX12_findsFits { frames := 43, cells := 0, slots := 0, locals := 1018 } [.ref 98] (nh, fh) (fun rr h9 => ∃ r : Int, ∃ hm2 : Int, ∃ pm2 : Int, ∃ hb2 : Int, ∃ co2 : Int → Int, ∃ cd2 : Int → Int, ∃ of2 : Int → Int, ∃ sb2 : Int, ∃ st2 : Int → Int, ∃ tk2 : Int → Int, ∃ sm2 : Int → Int, ∃ cf2 : Int → Int, ∃ cm2 : Int → Int, ∃ aq2 : Int → Int, ∃ go2 : Int, ∃ ge2 : Int, ∃ bk2 : Int, ∃ tt2 : Int, ∃ tl2 : Int, ∃ fa2 : Int → Int, ∃ fm2 : Int → Int, ∃ li2 : Int → Int, ∃ fg2 : Int → Int, rr = some (.int (zI r)) ∧ h9 = (nh, hc fh [(98, .inr (12, (.int (zI ms) :: .int (zI mv) :: .ref 99 :: .ref 100 :: .ref 101 :: .ref 102 :: .ref 103 :: .ref 104 :: .ref 105 :: .int (zI mt) :: .int (zI mfa) :: .ref 106 :: .ref 107 :: .ref 108 :: .int (zI mtn) :: .int (zI mtk) :: .int (zI mlv) :: .int (zI mbd) :: .int (zI go2) :: .int (zI ge2) :: .int (zI bk2) :: .ref 109 :: .int (zI tt2) :: .int (zI tl2) :: .ref 110 :: .ref 111 :: .ref 112 :: .ref 113 :: .ref 114 :: .ref 115 :: .ref 116 :: .ref 117 :: .int (zI hm2) :: .int (zI pm2) :: .int (zI hb2) :: .int (zI sb2) :: .ref 118 :: .ref 119 :: .ref 120 :: .ref 121 :: .ref 122 :: .ref 123 :: .ref 124 :: .ref 125 :: .ref 126 :: .ref 127 :: .ref 128 :: .ref 129 :: .int (zI mfu) :: .ref 130 :: .ref 131 :: .ref 132 :: .ref 133 :: .ref 134 :: .int (zI mdm) :: .int (zI mla) :: []))), (110, .inl (0, 8820, .inl (zA co2))), (111, .inl (0, 1260, .inl (zA cd2))), (117, .inl (0, 7, .inl (zA of2))), (112, .inl (0, 27720, .inl (zA st2))), (113, .inl (0, 27720, .inl (zA tk2))), (114, .inl (0, 1260, .inl (zA sm2))), (115, .inl (0, 27720, .inl (zA cf2))), (116, .inl (0, 1260, .inl (zA cm2))), (109, .inl (0, 8, .inl (zA aq2))), (118, .inl (0, 1260, .inl (zA fa2))), (119, .inl (1, 1260, .inr (.inl (zAL fm2)))), (120, .inl (0, 1260, .inl (zA li2))), (130, .inl (2, 1260, .inl (zA fg2)))]) ∧ (hm2 = Hi K) ∧ (pm2 = bsum K) ∧ (HouT co2 cd2 K hm2) ∧ (Rg of2 7 0 4) ∧ (1 ≤ hm2) ∧ (hm2 ≤ 1260) ∧ (0 ≤ pm2) ∧ (pm2 ≤ 7) ∧ (hb2 = mv) ∧ (sb2 = mv) ∧ (StM st2 tk2 sm2 hm2) ∧ (CoM cf2 cm2 st2 sm2 hm2) ∧ (0 ≤ bk2) ∧ (bk2 ≤ 1) ∧ (Rg aq2 8 (-2147483648) 2147483647) ∧ (Rg fg2 1260 0 1) ∧ (0 ≤ r) ∧ (r ≤ hm2)) := by
  refine JM.of (by decide) rfl (fun h => by cases h) (Nat.le_of_ble_eq_true rfl) ⟨2, rfl⟩ ?_
  refine J_hc0 (J_ls (ls2 := [some (.ref 98), none, none]) rfl ?_)
  refine J_aload_n dX12_findsFits_0 rfl rfl ?_
  refine J_callV (st := []) dX12_findsFits_1 cv_X12_328 (k_looks ms mv mt mfa mtn mtk mlv mbd mgo mge mbk mtt mtl hm pm hb sb mfu mdm mla K co cd of st tk sm cf cm aq q0 q1 q2 q3 q4 q5 q6 q7 q8 q9 q10 q11 hk98 hk100 hk110 hk111 hk117 hk112 hk113 hk114 hk115 hk116 hk109) hk98 rfl rfl (Nat.le_of_ble_eq_true rfl) ⟨(Nat.le_of_ble_eq_true rfl), (Nat.le_of_ble_eq_true rfl)⟩ ⟨(Nat.le_of_ble_eq_true rfl), (Nat.le_of_ble_eq_true rfl)⟩ (fun r h9 hp => ?_)
  obtain ⟨z1, z2, z3, f4, f5, f6, z7, f8, f9, f10, f11, f12, f13, z14, z15, z16, z17, z18, rfl, rfl, h19, h20, h21, h22, h23, h24, h25, h26, h27, h28, h29, h30, h31, h32, h33⟩ := hp
  refine J_nf (nh2 := nh) (ck2 := 0) (sk2 := 0) (st2 := []) rfl rfl rfl rfl ?_
  refine J_app (L3 := [(98, .inr (12, (.int (zI ms) :: .int (zI mv) :: .ref 99 :: .ref 100 :: .ref 101 :: .ref 102 :: .ref 103 :: .ref 104 :: .ref 105 :: .int (zI mt) :: .int (zI mfa) :: .ref 106 :: .ref 107 :: .ref 108 :: .int (zI mtn) :: .int (zI mtk) :: .int (zI mlv) :: .int (zI mbd) :: .int (zI z14) :: .int (zI z15) :: .int (zI z16) :: .ref 109 :: .int (zI z17) :: .int (zI z18) :: .ref 110 :: .ref 111 :: .ref 112 :: .ref 113 :: .ref 114 :: .ref 115 :: .ref 116 :: .ref 117 :: .int (zI z1) :: .int (zI z2) :: .int (zI z3) :: .int (zI z7) :: .ref 118 :: .ref 119 :: .ref 120 :: .ref 121 :: .ref 122 :: .ref 123 :: .ref 124 :: .ref 125 :: .ref 126 :: .ref 127 :: .ref 128 :: .ref 129 :: .int (zI mfu) :: .ref 130 :: .ref 131 :: .ref 132 :: .ref 133 :: .ref 134 :: .int (zI mdm) :: .int (zI mla) :: []))), (110, .inl (0, 8820, .inl (zA f4))), (111, .inl (0, 1260, .inl (zA f5))), (117, .inl (0, 7, .inl (zA f6))), (112, .inl (0, 27720, .inl (zA f8))), (113, .inl (0, 27720, .inl (zA f9))), (114, .inl (0, 1260, .inl (zA f10))), (115, .inl (0, 27720, .inl (zA f11))), (116, .inl (0, 1260, .inl (zA f12))), (109, .inl (0, 8, .inl (zA f13)))]) rfl ?_
  refine Z_iconst (n := 0) dX12_findsFits_4 ?_
  refine J_istore_n dX12_findsFits_5 rfl (Nat.le_of_ble_eq_true rfl) rfl ?_
  refine J_ls (ls2 := [some (.ref 98), some (.int (zI 0)), none]) rfl ?_
  refine J_touch (k := 130) (e := .inl (2, 1260, .inl (zA fg))) hk130 ?_
  have lp6 : ∀ (N6 : Nat) (h_6 : Int) (g_6 : Int → Int), (0 ≤ h_6) → (h_6 ≤ z1) → (Rg g_6 1260 0 1) → (z1 - h_6).toNat < N6 → J l G MX12_findsFits { frames := 43, cells := 0, slots := 0, locals := 1018 } jE (jMQ G { frames := 43, cells := 0, slots := 0, locals := 1018 } (fun rr h9 => ∃ r : Int, ∃ hm2 : Int, ∃ pm2 : Int, ∃ hb2 : Int, ∃ co2 : Int → Int, ∃ cd2 : Int → Int, ∃ of2 : Int → Int, ∃ sb2 : Int, ∃ st2 : Int → Int, ∃ tk2 : Int → Int, ∃ sm2 : Int → Int, ∃ cf2 : Int → Int, ∃ cm2 : Int → Int, ∃ aq2 : Int → Int, ∃ go2 : Int, ∃ ge2 : Int, ∃ bk2 : Int, ∃ tt2 : Int, ∃ tl2 : Int, ∃ fa2 : Int → Int, ∃ fm2 : Int → Int, ∃ li2 : Int → Int, ∃ fg2 : Int → Int, rr = some (.int (zI r)) ∧ h9 = (nh, hc fh [(98, .inr (12, (.int (zI ms) :: .int (zI mv) :: .ref 99 :: .ref 100 :: .ref 101 :: .ref 102 :: .ref 103 :: .ref 104 :: .ref 105 :: .int (zI mt) :: .int (zI mfa) :: .ref 106 :: .ref 107 :: .ref 108 :: .int (zI mtn) :: .int (zI mtk) :: .int (zI mlv) :: .int (zI mbd) :: .int (zI go2) :: .int (zI ge2) :: .int (zI bk2) :: .ref 109 :: .int (zI tt2) :: .int (zI tl2) :: .ref 110 :: .ref 111 :: .ref 112 :: .ref 113 :: .ref 114 :: .ref 115 :: .ref 116 :: .ref 117 :: .int (zI hm2) :: .int (zI pm2) :: .int (zI hb2) :: .int (zI sb2) :: .ref 118 :: .ref 119 :: .ref 120 :: .ref 121 :: .ref 122 :: .ref 123 :: .ref 124 :: .ref 125 :: .ref 126 :: .ref 127 :: .ref 128 :: .ref 129 :: .int (zI mfu) :: .ref 130 :: .ref 131 :: .ref 132 :: .ref 133 :: .ref 134 :: .int (zI mdm) :: .int (zI mla) :: []))), (110, .inl (0, 8820, .inl (zA co2))), (111, .inl (0, 1260, .inl (zA cd2))), (117, .inl (0, 7, .inl (zA of2))), (112, .inl (0, 27720, .inl (zA st2))), (113, .inl (0, 27720, .inl (zA tk2))), (114, .inl (0, 1260, .inl (zA sm2))), (115, .inl (0, 27720, .inl (zA cf2))), (116, .inl (0, 1260, .inl (zA cm2))), (109, .inl (0, 8, .inl (zA aq2))), (118, .inl (0, 1260, .inl (zA fa2))), (119, .inl (1, 1260, .inr (.inl (zAL fm2)))), (120, .inl (0, 1260, .inl (zA li2))), (130, .inl (2, 1260, .inl (zA fg2)))]) ∧ (hm2 = Hi K) ∧ (pm2 = bsum K) ∧ (HouT co2 cd2 K hm2) ∧ (Rg of2 7 0 4) ∧ (1 ≤ hm2) ∧ (hm2 ≤ 1260) ∧ (0 ≤ pm2) ∧ (pm2 ≤ 7) ∧ (hb2 = mv) ∧ (sb2 = mv) ∧ (StM st2 tk2 sm2 hm2) ∧ (CoM cf2 cm2 st2 sm2 hm2) ∧ (0 ≤ bk2) ∧ (bk2 ≤ 1) ∧ (Rg aq2 8 (-2147483648) 2147483647) ∧ (Rg fg2 1260 0 1) ∧ (0 ≤ r) ∧ (r ≤ hm2))) (nh, hc fh [(130, .inl (2, 1260, .inl (zA g_6))), (98, .inr (12, (.int (zI ms) :: .int (zI mv) :: .ref 99 :: .ref 100 :: .ref 101 :: .ref 102 :: .ref 103 :: .ref 104 :: .ref 105 :: .int (zI mt) :: .int (zI mfa) :: .ref 106 :: .ref 107 :: .ref 108 :: .int (zI mtn) :: .int (zI mtk) :: .int (zI mlv) :: .int (zI mbd) :: .int (zI z14) :: .int (zI z15) :: .int (zI z16) :: .ref 109 :: .int (zI z17) :: .int (zI z18) :: .ref 110 :: .ref 111 :: .ref 112 :: .ref 113 :: .ref 114 :: .ref 115 :: .ref 116 :: .ref 117 :: .int (zI z1) :: .int (zI z2) :: .int (zI z3) :: .int (zI z7) :: .ref 118 :: .ref 119 :: .ref 120 :: .ref 121 :: .ref 122 :: .ref 123 :: .ref 124 :: .ref 125 :: .ref 126 :: .ref 127 :: .ref 128 :: .ref 129 :: .int (zI mfu) :: .ref 130 :: .ref 131 :: .ref 132 :: .ref 133 :: .ref 134 :: .int (zI mdm) :: .int (zI mla) :: []))), (110, .inl (0, 8820, .inl (zA f4))), (111, .inl (0, 1260, .inl (zA f5))), (117, .inl (0, 7, .inl (zA f6))), (112, .inl (0, 27720, .inl (zA f8))), (113, .inl (0, 27720, .inl (zA f9))), (114, .inl (0, 1260, .inl (zA f10))), (115, .inl (0, 27720, .inl (zA f11))), (116, .inl (0, 1260, .inl (zA f12))), (109, .inl (0, 8, .inl (zA f13)))]) 0 0 6 [some (.ref 98), some (.int (zI h_6)), none] [] := by
    intro N6
    induction N6 with
    | zero => intro h_6 g_6 i6_0 i6_1 i6_2 hm; exact absurd hm (Nat.not_lt_zero _)
    | succ N6 ih6 =>
      intro h_6 g_6 i6_0 i6_1 i6_2 hm6
      refine J_iload_n dX12_findsFits_6 rfl rfl ?_
      refine J_aload_n dX12_findsFits_7 rfl rfl ?_
      refine J_get (v := .int (zI z1)) dX12_findsFits_8 fl_X12_298 rfl rfl ?_
      refine Z_icmp_ge (tgt := 27) dX12_findsFits_11 (by decide) (v_c9ca704c4d h24 i6_0 i6_1) (v_81c6732ede h23 h24) (fun h34 => ?_) (fun h34 => ?_)
      · refine Z_iconst (n := 0) dX12_findsFits_27 ?_
        refine J_istore_n dX12_findsFits_28 rfl (Nat.le_of_ble_eq_true rfl) rfl ?_
        refine J_ls (ls2 := [some (.ref 98), some (.int (zI 0)), none]) rfl ?_
        refine J_touch (k := 118) (e := .inl (0, 1260, .inl (zA fa))) hk118 ?_
        refine J_touch (k := 119) (e := .inl (1, 1260, .inr (.inl (zAL fm)))) hk119 ?_
        refine J_touch (k := 120) (e := .inl (0, 1260, .inl (zA li))) hk120 ?_
        have lp29 : ∀ (N29 : Nat) (k_29 : Int) (f1_29 : Int → Int) (f2_29 : Int → Int) (f3_29 : Int → Int) (g_29 : Int → Int), (0 ≤ k_29) → (k_29 ≤ K 61) → (Rg g_29 1260 0 1) → (K 61 - k_29).toNat < N29 → J l G MX12_findsFits { frames := 43, cells := 0, slots := 0, locals := 1018 } jE (jMQ G { frames := 43, cells := 0, slots := 0, locals := 1018 } (fun rr h9 => ∃ r : Int, ∃ hm2 : Int, ∃ pm2 : Int, ∃ hb2 : Int, ∃ co2 : Int → Int, ∃ cd2 : Int → Int, ∃ of2 : Int → Int, ∃ sb2 : Int, ∃ st2 : Int → Int, ∃ tk2 : Int → Int, ∃ sm2 : Int → Int, ∃ cf2 : Int → Int, ∃ cm2 : Int → Int, ∃ aq2 : Int → Int, ∃ go2 : Int, ∃ ge2 : Int, ∃ bk2 : Int, ∃ tt2 : Int, ∃ tl2 : Int, ∃ fa2 : Int → Int, ∃ fm2 : Int → Int, ∃ li2 : Int → Int, ∃ fg2 : Int → Int, rr = some (.int (zI r)) ∧ h9 = (nh, hc fh [(98, .inr (12, (.int (zI ms) :: .int (zI mv) :: .ref 99 :: .ref 100 :: .ref 101 :: .ref 102 :: .ref 103 :: .ref 104 :: .ref 105 :: .int (zI mt) :: .int (zI mfa) :: .ref 106 :: .ref 107 :: .ref 108 :: .int (zI mtn) :: .int (zI mtk) :: .int (zI mlv) :: .int (zI mbd) :: .int (zI go2) :: .int (zI ge2) :: .int (zI bk2) :: .ref 109 :: .int (zI tt2) :: .int (zI tl2) :: .ref 110 :: .ref 111 :: .ref 112 :: .ref 113 :: .ref 114 :: .ref 115 :: .ref 116 :: .ref 117 :: .int (zI hm2) :: .int (zI pm2) :: .int (zI hb2) :: .int (zI sb2) :: .ref 118 :: .ref 119 :: .ref 120 :: .ref 121 :: .ref 122 :: .ref 123 :: .ref 124 :: .ref 125 :: .ref 126 :: .ref 127 :: .ref 128 :: .ref 129 :: .int (zI mfu) :: .ref 130 :: .ref 131 :: .ref 132 :: .ref 133 :: .ref 134 :: .int (zI mdm) :: .int (zI mla) :: []))), (110, .inl (0, 8820, .inl (zA co2))), (111, .inl (0, 1260, .inl (zA cd2))), (117, .inl (0, 7, .inl (zA of2))), (112, .inl (0, 27720, .inl (zA st2))), (113, .inl (0, 27720, .inl (zA tk2))), (114, .inl (0, 1260, .inl (zA sm2))), (115, .inl (0, 27720, .inl (zA cf2))), (116, .inl (0, 1260, .inl (zA cm2))), (109, .inl (0, 8, .inl (zA aq2))), (118, .inl (0, 1260, .inl (zA fa2))), (119, .inl (1, 1260, .inr (.inl (zAL fm2)))), (120, .inl (0, 1260, .inl (zA li2))), (130, .inl (2, 1260, .inl (zA fg2)))]) ∧ (hm2 = Hi K) ∧ (pm2 = bsum K) ∧ (HouT co2 cd2 K hm2) ∧ (Rg of2 7 0 4) ∧ (1 ≤ hm2) ∧ (hm2 ≤ 1260) ∧ (0 ≤ pm2) ∧ (pm2 ≤ 7) ∧ (hb2 = mv) ∧ (sb2 = mv) ∧ (StM st2 tk2 sm2 hm2) ∧ (CoM cf2 cm2 st2 sm2 hm2) ∧ (0 ≤ bk2) ∧ (bk2 ≤ 1) ∧ (Rg aq2 8 (-2147483648) 2147483647) ∧ (Rg fg2 1260 0 1) ∧ (0 ≤ r) ∧ (r ≤ hm2))) (nh, hc fh [(120, .inl (0, 1260, .inl (zA f3_29))), (119, .inl (1, 1260, .inr (.inl (zAL f2_29)))), (118, .inl (0, 1260, .inl (zA f1_29))), (130, .inl (2, 1260, .inl (zA g_29))), (98, .inr (12, (.int (zI ms) :: .int (zI mv) :: .ref 99 :: .ref 100 :: .ref 101 :: .ref 102 :: .ref 103 :: .ref 104 :: .ref 105 :: .int (zI mt) :: .int (zI mfa) :: .ref 106 :: .ref 107 :: .ref 108 :: .int (zI mtn) :: .int (zI mtk) :: .int (zI mlv) :: .int (zI mbd) :: .int (zI z14) :: .int (zI z15) :: .int (zI z16) :: .ref 109 :: .int (zI z17) :: .int (zI z18) :: .ref 110 :: .ref 111 :: .ref 112 :: .ref 113 :: .ref 114 :: .ref 115 :: .ref 116 :: .ref 117 :: .int (zI z1) :: .int (zI z2) :: .int (zI z3) :: .int (zI z7) :: .ref 118 :: .ref 119 :: .ref 120 :: .ref 121 :: .ref 122 :: .ref 123 :: .ref 124 :: .ref 125 :: .ref 126 :: .ref 127 :: .ref 128 :: .ref 129 :: .int (zI mfu) :: .ref 130 :: .ref 131 :: .ref 132 :: .ref 133 :: .ref 134 :: .int (zI mdm) :: .int (zI mla) :: []))), (110, .inl (0, 8820, .inl (zA f4))), (111, .inl (0, 1260, .inl (zA f5))), (117, .inl (0, 7, .inl (zA f6))), (112, .inl (0, 27720, .inl (zA f8))), (113, .inl (0, 27720, .inl (zA f9))), (114, .inl (0, 1260, .inl (zA f10))), (115, .inl (0, 27720, .inl (zA f11))), (116, .inl (0, 1260, .inl (zA f12))), (109, .inl (0, 8, .inl (zA f13)))]) 0 0 29 [some (.ref 98), some (.int (zI k_29)), none] [] := by
          intro N29
          induction N29 with
          | zero => intro k_29 f1_29 f2_29 f3_29 g_29 i29_0 i29_1 i29_2 hm; exact absurd hm (Nat.not_lt_zero _)
          | succ N29 ih29 =>
            intro k_29 f1_29 f2_29 f3_29 g_29 i29_0 i29_1 i29_2 hm29
            refine J_iload_n dX12_findsFits_29 rfl rfl ?_
            refine J_aload_n dX12_findsFits_30 rfl rfl ?_
            refine J_get (v := .ref 100) dX12_findsFits_31 fl_X12_20 rfl rfl ?_
            refine Z_bipush (n := 61) dX12_findsFits_34 (by decide +kernel) ?_
            obtain ⟨z35, ez35⟩ : ∃ z : Int, K 61 = z := ⟨_, rfl⟩
            have h36 := Rg.at q0.2.2.2.2.2.2.2.2.1 v_b92a3c53b8 v_ee60c78ede ez35
            refine Y_iald (z := z35) 4870 dX12_findsFits_36 hk100 rfl (by decide) v_b92a3c53b8 v_ee60c78ede ez35 ?_
            refine Z_icmp_ge (tgt := 120) dX12_findsFits_37 (by decide) (v_7c533ea78b q0.2.2.2.2.1.2 i29_0 i29_1) (v_f306e1cdb8 h36.1 h36.2) (fun h37 => ?_) (fun h37 => ?_)
            · refine Z_iconst (n := 0) dX12_findsFits_120 ?_
              refine J_istore_n dX12_findsFits_121 rfl (Nat.le_of_ble_eq_true rfl) rfl ?_
              refine J_ls (ls2 := [some (.ref 98), some (.int (zI 0)), none]) rfl ?_
              refine Z_iconst (n := 0) dX12_findsFits_122 ?_
              refine J_istore_n dX12_findsFits_123 rfl (Nat.le_of_ble_eq_true rfl) rfl ?_
              refine J_ls (ls2 := [some (.ref 98), some (.int (zI 0)), some (.int (zI 0))]) rfl ?_
              have lp124 : ∀ (N124 : Nat) (n_124 : Int) (h_124 : Int), (0 ≤ h_124) → (h_124 ≤ z1) → (0 ≤ n_124) → (n_124 ≤ h_124) → (z1 - h_124).toNat < N124 → J l G MX12_findsFits { frames := 43, cells := 0, slots := 0, locals := 1018 } jE (jMQ G { frames := 43, cells := 0, slots := 0, locals := 1018 } (fun rr h9 => ∃ r : Int, ∃ hm2 : Int, ∃ pm2 : Int, ∃ hb2 : Int, ∃ co2 : Int → Int, ∃ cd2 : Int → Int, ∃ of2 : Int → Int, ∃ sb2 : Int, ∃ st2 : Int → Int, ∃ tk2 : Int → Int, ∃ sm2 : Int → Int, ∃ cf2 : Int → Int, ∃ cm2 : Int → Int, ∃ aq2 : Int → Int, ∃ go2 : Int, ∃ ge2 : Int, ∃ bk2 : Int, ∃ tt2 : Int, ∃ tl2 : Int, ∃ fa2 : Int → Int, ∃ fm2 : Int → Int, ∃ li2 : Int → Int, ∃ fg2 : Int → Int, rr = some (.int (zI r)) ∧ h9 = (nh, hc fh [(98, .inr (12, (.int (zI ms) :: .int (zI mv) :: .ref 99 :: .ref 100 :: .ref 101 :: .ref 102 :: .ref 103 :: .ref 104 :: .ref 105 :: .int (zI mt) :: .int (zI mfa) :: .ref 106 :: .ref 107 :: .ref 108 :: .int (zI mtn) :: .int (zI mtk) :: .int (zI mlv) :: .int (zI mbd) :: .int (zI go2) :: .int (zI ge2) :: .int (zI bk2) :: .ref 109 :: .int (zI tt2) :: .int (zI tl2) :: .ref 110 :: .ref 111 :: .ref 112 :: .ref 113 :: .ref 114 :: .ref 115 :: .ref 116 :: .ref 117 :: .int (zI hm2) :: .int (zI pm2) :: .int (zI hb2) :: .int (zI sb2) :: .ref 118 :: .ref 119 :: .ref 120 :: .ref 121 :: .ref 122 :: .ref 123 :: .ref 124 :: .ref 125 :: .ref 126 :: .ref 127 :: .ref 128 :: .ref 129 :: .int (zI mfu) :: .ref 130 :: .ref 131 :: .ref 132 :: .ref 133 :: .ref 134 :: .int (zI mdm) :: .int (zI mla) :: []))), (110, .inl (0, 8820, .inl (zA co2))), (111, .inl (0, 1260, .inl (zA cd2))), (117, .inl (0, 7, .inl (zA of2))), (112, .inl (0, 27720, .inl (zA st2))), (113, .inl (0, 27720, .inl (zA tk2))), (114, .inl (0, 1260, .inl (zA sm2))), (115, .inl (0, 27720, .inl (zA cf2))), (116, .inl (0, 1260, .inl (zA cm2))), (109, .inl (0, 8, .inl (zA aq2))), (118, .inl (0, 1260, .inl (zA fa2))), (119, .inl (1, 1260, .inr (.inl (zAL fm2)))), (120, .inl (0, 1260, .inl (zA li2))), (130, .inl (2, 1260, .inl (zA fg2)))]) ∧ (hm2 = Hi K) ∧ (pm2 = bsum K) ∧ (HouT co2 cd2 K hm2) ∧ (Rg of2 7 0 4) ∧ (1 ≤ hm2) ∧ (hm2 ≤ 1260) ∧ (0 ≤ pm2) ∧ (pm2 ≤ 7) ∧ (hb2 = mv) ∧ (sb2 = mv) ∧ (StM st2 tk2 sm2 hm2) ∧ (CoM cf2 cm2 st2 sm2 hm2) ∧ (0 ≤ bk2) ∧ (bk2 ≤ 1) ∧ (Rg aq2 8 (-2147483648) 2147483647) ∧ (Rg fg2 1260 0 1) ∧ (0 ≤ r) ∧ (r ≤ hm2))) (nh, hc fh [(120, .inl (0, 1260, .inl (zA f3_29))), (119, .inl (1, 1260, .inr (.inl (zAL f2_29)))), (118, .inl (0, 1260, .inl (zA f1_29))), (130, .inl (2, 1260, .inl (zA g_29))), (98, .inr (12, (.int (zI ms) :: .int (zI mv) :: .ref 99 :: .ref 100 :: .ref 101 :: .ref 102 :: .ref 103 :: .ref 104 :: .ref 105 :: .int (zI mt) :: .int (zI mfa) :: .ref 106 :: .ref 107 :: .ref 108 :: .int (zI mtn) :: .int (zI mtk) :: .int (zI mlv) :: .int (zI mbd) :: .int (zI z14) :: .int (zI z15) :: .int (zI z16) :: .ref 109 :: .int (zI z17) :: .int (zI z18) :: .ref 110 :: .ref 111 :: .ref 112 :: .ref 113 :: .ref 114 :: .ref 115 :: .ref 116 :: .ref 117 :: .int (zI z1) :: .int (zI z2) :: .int (zI z3) :: .int (zI z7) :: .ref 118 :: .ref 119 :: .ref 120 :: .ref 121 :: .ref 122 :: .ref 123 :: .ref 124 :: .ref 125 :: .ref 126 :: .ref 127 :: .ref 128 :: .ref 129 :: .int (zI mfu) :: .ref 130 :: .ref 131 :: .ref 132 :: .ref 133 :: .ref 134 :: .int (zI mdm) :: .int (zI mla) :: []))), (110, .inl (0, 8820, .inl (zA f4))), (111, .inl (0, 1260, .inl (zA f5))), (117, .inl (0, 7, .inl (zA f6))), (112, .inl (0, 27720, .inl (zA f8))), (113, .inl (0, 27720, .inl (zA f9))), (114, .inl (0, 1260, .inl (zA f10))), (115, .inl (0, 27720, .inl (zA f11))), (116, .inl (0, 1260, .inl (zA f12))), (109, .inl (0, 8, .inl (zA f13)))]) 0 0 124 [some (.ref 98), some (.int (zI n_124)), some (.int (zI h_124))] [] := by
                intro N124
                induction N124 with
                | zero => intro n_124 h_124 i124_0 i124_1 i124_2 i124_3 hm; exact absurd hm (Nat.not_lt_zero _)
                | succ N124 ih124 =>
                  intro n_124 h_124 i124_0 i124_1 i124_2 i124_3 hm124
                  refine J_iload_n dX12_findsFits_124 rfl rfl ?_
                  refine J_aload_n dX12_findsFits_125 rfl rfl ?_
                  refine J_get (v := .int (zI z1)) dX12_findsFits_126 fl_X12_298 rfl rfl ?_
                  refine Z_icmp_ge (tgt := 155) dX12_findsFits_129 (by decide) (v_c9ca704c4d h24 i124_0 i124_1) (v_81c6732ede h23 h24) (fun h38 => ?_) (fun h38 => ?_)
                  · refine J_iload_n dX12_findsFits_155 rfl rfl ?_
                    refine J_touch (k := 130) (e := .inl (2, 1260, .inl (zA g_29))) rfl ?_
                    refine J_touch (k := 120) (e := .inl (0, 1260, .inl (zA f3_29))) rfl ?_
                    refine J_touch (k := 119) (e := .inl (1, 1260, .inr (.inl (zAL f2_29)))) rfl ?_
                    refine J_touch (k := 118) (e := .inl (0, 1260, .inl (zA f1_29))) rfl ?_
                    refine J_touch (k := 109) (e := .inl (0, 8, .inl (zA f13))) rfl ?_
                    refine J_touch (k := 116) (e := .inl (0, 1260, .inl (zA f12))) rfl ?_
                    refine J_touch (k := 115) (e := .inl (0, 27720, .inl (zA f11))) rfl ?_
                    refine J_touch (k := 114) (e := .inl (0, 1260, .inl (zA f10))) rfl ?_
                    refine J_touch (k := 113) (e := .inl (0, 27720, .inl (zA f9))) rfl ?_
                    refine J_touch (k := 112) (e := .inl (0, 27720, .inl (zA f8))) rfl ?_
                    refine J_touch (k := 117) (e := .inl (0, 7, .inl (zA f6))) rfl ?_
                    refine J_touch (k := 111) (e := .inl (0, 1260, .inl (zA f5))) rfl ?_
                    refine J_touch (k := 110) (e := .inl (0, 8820, .inl (zA f4))) rfl ?_
                    refine J_touch (k := 98) (e := .inr (12, (.int (zI ms) :: .int (zI mv) :: .ref 99 :: .ref 100 :: .ref 101 :: .ref 102 :: .ref 103 :: .ref 104 :: .ref 105 :: .int (zI mt) :: .int (zI mfa) :: .ref 106 :: .ref 107 :: .ref 108 :: .int (zI mtn) :: .int (zI mtk) :: .int (zI mlv) :: .int (zI mbd) :: .int (zI z14) :: .int (zI z15) :: .int (zI z16) :: .ref 109 :: .int (zI z17) :: .int (zI z18) :: .ref 110 :: .ref 111 :: .ref 112 :: .ref 113 :: .ref 114 :: .ref 115 :: .ref 116 :: .ref 117 :: .int (zI z1) :: .int (zI z2) :: .int (zI z3) :: .int (zI z7) :: .ref 118 :: .ref 119 :: .ref 120 :: .ref 121 :: .ref 122 :: .ref 123 :: .ref 124 :: .ref 125 :: .ref 126 :: .ref 127 :: .ref 128 :: .ref 129 :: .int (zI mfu) :: .ref 130 :: .ref 131 :: .ref 132 :: .ref 133 :: .ref 134 :: .int (zI mdm) :: .int (zI mla) :: []))) rfl ?_
                    refine J_mask (L2 := [(98, .inr (12, (.int (zI ms) :: .int (zI mv) :: .ref 99 :: .ref 100 :: .ref 101 :: .ref 102 :: .ref 103 :: .ref 104 :: .ref 105 :: .int (zI mt) :: .int (zI mfa) :: .ref 106 :: .ref 107 :: .ref 108 :: .int (zI mtn) :: .int (zI mtk) :: .int (zI mlv) :: .int (zI mbd) :: .int (zI z14) :: .int (zI z15) :: .int (zI z16) :: .ref 109 :: .int (zI z17) :: .int (zI z18) :: .ref 110 :: .ref 111 :: .ref 112 :: .ref 113 :: .ref 114 :: .ref 115 :: .ref 116 :: .ref 117 :: .int (zI z1) :: .int (zI z2) :: .int (zI z3) :: .int (zI z7) :: .ref 118 :: .ref 119 :: .ref 120 :: .ref 121 :: .ref 122 :: .ref 123 :: .ref 124 :: .ref 125 :: .ref 126 :: .ref 127 :: .ref 128 :: .ref 129 :: .int (zI mfu) :: .ref 130 :: .ref 131 :: .ref 132 :: .ref 133 :: .ref 134 :: .int (zI mdm) :: .int (zI mla) :: []))), (110, .inl (0, 8820, .inl (zA f4))), (111, .inl (0, 1260, .inl (zA f5))), (117, .inl (0, 7, .inl (zA f6))), (112, .inl (0, 27720, .inl (zA f8))), (113, .inl (0, 27720, .inl (zA f9))), (114, .inl (0, 1260, .inl (zA f10))), (115, .inl (0, 27720, .inl (zA f11))), (116, .inl (0, 1260, .inl (zA f12))), (109, .inl (0, 8, .inl (zA f13))), (118, .inl (0, 1260, .inl (zA f1_29))), (119, .inl (1, 1260, .inr (.inl (zAL f2_29)))), (120, .inl (0, 1260, .inl (zA f3_29))), (130, .inl (2, 1260, .inl (zA g_29)))]) (ks := [98, 110, 111, 117, 112, 113, 114, 115, 116, 109, 118, 119, 120, 130, 120, 119, 118, 130, 98, 110, 111, 117, 112, 113, 114, 115, 116, 109]) [true, true, true, true, true, true, true, true, true, true, true, true, true, true, false, false, false, false, false, false, false, false, false, false, false, false, false, false] rfl (by decide +kernel) rfl ?_
                    exact J_iret dX12_findsFits_156 rfl rfl (Nat.le_of_ble_eq_true rfl) (Nat.le_of_ble_eq_true rfl) ⟨n_124, z1, z2, z3, f4, f5, f6, z7, f8, f9, f10, f11, f12, f13, z14, z15, z16, z17, z18, f1_29, f2_29, f3_29, g_29, rfl, rfl, h19, h20, h21, h22, h23, h24, h25, h26, h27, h28, h29, h30, h31, h32, h33, i29_2, i124_2, (v_f57be7c965 i124_1 i124_3)⟩
                  · refine J_iload_n dX12_findsFits_132 rfl rfl ?_
                    refine J_aload_n dX12_findsFits_133 rfl rfl ?_
                    refine J_get (v := .ref 130) dX12_findsFits_134 fl_X12_123 rfl rfl ?_
                    refine J_iload_n dX12_findsFits_137 rfl rfl ?_
                    obtain ⟨z39, ez39⟩ : ∃ z : Int, g_29 h_124 = z := ⟨_, rfl⟩
                    have h40 := Rg.at i29_2 (v_2b02420001 i124_0) (v_610e7c4416 h24 h38) ez39
                    refine Y_zald (z := z39) 1260 dX12_findsFits_138 rfl rfl (by decide) (v_2b02420001 i124_0) (v_610e7c4416 h24 h38) ez39 ?_
                    refine Z_if_eq (tgt := 146) dX12_findsFits_139 (by decide) (v_5f10a759cd h40.1 h40.2) (fun h41 => ?_) (fun h41 => ?_)
                    · refine Z_iconst (n := 0) dX12_findsFits_146 ?_
                      refine Z_iadd (c := n_124) dX12_findsFits_147 v_36a5c2e6b0 ?_
                      refine J_istore_n dX12_findsFits_148 rfl (Nat.le_of_ble_eq_true rfl) rfl ?_
                      refine J_ls (ls2 := [some (.ref 98), some (.int (zI n_124)), some (.int (zI h_124))]) rfl ?_
                      refine Z_iinc (c := h_124 + 1) (ls2 := [some (.ref 98), some (.int (zI n_124)), some (.int (zI (h_124 + 1)))]) dX12_findsFits_149 rfl (Nat.le_of_ble_eq_true rfl) rfl rfl rfl ?_
                      refine J_goto (tgt := 124) dX12_findsFits_152 (by decide) ?_
                      exact ih124 n_124 (h_124 + 1) (v_da458fa48a i124_0) (v_e390a36114 h38) i124_2 (v_d50281bace i124_3) (meas_lt v_90eacd6fd4 (v_8b7dd7d486 h38) hm124)
                    · refine Z_iconst (n := 1) dX12_findsFits_142 ?_
                      refine J_goto (tgt := 147) dX12_findsFits_143 (by decide) ?_
                      refine Z_iadd (c := n_124 + 1) dX12_findsFits_147 rfl ?_
                      refine J_istore_n dX12_findsFits_148 rfl (Nat.le_of_ble_eq_true rfl) rfl ?_
                      refine J_ls (ls2 := [some (.ref 98), some (.int (zI (n_124 + 1))), some (.int (zI h_124))]) rfl ?_
                      refine Z_iinc (c := h_124 + 1) (ls2 := [some (.ref 98), some (.int (zI (n_124 + 1))), some (.int (zI (h_124 + 1)))]) dX12_findsFits_149 rfl (Nat.le_of_ble_eq_true rfl) rfl rfl rfl ?_
                      refine J_goto (tgt := 124) dX12_findsFits_152 (by decide) ?_
                      exact ih124 (n_124 + 1) (h_124 + 1) (v_da458fa48a i124_0) (v_e390a36114 h38) (v_da458fa48a i124_2) (v_14fc63d1f2 i124_3) (meas_lt v_90eacd6fd4 (v_8b7dd7d486 h38) hm124)
              exact lp124 _ 0 0 v_939070ca3f (v_632d2dbe78 h23) v_939070ca3f v_939070ca3f (Nat.lt_succ_self _)
            · refine J_aload_n dX12_findsFits_40 rfl rfl ?_
              refine J_aload_n dX12_findsFits_41 rfl rfl ?_
              refine J_get (v := .ref 100) dX12_findsFits_42 fl_X12_20 rfl rfl ?_
              refine Z_bipush (n := 47) dX12_findsFits_45 (by decide +kernel) ?_
              refine Z_iconst (n := 2) dX12_findsFits_47 ?_
              refine J_iload_n dX12_findsFits_48 rfl rfl ?_
              refine Z_imul (c := 2 * k_29) dX12_findsFits_49 rfl ?_
              refine Z_iadd (c := 2 * k_29 + 47) dX12_findsFits_50 v_1920de26d1 ?_
              obtain ⟨z42, ez42⟩ : ∃ z : Int, K (2 * k_29 + 47) = z := ⟨_, rfl⟩
              have h43 := Rg.at q0.2.2.2.2.2.2.2.2.1 (v_ad632c79b0 i29_0) (v_e3a02134cb q0.2.2.2.2.1.2 i29_1) ez42
              refine Y_iald (z := z42) 4870 dX12_findsFits_51 hk100 rfl (by decide) (v_ad632c79b0 i29_0) (v_e3a02134cb q0.2.2.2.2.1.2 i29_1) ez42 ?_
              have g44 : 0 ≤ z42 ∧ z42 < Hi K := by have u := q0.2.2.2.2.2.1 k_29 i29_0 (v_37aa6f4f04 ez35 h37); rw [show (47 : Int) + 2 * k_29 = 2 * k_29 + 47 by omega] at u; rw [← ez42]; exact u
              refine J_callV (st := []) dX12_findsFits_52 cv_X12_334 (k_measures z42 f8 f9 f10 f1_29 f2_29 f3_29 ms mv mt mfa mtn mtk mlv mbd z14 z15 z16 z17 z18 z1 z2 z3 z7 mfu mdm mla g44.1 (v_1652f1a616 h19 g44.2) h23 h24 h29 rfl rfl rfl rfl rfl rfl rfl) rfl rfl rfl (Nat.le_of_ble_eq_true rfl) ⟨(Nat.le_of_ble_eq_true rfl), (Nat.le_of_ble_eq_true rfl)⟩ ⟨(Nat.le_of_ble_eq_true rfl), (Nat.le_of_ble_eq_true rfl)⟩ (fun r h9 hp => ?_)
              obtain ⟨f45, f46, f47, z48, rfl, rfl, h49, h50, h51, h52⟩ := hp
              refine J_nf (nh2 := nh) (ck2 := 0) (sk2 := 0) (st2 := [.int (zI z48)]) rfl rfl rfl rfl ?_
              refine J_app (L3 := [(118, .inl (0, 1260, .inl (zA f45))), (119, .inl (1, 1260, .inr (.inl (zAL f46)))), (120, .inl (0, 1260, .inl (zA f47))), (120, .inl (0, 1260, .inl (zA f3_29))), (119, .inl (1, 1260, .inr (.inl (zAL f2_29)))), (118, .inl (0, 1260, .inl (zA f1_29))), (130, .inl (2, 1260, .inl (zA g_29))), (98, .inr (12, (.int (zI ms) :: .int (zI mv) :: .ref 99 :: .ref 100 :: .ref 101 :: .ref 102 :: .ref 103 :: .ref 104 :: .ref 105 :: .int (zI mt) :: .int (zI mfa) :: .ref 106 :: .ref 107 :: .ref 108 :: .int (zI mtn) :: .int (zI mtk) :: .int (zI mlv) :: .int (zI mbd) :: .int (zI z14) :: .int (zI z15) :: .int (zI z16) :: .ref 109 :: .int (zI z17) :: .int (zI z18) :: .ref 110 :: .ref 111 :: .ref 112 :: .ref 113 :: .ref 114 :: .ref 115 :: .ref 116 :: .ref 117 :: .int (zI z1) :: .int (zI z2) :: .int (zI z3) :: .int (zI z7) :: .ref 118 :: .ref 119 :: .ref 120 :: .ref 121 :: .ref 122 :: .ref 123 :: .ref 124 :: .ref 125 :: .ref 126 :: .ref 127 :: .ref 128 :: .ref 129 :: .int (zI mfu) :: .ref 130 :: .ref 131 :: .ref 132 :: .ref 133 :: .ref 134 :: .int (zI mdm) :: .int (zI mla) :: []))), (110, .inl (0, 8820, .inl (zA f4))), (111, .inl (0, 1260, .inl (zA f5))), (117, .inl (0, 7, .inl (zA f6))), (112, .inl (0, 27720, .inl (zA f8))), (113, .inl (0, 27720, .inl (zA f9))), (114, .inl (0, 1260, .inl (zA f10))), (115, .inl (0, 27720, .inl (zA f11))), (116, .inl (0, 1260, .inl (zA f12))), (109, .inl (0, 8, .inl (zA f13)))]) rfl ?_
              refine J_mask (L2 := [(118, .inl (0, 1260, .inl (zA f45))), (119, .inl (1, 1260, .inr (.inl (zAL f46)))), (120, .inl (0, 1260, .inl (zA f47))), (130, .inl (2, 1260, .inl (zA g_29))), (98, .inr (12, (.int (zI ms) :: .int (zI mv) :: .ref 99 :: .ref 100 :: .ref 101 :: .ref 102 :: .ref 103 :: .ref 104 :: .ref 105 :: .int (zI mt) :: .int (zI mfa) :: .ref 106 :: .ref 107 :: .ref 108 :: .int (zI mtn) :: .int (zI mtk) :: .int (zI mlv) :: .int (zI mbd) :: .int (zI z14) :: .int (zI z15) :: .int (zI z16) :: .ref 109 :: .int (zI z17) :: .int (zI z18) :: .ref 110 :: .ref 111 :: .ref 112 :: .ref 113 :: .ref 114 :: .ref 115 :: .ref 116 :: .ref 117 :: .int (zI z1) :: .int (zI z2) :: .int (zI z3) :: .int (zI z7) :: .ref 118 :: .ref 119 :: .ref 120 :: .ref 121 :: .ref 122 :: .ref 123 :: .ref 124 :: .ref 125 :: .ref 126 :: .ref 127 :: .ref 128 :: .ref 129 :: .int (zI mfu) :: .ref 130 :: .ref 131 :: .ref 132 :: .ref 133 :: .ref 134 :: .int (zI mdm) :: .int (zI mla) :: []))), (110, .inl (0, 8820, .inl (zA f4))), (111, .inl (0, 1260, .inl (zA f5))), (117, .inl (0, 7, .inl (zA f6))), (112, .inl (0, 27720, .inl (zA f8))), (113, .inl (0, 27720, .inl (zA f9))), (114, .inl (0, 1260, .inl (zA f10))), (115, .inl (0, 27720, .inl (zA f11))), (116, .inl (0, 1260, .inl (zA f12))), (109, .inl (0, 8, .inl (zA f13)))]) (ks := [118, 119, 120, 120, 119, 118, 130, 98, 110, 111, 117, 112, 113, 114, 115, 116, 109]) [true, true, true, false, false, false, true, true, true, true, true, true, true, true, true, true, true] rfl (by decide +kernel) rfl ?_
              refine J_pop dX12_findsFits_55 rfl ?_
              refine Z_iconst (n := 0) dX12_findsFits_56 ?_
              refine J_istore_n dX12_findsFits_57 rfl (Nat.le_of_ble_eq_true rfl) rfl ?_
              refine J_ls (ls2 := [some (.ref 98), some (.int (zI k_29)), some (.int (zI 0))]) rfl ?_
              have lp58 : ∀ (N58 : Nat) (h_58 : Int) (g_58 : Int → Int), (0 ≤ h_58) → (h_58 ≤ z1) → (Rg g_58 1260 0 1) → (z1 - h_58).toNat < N58 → J l G MX12_findsFits { frames := 43, cells := 0, slots := 0, locals := 1018 } jE (jMQ G { frames := 43, cells := 0, slots := 0, locals := 1018 } (fun rr h9 => ∃ r : Int, ∃ hm2 : Int, ∃ pm2 : Int, ∃ hb2 : Int, ∃ co2 : Int → Int, ∃ cd2 : Int → Int, ∃ of2 : Int → Int, ∃ sb2 : Int, ∃ st2 : Int → Int, ∃ tk2 : Int → Int, ∃ sm2 : Int → Int, ∃ cf2 : Int → Int, ∃ cm2 : Int → Int, ∃ aq2 : Int → Int, ∃ go2 : Int, ∃ ge2 : Int, ∃ bk2 : Int, ∃ tt2 : Int, ∃ tl2 : Int, ∃ fa2 : Int → Int, ∃ fm2 : Int → Int, ∃ li2 : Int → Int, ∃ fg2 : Int → Int, rr = some (.int (zI r)) ∧ h9 = (nh, hc fh [(98, .inr (12, (.int (zI ms) :: .int (zI mv) :: .ref 99 :: .ref 100 :: .ref 101 :: .ref 102 :: .ref 103 :: .ref 104 :: .ref 105 :: .int (zI mt) :: .int (zI mfa) :: .ref 106 :: .ref 107 :: .ref 108 :: .int (zI mtn) :: .int (zI mtk) :: .int (zI mlv) :: .int (zI mbd) :: .int (zI go2) :: .int (zI ge2) :: .int (zI bk2) :: .ref 109 :: .int (zI tt2) :: .int (zI tl2) :: .ref 110 :: .ref 111 :: .ref 112 :: .ref 113 :: .ref 114 :: .ref 115 :: .ref 116 :: .ref 117 :: .int (zI hm2) :: .int (zI pm2) :: .int (zI hb2) :: .int (zI sb2) :: .ref 118 :: .ref 119 :: .ref 120 :: .ref 121 :: .ref 122 :: .ref 123 :: .ref 124 :: .ref 125 :: .ref 126 :: .ref 127 :: .ref 128 :: .ref 129 :: .int (zI mfu) :: .ref 130 :: .ref 131 :: .ref 132 :: .ref 133 :: .ref 134 :: .int (zI mdm) :: .int (zI mla) :: []))), (110, .inl (0, 8820, .inl (zA co2))), (111, .inl (0, 1260, .inl (zA cd2))), (117, .inl (0, 7, .inl (zA of2))), (112, .inl (0, 27720, .inl (zA st2))), (113, .inl (0, 27720, .inl (zA tk2))), (114, .inl (0, 1260, .inl (zA sm2))), (115, .inl (0, 27720, .inl (zA cf2))), (116, .inl (0, 1260, .inl (zA cm2))), (109, .inl (0, 8, .inl (zA aq2))), (118, .inl (0, 1260, .inl (zA fa2))), (119, .inl (1, 1260, .inr (.inl (zAL fm2)))), (120, .inl (0, 1260, .inl (zA li2))), (130, .inl (2, 1260, .inl (zA fg2)))]) ∧ (hm2 = Hi K) ∧ (pm2 = bsum K) ∧ (HouT co2 cd2 K hm2) ∧ (Rg of2 7 0 4) ∧ (1 ≤ hm2) ∧ (hm2 ≤ 1260) ∧ (0 ≤ pm2) ∧ (pm2 ≤ 7) ∧ (hb2 = mv) ∧ (sb2 = mv) ∧ (StM st2 tk2 sm2 hm2) ∧ (CoM cf2 cm2 st2 sm2 hm2) ∧ (0 ≤ bk2) ∧ (bk2 ≤ 1) ∧ (Rg aq2 8 (-2147483648) 2147483647) ∧ (Rg fg2 1260 0 1) ∧ (0 ≤ r) ∧ (r ≤ hm2))) (nh, hc fh [(118, .inl (0, 1260, .inl (zA f45))), (119, .inl (1, 1260, .inr (.inl (zAL f46)))), (120, .inl (0, 1260, .inl (zA f47))), (130, .inl (2, 1260, .inl (zA g_58))), (98, .inr (12, (.int (zI ms) :: .int (zI mv) :: .ref 99 :: .ref 100 :: .ref 101 :: .ref 102 :: .ref 103 :: .ref 104 :: .ref 105 :: .int (zI mt) :: .int (zI mfa) :: .ref 106 :: .ref 107 :: .ref 108 :: .int (zI mtn) :: .int (zI mtk) :: .int (zI mlv) :: .int (zI mbd) :: .int (zI z14) :: .int (zI z15) :: .int (zI z16) :: .ref 109 :: .int (zI z17) :: .int (zI z18) :: .ref 110 :: .ref 111 :: .ref 112 :: .ref 113 :: .ref 114 :: .ref 115 :: .ref 116 :: .ref 117 :: .int (zI z1) :: .int (zI z2) :: .int (zI z3) :: .int (zI z7) :: .ref 118 :: .ref 119 :: .ref 120 :: .ref 121 :: .ref 122 :: .ref 123 :: .ref 124 :: .ref 125 :: .ref 126 :: .ref 127 :: .ref 128 :: .ref 129 :: .int (zI mfu) :: .ref 130 :: .ref 131 :: .ref 132 :: .ref 133 :: .ref 134 :: .int (zI mdm) :: .int (zI mla) :: []))), (110, .inl (0, 8820, .inl (zA f4))), (111, .inl (0, 1260, .inl (zA f5))), (117, .inl (0, 7, .inl (zA f6))), (112, .inl (0, 27720, .inl (zA f8))), (113, .inl (0, 27720, .inl (zA f9))), (114, .inl (0, 1260, .inl (zA f10))), (115, .inl (0, 27720, .inl (zA f11))), (116, .inl (0, 1260, .inl (zA f12))), (109, .inl (0, 8, .inl (zA f13)))]) 0 0 58 [some (.ref 98), some (.int (zI k_29)), some (.int (zI h_58))] [] := by
                intro N58
                induction N58 with
                | zero => intro h_58 g_58 i58_0 i58_1 i58_2 hm; exact absurd hm (Nat.not_lt_zero _)
                | succ N58 ih58 =>
                  intro h_58 g_58 i58_0 i58_1 i58_2 hm58
                  refine J_iload_n dX12_findsFits_58 rfl rfl ?_
                  refine J_aload_n dX12_findsFits_59 rfl rfl ?_
                  refine J_get (v := .int (zI z1)) dX12_findsFits_60 fl_X12_298 rfl rfl ?_
                  refine Z_icmp_ge (tgt := 114) dX12_findsFits_63 (by decide) (v_c9ca704c4d h24 i58_0 i58_1) (v_81c6732ede h23 h24) (fun h53 => ?_) (fun h53 => ?_)
                  · refine Z_iinc (c := k_29 + 1) (ls2 := [some (.ref 98), some (.int (zI (k_29 + 1))), some (.int (zI h_58))]) dX12_findsFits_114 rfl (Nat.le_of_ble_eq_true rfl) rfl rfl rfl ?_
                    refine J_goto (tgt := 29) dX12_findsFits_117 (by decide) ?_
                    refine J_touch (k := 109) (e := .inl (0, 8, .inl (zA f13))) rfl ?_
                    refine J_touch (k := 116) (e := .inl (0, 1260, .inl (zA f12))) rfl ?_
                    refine J_touch (k := 115) (e := .inl (0, 27720, .inl (zA f11))) rfl ?_
                    refine J_touch (k := 114) (e := .inl (0, 1260, .inl (zA f10))) rfl ?_
                    refine J_touch (k := 113) (e := .inl (0, 27720, .inl (zA f9))) rfl ?_
                    refine J_touch (k := 112) (e := .inl (0, 27720, .inl (zA f8))) rfl ?_
                    refine J_touch (k := 117) (e := .inl (0, 7, .inl (zA f6))) rfl ?_
                    refine J_touch (k := 111) (e := .inl (0, 1260, .inl (zA f5))) rfl ?_
                    refine J_touch (k := 110) (e := .inl (0, 8820, .inl (zA f4))) rfl ?_
                    refine J_touch (k := 98) (e := .inr (12, (.int (zI ms) :: .int (zI mv) :: .ref 99 :: .ref 100 :: .ref 101 :: .ref 102 :: .ref 103 :: .ref 104 :: .ref 105 :: .int (zI mt) :: .int (zI mfa) :: .ref 106 :: .ref 107 :: .ref 108 :: .int (zI mtn) :: .int (zI mtk) :: .int (zI mlv) :: .int (zI mbd) :: .int (zI z14) :: .int (zI z15) :: .int (zI z16) :: .ref 109 :: .int (zI z17) :: .int (zI z18) :: .ref 110 :: .ref 111 :: .ref 112 :: .ref 113 :: .ref 114 :: .ref 115 :: .ref 116 :: .ref 117 :: .int (zI z1) :: .int (zI z2) :: .int (zI z3) :: .int (zI z7) :: .ref 118 :: .ref 119 :: .ref 120 :: .ref 121 :: .ref 122 :: .ref 123 :: .ref 124 :: .ref 125 :: .ref 126 :: .ref 127 :: .ref 128 :: .ref 129 :: .int (zI mfu) :: .ref 130 :: .ref 131 :: .ref 132 :: .ref 133 :: .ref 134 :: .int (zI mdm) :: .int (zI mla) :: []))) rfl ?_
                    refine J_touch (k := 130) (e := .inl (2, 1260, .inl (zA g_58))) rfl ?_
                    refine J_touch (k := 118) (e := .inl (0, 1260, .inl (zA f45))) rfl ?_
                    refine J_touch (k := 119) (e := .inl (1, 1260, .inr (.inl (zAL f46)))) rfl ?_
                    refine J_touch (k := 120) (e := .inl (0, 1260, .inl (zA f47))) rfl ?_
                    refine J_mask (L2 := [(120, .inl (0, 1260, .inl (zA f47))), (119, .inl (1, 1260, .inr (.inl (zAL f46)))), (118, .inl (0, 1260, .inl (zA f45))), (130, .inl (2, 1260, .inl (zA g_58))), (98, .inr (12, (.int (zI ms) :: .int (zI mv) :: .ref 99 :: .ref 100 :: .ref 101 :: .ref 102 :: .ref 103 :: .ref 104 :: .ref 105 :: .int (zI mt) :: .int (zI mfa) :: .ref 106 :: .ref 107 :: .ref 108 :: .int (zI mtn) :: .int (zI mtk) :: .int (zI mlv) :: .int (zI mbd) :: .int (zI z14) :: .int (zI z15) :: .int (zI z16) :: .ref 109 :: .int (zI z17) :: .int (zI z18) :: .ref 110 :: .ref 111 :: .ref 112 :: .ref 113 :: .ref 114 :: .ref 115 :: .ref 116 :: .ref 117 :: .int (zI z1) :: .int (zI z2) :: .int (zI z3) :: .int (zI z7) :: .ref 118 :: .ref 119 :: .ref 120 :: .ref 121 :: .ref 122 :: .ref 123 :: .ref 124 :: .ref 125 :: .ref 126 :: .ref 127 :: .ref 128 :: .ref 129 :: .int (zI mfu) :: .ref 130 :: .ref 131 :: .ref 132 :: .ref 133 :: .ref 134 :: .int (zI mdm) :: .int (zI mla) :: []))), (110, .inl (0, 8820, .inl (zA f4))), (111, .inl (0, 1260, .inl (zA f5))), (117, .inl (0, 7, .inl (zA f6))), (112, .inl (0, 27720, .inl (zA f8))), (113, .inl (0, 27720, .inl (zA f9))), (114, .inl (0, 1260, .inl (zA f10))), (115, .inl (0, 27720, .inl (zA f11))), (116, .inl (0, 1260, .inl (zA f12))), (109, .inl (0, 8, .inl (zA f13)))]) (ks := [120, 119, 118, 130, 98, 110, 111, 117, 112, 113, 114, 115, 116, 109, 118, 119, 120, 130, 98, 110, 111, 117, 112, 113, 114, 115, 116, 109]) [true, true, true, true, true, true, true, true, true, true, true, true, true, true, false, false, false, false, false, false, false, false, false, false, false, false, false, false] rfl (by decide +kernel) rfl ?_
                    refine J_drop (ls2 := [some (.ref 98), some (.int (zI (k_29 + 1))), none]) [true, true, false] rfl ?_
                    exact ih29 (k_29 + 1) f45 f46 f47 g_58 (v_da458fa48a i29_0) (v_5a90fa72ab ez35 h37) i58_2 (meas_lt v_90eacd6fd4 (v_3d52b46b20 ez35 h37) hm29)
                  · refine J_aload_n dX12_findsFits_66 rfl rfl ?_
                    refine J_get (v := .ref 130) dX12_findsFits_67 fl_X12_123 rfl rfl ?_
                    refine J_iload_n dX12_findsFits_70 rfl rfl ?_
                    refine J_aload_n dX12_findsFits_71 rfl rfl ?_
                    refine J_get (v := .ref 130) dX12_findsFits_72 fl_X12_123 rfl rfl ?_
                    refine J_iload_n dX12_findsFits_75 rfl rfl ?_
                    obtain ⟨z54, ez54⟩ : ∃ z : Int, g_58 h_58 = z := ⟨_, rfl⟩
                    have h55 := Rg.at i58_2 (v_2b02420001 i58_0) (v_610e7c4416 h24 h53) ez54
                    refine Y_zald (z := z54) 1260 dX12_findsFits_76 rfl rfl (by decide) (v_2b02420001 i58_0) (v_610e7c4416 h24 h53) ez54 ?_
                    refine Z_if_eq (tgt := 106) dX12_findsFits_77 (by decide) (v_5f10a759cd h55.1 h55.2) (fun h56 => ?_) (fun h56 => ?_)
                    · refine Z_iconst (n := 0) dX12_findsFits_106 ?_
                      refine Y_zast (v := 0) 1260 dX12_findsFits_107 rfl rfl (by decide) (v_2b02420001 i58_0) (v_610e7c4416 h24 h53) v_939070ca3f v_316afd7d0b (fun f57 ef57 => ?_)
                      have h58 : Rg f57 1260 0 1 := Rg.ups i58_2 ef57 v_939070ca3f v_316afd7d0b
                      refine Z_iinc (c := h_58 + 1) (ls2 := [some (.ref 98), some (.int (zI k_29)), some (.int (zI (h_58 + 1)))]) dX12_findsFits_108 rfl (Nat.le_of_ble_eq_true rfl) rfl rfl rfl ?_
                      refine J_goto (tgt := 58) dX12_findsFits_111 (by decide) ?_
                      refine J_mask (L2 := [(130, .inl (2, 1260, .inl (zA f57))), (118, .inl (0, 1260, .inl (zA f45))), (119, .inl (1, 1260, .inr (.inl (zAL f46)))), (120, .inl (0, 1260, .inl (zA f47))), (98, .inr (12, (.int (zI ms) :: .int (zI mv) :: .ref 99 :: .ref 100 :: .ref 101 :: .ref 102 :: .ref 103 :: .ref 104 :: .ref 105 :: .int (zI mt) :: .int (zI mfa) :: .ref 106 :: .ref 107 :: .ref 108 :: .int (zI mtn) :: .int (zI mtk) :: .int (zI mlv) :: .int (zI mbd) :: .int (zI z14) :: .int (zI z15) :: .int (zI z16) :: .ref 109 :: .int (zI z17) :: .int (zI z18) :: .ref 110 :: .ref 111 :: .ref 112 :: .ref 113 :: .ref 114 :: .ref 115 :: .ref 116 :: .ref 117 :: .int (zI z1) :: .int (zI z2) :: .int (zI z3) :: .int (zI z7) :: .ref 118 :: .ref 119 :: .ref 120 :: .ref 121 :: .ref 122 :: .ref 123 :: .ref 124 :: .ref 125 :: .ref 126 :: .ref 127 :: .ref 128 :: .ref 129 :: .int (zI mfu) :: .ref 130 :: .ref 131 :: .ref 132 :: .ref 133 :: .ref 134 :: .int (zI mdm) :: .int (zI mla) :: []))), (110, .inl (0, 8820, .inl (zA f4))), (111, .inl (0, 1260, .inl (zA f5))), (117, .inl (0, 7, .inl (zA f6))), (112, .inl (0, 27720, .inl (zA f8))), (113, .inl (0, 27720, .inl (zA f9))), (114, .inl (0, 1260, .inl (zA f10))), (115, .inl (0, 27720, .inl (zA f11))), (116, .inl (0, 1260, .inl (zA f12))), (109, .inl (0, 8, .inl (zA f13)))]) (ks := [130, 118, 119, 120, 130, 98, 110, 111, 117, 112, 113, 114, 115, 116, 109]) [true, true, true, true, false, true, true, true, true, true, true, true, true, true, true] rfl (by decide +kernel) rfl ?_
                      refine J_touch (k := 109) (e := .inl (0, 8, .inl (zA f13))) rfl ?_
                      refine J_touch (k := 116) (e := .inl (0, 1260, .inl (zA f12))) rfl ?_
                      refine J_touch (k := 115) (e := .inl (0, 27720, .inl (zA f11))) rfl ?_
                      refine J_touch (k := 114) (e := .inl (0, 1260, .inl (zA f10))) rfl ?_
                      refine J_touch (k := 113) (e := .inl (0, 27720, .inl (zA f9))) rfl ?_
                      refine J_touch (k := 112) (e := .inl (0, 27720, .inl (zA f8))) rfl ?_
                      refine J_touch (k := 117) (e := .inl (0, 7, .inl (zA f6))) rfl ?_
                      refine J_touch (k := 111) (e := .inl (0, 1260, .inl (zA f5))) rfl ?_
                      refine J_touch (k := 110) (e := .inl (0, 8820, .inl (zA f4))) rfl ?_
                      refine J_touch (k := 98) (e := .inr (12, (.int (zI ms) :: .int (zI mv) :: .ref 99 :: .ref 100 :: .ref 101 :: .ref 102 :: .ref 103 :: .ref 104 :: .ref 105 :: .int (zI mt) :: .int (zI mfa) :: .ref 106 :: .ref 107 :: .ref 108 :: .int (zI mtn) :: .int (zI mtk) :: .int (zI mlv) :: .int (zI mbd) :: .int (zI z14) :: .int (zI z15) :: .int (zI z16) :: .ref 109 :: .int (zI z17) :: .int (zI z18) :: .ref 110 :: .ref 111 :: .ref 112 :: .ref 113 :: .ref 114 :: .ref 115 :: .ref 116 :: .ref 117 :: .int (zI z1) :: .int (zI z2) :: .int (zI z3) :: .int (zI z7) :: .ref 118 :: .ref 119 :: .ref 120 :: .ref 121 :: .ref 122 :: .ref 123 :: .ref 124 :: .ref 125 :: .ref 126 :: .ref 127 :: .ref 128 :: .ref 129 :: .int (zI mfu) :: .ref 130 :: .ref 131 :: .ref 132 :: .ref 133 :: .ref 134 :: .int (zI mdm) :: .int (zI mla) :: []))) rfl ?_
                      refine J_touch (k := 130) (e := .inl (2, 1260, .inl (zA f57))) rfl ?_
                      refine J_touch (k := 120) (e := .inl (0, 1260, .inl (zA f47))) rfl ?_
                      refine J_touch (k := 119) (e := .inl (1, 1260, .inr (.inl (zAL f46)))) rfl ?_
                      refine J_touch (k := 118) (e := .inl (0, 1260, .inl (zA f45))) rfl ?_
                      refine J_mask (L2 := [(118, .inl (0, 1260, .inl (zA f45))), (119, .inl (1, 1260, .inr (.inl (zAL f46)))), (120, .inl (0, 1260, .inl (zA f47))), (130, .inl (2, 1260, .inl (zA f57))), (98, .inr (12, (.int (zI ms) :: .int (zI mv) :: .ref 99 :: .ref 100 :: .ref 101 :: .ref 102 :: .ref 103 :: .ref 104 :: .ref 105 :: .int (zI mt) :: .int (zI mfa) :: .ref 106 :: .ref 107 :: .ref 108 :: .int (zI mtn) :: .int (zI mtk) :: .int (zI mlv) :: .int (zI mbd) :: .int (zI z14) :: .int (zI z15) :: .int (zI z16) :: .ref 109 :: .int (zI z17) :: .int (zI z18) :: .ref 110 :: .ref 111 :: .ref 112 :: .ref 113 :: .ref 114 :: .ref 115 :: .ref 116 :: .ref 117 :: .int (zI z1) :: .int (zI z2) :: .int (zI z3) :: .int (zI z7) :: .ref 118 :: .ref 119 :: .ref 120 :: .ref 121 :: .ref 122 :: .ref 123 :: .ref 124 :: .ref 125 :: .ref 126 :: .ref 127 :: .ref 128 :: .ref 129 :: .int (zI mfu) :: .ref 130 :: .ref 131 :: .ref 132 :: .ref 133 :: .ref 134 :: .int (zI mdm) :: .int (zI mla) :: []))), (110, .inl (0, 8820, .inl (zA f4))), (111, .inl (0, 1260, .inl (zA f5))), (117, .inl (0, 7, .inl (zA f6))), (112, .inl (0, 27720, .inl (zA f8))), (113, .inl (0, 27720, .inl (zA f9))), (114, .inl (0, 1260, .inl (zA f10))), (115, .inl (0, 27720, .inl (zA f11))), (116, .inl (0, 1260, .inl (zA f12))), (109, .inl (0, 8, .inl (zA f13)))]) (ks := [118, 119, 120, 130, 98, 110, 111, 117, 112, 113, 114, 115, 116, 109, 130, 118, 119, 120, 98, 110, 111, 117, 112, 113, 114, 115, 116, 109]) [true, true, true, true, true, true, true, true, true, true, true, true, true, true, false, false, false, false, false, false, false, false, false, false, false, false, false, false] rfl (by decide +kernel) rfl ?_
                      exact ih58 (h_58 + 1) f57 (v_da458fa48a i58_0) (v_e390a36114 h53) h58 (meas_lt v_90eacd6fd4 (v_8b7dd7d486 h53) hm58)
                    · refine J_aload_n dX12_findsFits_80 rfl rfl ?_
                      refine J_get (v := .ref 118) dX12_findsFits_81 fl_X12_85 rfl rfl ?_
                      refine J_iload_n dX12_findsFits_84 rfl rfl ?_
                      obtain ⟨z59, ez59⟩ : ∃ z : Int, f45 h_58 = z := ⟨_, rfl⟩
                      have h60 := Rg.at h52 (v_2b02420001 i58_0) (v_fe9ea41faa h53) ez59
                      refine Y_iald (z := z59) 1260 dX12_findsFits_85 rfl rfl (by decide) (v_2b02420001 i58_0) (v_610e7c4416 h24 h53) ez59 ?_
                      refine J_aload_n dX12_findsFits_86 rfl rfl ?_
                      refine J_get (v := .ref 100) dX12_findsFits_87 fl_X12_20 rfl rfl ?_
                      refine Z_bipush (n := 47) dX12_findsFits_90 (by decide +kernel) ?_
                      refine Z_iconst (n := 2) dX12_findsFits_92 ?_
                      refine J_iload_n dX12_findsFits_93 rfl rfl ?_
                      refine Z_imul (c := 2 * k_29) dX12_findsFits_94 rfl ?_
                      refine Z_iadd (c := 2 * k_29 + 47) dX12_findsFits_95 v_1920de26d1 ?_
                      refine Z_iconst (n := 1) dX12_findsFits_96 ?_
                      refine Z_iadd (c := 2 * k_29 + 48) dX12_findsFits_97 v_befdbcd050 ?_
                      obtain ⟨z61, ez61⟩ : ∃ z : Int, K (2 * k_29 + 48) = z := ⟨_, rfl⟩
                      have h62 := Rg.at q0.2.2.2.2.2.2.2.2.1 (v_48aecac2c6 i29_0) (v_3027c7ec56 q0.2.2.2.2.1.2 i29_1) ez61
                      refine Y_iald (z := z61) 4870 dX12_findsFits_98 hk100 rfl (by decide) (v_48aecac2c6 i29_0) (v_3027c7ec56 q0.2.2.2.2.1.2 i29_1) ez61 ?_
                      refine Z_icmp_ne (tgt := 106) dX12_findsFits_99 (by decide) (v_1331e3f574 h24 h60.1 h60.2) (v_f306e1cdb8 h62.1 h62.2) (fun h63 => ?_) (fun h63 => ?_)
                      · refine Z_iconst (n := 0) dX12_findsFits_106 ?_
                        refine Y_zast (v := 0) 1260 dX12_findsFits_107 rfl rfl (by decide) (v_2b02420001 i58_0) (v_610e7c4416 h24 h53) v_939070ca3f v_316afd7d0b (fun f64 ef64 => ?_)
                        have h65 : Rg f64 1260 0 1 := Rg.ups i58_2 ef64 v_939070ca3f v_316afd7d0b
                        refine Z_iinc (c := h_58 + 1) (ls2 := [some (.ref 98), some (.int (zI k_29)), some (.int (zI (h_58 + 1)))]) dX12_findsFits_108 rfl (Nat.le_of_ble_eq_true rfl) rfl rfl rfl ?_
                        refine J_goto (tgt := 58) dX12_findsFits_111 (by decide) ?_
                        refine J_mask (L2 := [(130, .inl (2, 1260, .inl (zA f64))), (118, .inl (0, 1260, .inl (zA f45))), (119, .inl (1, 1260, .inr (.inl (zAL f46)))), (120, .inl (0, 1260, .inl (zA f47))), (98, .inr (12, (.int (zI ms) :: .int (zI mv) :: .ref 99 :: .ref 100 :: .ref 101 :: .ref 102 :: .ref 103 :: .ref 104 :: .ref 105 :: .int (zI mt) :: .int (zI mfa) :: .ref 106 :: .ref 107 :: .ref 108 :: .int (zI mtn) :: .int (zI mtk) :: .int (zI mlv) :: .int (zI mbd) :: .int (zI z14) :: .int (zI z15) :: .int (zI z16) :: .ref 109 :: .int (zI z17) :: .int (zI z18) :: .ref 110 :: .ref 111 :: .ref 112 :: .ref 113 :: .ref 114 :: .ref 115 :: .ref 116 :: .ref 117 :: .int (zI z1) :: .int (zI z2) :: .int (zI z3) :: .int (zI z7) :: .ref 118 :: .ref 119 :: .ref 120 :: .ref 121 :: .ref 122 :: .ref 123 :: .ref 124 :: .ref 125 :: .ref 126 :: .ref 127 :: .ref 128 :: .ref 129 :: .int (zI mfu) :: .ref 130 :: .ref 131 :: .ref 132 :: .ref 133 :: .ref 134 :: .int (zI mdm) :: .int (zI mla) :: []))), (110, .inl (0, 8820, .inl (zA f4))), (111, .inl (0, 1260, .inl (zA f5))), (117, .inl (0, 7, .inl (zA f6))), (112, .inl (0, 27720, .inl (zA f8))), (113, .inl (0, 27720, .inl (zA f9))), (114, .inl (0, 1260, .inl (zA f10))), (115, .inl (0, 27720, .inl (zA f11))), (116, .inl (0, 1260, .inl (zA f12))), (109, .inl (0, 8, .inl (zA f13)))]) (ks := [130, 118, 119, 120, 130, 98, 110, 111, 117, 112, 113, 114, 115, 116, 109]) [true, true, true, true, false, true, true, true, true, true, true, true, true, true, true] rfl (by decide +kernel) rfl ?_
                        refine J_touch (k := 109) (e := .inl (0, 8, .inl (zA f13))) rfl ?_
                        refine J_touch (k := 116) (e := .inl (0, 1260, .inl (zA f12))) rfl ?_
                        refine J_touch (k := 115) (e := .inl (0, 27720, .inl (zA f11))) rfl ?_
                        refine J_touch (k := 114) (e := .inl (0, 1260, .inl (zA f10))) rfl ?_
                        refine J_touch (k := 113) (e := .inl (0, 27720, .inl (zA f9))) rfl ?_
                        refine J_touch (k := 112) (e := .inl (0, 27720, .inl (zA f8))) rfl ?_
                        refine J_touch (k := 117) (e := .inl (0, 7, .inl (zA f6))) rfl ?_
                        refine J_touch (k := 111) (e := .inl (0, 1260, .inl (zA f5))) rfl ?_
                        refine J_touch (k := 110) (e := .inl (0, 8820, .inl (zA f4))) rfl ?_
                        refine J_touch (k := 98) (e := .inr (12, (.int (zI ms) :: .int (zI mv) :: .ref 99 :: .ref 100 :: .ref 101 :: .ref 102 :: .ref 103 :: .ref 104 :: .ref 105 :: .int (zI mt) :: .int (zI mfa) :: .ref 106 :: .ref 107 :: .ref 108 :: .int (zI mtn) :: .int (zI mtk) :: .int (zI mlv) :: .int (zI mbd) :: .int (zI z14) :: .int (zI z15) :: .int (zI z16) :: .ref 109 :: .int (zI z17) :: .int (zI z18) :: .ref 110 :: .ref 111 :: .ref 112 :: .ref 113 :: .ref 114 :: .ref 115 :: .ref 116 :: .ref 117 :: .int (zI z1) :: .int (zI z2) :: .int (zI z3) :: .int (zI z7) :: .ref 118 :: .ref 119 :: .ref 120 :: .ref 121 :: .ref 122 :: .ref 123 :: .ref 124 :: .ref 125 :: .ref 126 :: .ref 127 :: .ref 128 :: .ref 129 :: .int (zI mfu) :: .ref 130 :: .ref 131 :: .ref 132 :: .ref 133 :: .ref 134 :: .int (zI mdm) :: .int (zI mla) :: []))) rfl ?_
                        refine J_touch (k := 130) (e := .inl (2, 1260, .inl (zA f64))) rfl ?_
                        refine J_touch (k := 120) (e := .inl (0, 1260, .inl (zA f47))) rfl ?_
                        refine J_touch (k := 119) (e := .inl (1, 1260, .inr (.inl (zAL f46)))) rfl ?_
                        refine J_touch (k := 118) (e := .inl (0, 1260, .inl (zA f45))) rfl ?_
                        refine J_mask (L2 := [(118, .inl (0, 1260, .inl (zA f45))), (119, .inl (1, 1260, .inr (.inl (zAL f46)))), (120, .inl (0, 1260, .inl (zA f47))), (130, .inl (2, 1260, .inl (zA f64))), (98, .inr (12, (.int (zI ms) :: .int (zI mv) :: .ref 99 :: .ref 100 :: .ref 101 :: .ref 102 :: .ref 103 :: .ref 104 :: .ref 105 :: .int (zI mt) :: .int (zI mfa) :: .ref 106 :: .ref 107 :: .ref 108 :: .int (zI mtn) :: .int (zI mtk) :: .int (zI mlv) :: .int (zI mbd) :: .int (zI z14) :: .int (zI z15) :: .int (zI z16) :: .ref 109 :: .int (zI z17) :: .int (zI z18) :: .ref 110 :: .ref 111 :: .ref 112 :: .ref 113 :: .ref 114 :: .ref 115 :: .ref 116 :: .ref 117 :: .int (zI z1) :: .int (zI z2) :: .int (zI z3) :: .int (zI z7) :: .ref 118 :: .ref 119 :: .ref 120 :: .ref 121 :: .ref 122 :: .ref 123 :: .ref 124 :: .ref 125 :: .ref 126 :: .ref 127 :: .ref 128 :: .ref 129 :: .int (zI mfu) :: .ref 130 :: .ref 131 :: .ref 132 :: .ref 133 :: .ref 134 :: .int (zI mdm) :: .int (zI mla) :: []))), (110, .inl (0, 8820, .inl (zA f4))), (111, .inl (0, 1260, .inl (zA f5))), (117, .inl (0, 7, .inl (zA f6))), (112, .inl (0, 27720, .inl (zA f8))), (113, .inl (0, 27720, .inl (zA f9))), (114, .inl (0, 1260, .inl (zA f10))), (115, .inl (0, 27720, .inl (zA f11))), (116, .inl (0, 1260, .inl (zA f12))), (109, .inl (0, 8, .inl (zA f13)))]) (ks := [118, 119, 120, 130, 98, 110, 111, 117, 112, 113, 114, 115, 116, 109, 130, 118, 119, 120, 98, 110, 111, 117, 112, 113, 114, 115, 116, 109]) [true, true, true, true, true, true, true, true, true, true, true, true, true, true, false, false, false, false, false, false, false, false, false, false, false, false, false, false] rfl (by decide +kernel) rfl ?_
                        exact ih58 (h_58 + 1) f64 (v_da458fa48a i58_0) (v_e390a36114 h53) h65 (meas_lt v_90eacd6fd4 (v_8b7dd7d486 h53) hm58)
                      · refine Z_iconst (n := 1) dX12_findsFits_102 ?_
                        refine J_goto (tgt := 107) dX12_findsFits_103 (by decide) ?_
                        refine Y_zast (v := 1) 1260 dX12_findsFits_107 rfl rfl (by decide) (v_2b02420001 i58_0) (v_610e7c4416 h24 h53) v_316afd7d0b v_bbcfac9b7d (fun f66 ef66 => ?_)
                        have h67 : Rg f66 1260 0 1 := Rg.ups i58_2 ef66 v_316afd7d0b v_bbcfac9b7d
                        refine Z_iinc (c := h_58 + 1) (ls2 := [some (.ref 98), some (.int (zI k_29)), some (.int (zI (h_58 + 1)))]) dX12_findsFits_108 rfl (Nat.le_of_ble_eq_true rfl) rfl rfl rfl ?_
                        refine J_goto (tgt := 58) dX12_findsFits_111 (by decide) ?_
                        refine J_mask (L2 := [(130, .inl (2, 1260, .inl (zA f66))), (118, .inl (0, 1260, .inl (zA f45))), (119, .inl (1, 1260, .inr (.inl (zAL f46)))), (120, .inl (0, 1260, .inl (zA f47))), (98, .inr (12, (.int (zI ms) :: .int (zI mv) :: .ref 99 :: .ref 100 :: .ref 101 :: .ref 102 :: .ref 103 :: .ref 104 :: .ref 105 :: .int (zI mt) :: .int (zI mfa) :: .ref 106 :: .ref 107 :: .ref 108 :: .int (zI mtn) :: .int (zI mtk) :: .int (zI mlv) :: .int (zI mbd) :: .int (zI z14) :: .int (zI z15) :: .int (zI z16) :: .ref 109 :: .int (zI z17) :: .int (zI z18) :: .ref 110 :: .ref 111 :: .ref 112 :: .ref 113 :: .ref 114 :: .ref 115 :: .ref 116 :: .ref 117 :: .int (zI z1) :: .int (zI z2) :: .int (zI z3) :: .int (zI z7) :: .ref 118 :: .ref 119 :: .ref 120 :: .ref 121 :: .ref 122 :: .ref 123 :: .ref 124 :: .ref 125 :: .ref 126 :: .ref 127 :: .ref 128 :: .ref 129 :: .int (zI mfu) :: .ref 130 :: .ref 131 :: .ref 132 :: .ref 133 :: .ref 134 :: .int (zI mdm) :: .int (zI mla) :: []))), (110, .inl (0, 8820, .inl (zA f4))), (111, .inl (0, 1260, .inl (zA f5))), (117, .inl (0, 7, .inl (zA f6))), (112, .inl (0, 27720, .inl (zA f8))), (113, .inl (0, 27720, .inl (zA f9))), (114, .inl (0, 1260, .inl (zA f10))), (115, .inl (0, 27720, .inl (zA f11))), (116, .inl (0, 1260, .inl (zA f12))), (109, .inl (0, 8, .inl (zA f13)))]) (ks := [130, 118, 119, 120, 130, 98, 110, 111, 117, 112, 113, 114, 115, 116, 109]) [true, true, true, true, false, true, true, true, true, true, true, true, true, true, true] rfl (by decide +kernel) rfl ?_
                        refine J_touch (k := 109) (e := .inl (0, 8, .inl (zA f13))) rfl ?_
                        refine J_touch (k := 116) (e := .inl (0, 1260, .inl (zA f12))) rfl ?_
                        refine J_touch (k := 115) (e := .inl (0, 27720, .inl (zA f11))) rfl ?_
                        refine J_touch (k := 114) (e := .inl (0, 1260, .inl (zA f10))) rfl ?_
                        refine J_touch (k := 113) (e := .inl (0, 27720, .inl (zA f9))) rfl ?_
                        refine J_touch (k := 112) (e := .inl (0, 27720, .inl (zA f8))) rfl ?_
                        refine J_touch (k := 117) (e := .inl (0, 7, .inl (zA f6))) rfl ?_
                        refine J_touch (k := 111) (e := .inl (0, 1260, .inl (zA f5))) rfl ?_
                        refine J_touch (k := 110) (e := .inl (0, 8820, .inl (zA f4))) rfl ?_
                        refine J_touch (k := 98) (e := .inr (12, (.int (zI ms) :: .int (zI mv) :: .ref 99 :: .ref 100 :: .ref 101 :: .ref 102 :: .ref 103 :: .ref 104 :: .ref 105 :: .int (zI mt) :: .int (zI mfa) :: .ref 106 :: .ref 107 :: .ref 108 :: .int (zI mtn) :: .int (zI mtk) :: .int (zI mlv) :: .int (zI mbd) :: .int (zI z14) :: .int (zI z15) :: .int (zI z16) :: .ref 109 :: .int (zI z17) :: .int (zI z18) :: .ref 110 :: .ref 111 :: .ref 112 :: .ref 113 :: .ref 114 :: .ref 115 :: .ref 116 :: .ref 117 :: .int (zI z1) :: .int (zI z2) :: .int (zI z3) :: .int (zI z7) :: .ref 118 :: .ref 119 :: .ref 120 :: .ref 121 :: .ref 122 :: .ref 123 :: .ref 124 :: .ref 125 :: .ref 126 :: .ref 127 :: .ref 128 :: .ref 129 :: .int (zI mfu) :: .ref 130 :: .ref 131 :: .ref 132 :: .ref 133 :: .ref 134 :: .int (zI mdm) :: .int (zI mla) :: []))) rfl ?_
                        refine J_touch (k := 130) (e := .inl (2, 1260, .inl (zA f66))) rfl ?_
                        refine J_touch (k := 120) (e := .inl (0, 1260, .inl (zA f47))) rfl ?_
                        refine J_touch (k := 119) (e := .inl (1, 1260, .inr (.inl (zAL f46)))) rfl ?_
                        refine J_touch (k := 118) (e := .inl (0, 1260, .inl (zA f45))) rfl ?_
                        refine J_mask (L2 := [(118, .inl (0, 1260, .inl (zA f45))), (119, .inl (1, 1260, .inr (.inl (zAL f46)))), (120, .inl (0, 1260, .inl (zA f47))), (130, .inl (2, 1260, .inl (zA f66))), (98, .inr (12, (.int (zI ms) :: .int (zI mv) :: .ref 99 :: .ref 100 :: .ref 101 :: .ref 102 :: .ref 103 :: .ref 104 :: .ref 105 :: .int (zI mt) :: .int (zI mfa) :: .ref 106 :: .ref 107 :: .ref 108 :: .int (zI mtn) :: .int (zI mtk) :: .int (zI mlv) :: .int (zI mbd) :: .int (zI z14) :: .int (zI z15) :: .int (zI z16) :: .ref 109 :: .int (zI z17) :: .int (zI z18) :: .ref 110 :: .ref 111 :: .ref 112 :: .ref 113 :: .ref 114 :: .ref 115 :: .ref 116 :: .ref 117 :: .int (zI z1) :: .int (zI z2) :: .int (zI z3) :: .int (zI z7) :: .ref 118 :: .ref 119 :: .ref 120 :: .ref 121 :: .ref 122 :: .ref 123 :: .ref 124 :: .ref 125 :: .ref 126 :: .ref 127 :: .ref 128 :: .ref 129 :: .int (zI mfu) :: .ref 130 :: .ref 131 :: .ref 132 :: .ref 133 :: .ref 134 :: .int (zI mdm) :: .int (zI mla) :: []))), (110, .inl (0, 8820, .inl (zA f4))), (111, .inl (0, 1260, .inl (zA f5))), (117, .inl (0, 7, .inl (zA f6))), (112, .inl (0, 27720, .inl (zA f8))), (113, .inl (0, 27720, .inl (zA f9))), (114, .inl (0, 1260, .inl (zA f10))), (115, .inl (0, 27720, .inl (zA f11))), (116, .inl (0, 1260, .inl (zA f12))), (109, .inl (0, 8, .inl (zA f13)))]) (ks := [118, 119, 120, 130, 98, 110, 111, 117, 112, 113, 114, 115, 116, 109, 130, 118, 119, 120, 98, 110, 111, 117, 112, 113, 114, 115, 116, 109]) [true, true, true, true, true, true, true, true, true, true, true, true, true, true, false, false, false, false, false, false, false, false, false, false, false, false, false, false] rfl (by decide +kernel) rfl ?_
                        exact ih58 (h_58 + 1) f66 (v_da458fa48a i58_0) (v_e390a36114 h53) h67 (meas_lt v_90eacd6fd4 (v_8b7dd7d486 h53) hm58)
              exact lp58 _ 0 g_29 v_939070ca3f (v_632d2dbe78 h23) i29_2 (Nat.lt_succ_self _)
        exact lp29 _ 0 fa fm li g_6 v_939070ca3f q0.2.2.2.2.1.1 i6_2 (Nat.lt_succ_self _)
      · refine J_aload_n dX12_findsFits_14 rfl rfl ?_
        refine J_get (v := .ref 130) dX12_findsFits_15 fl_X12_123 rfl rfl ?_
        refine J_iload_n dX12_findsFits_18 rfl rfl ?_
        refine Z_iconst (n := 1) dX12_findsFits_19 ?_
        refine Y_zast (v := 1) 1260 dX12_findsFits_20 rfl rfl (by decide) (v_2b02420001 i6_0) (v_610e7c4416 h24 h34) v_316afd7d0b v_bbcfac9b7d (fun f68 ef68 => ?_)
        have h69 : Rg f68 1260 0 1 := Rg.ups i6_2 ef68 v_316afd7d0b v_bbcfac9b7d
        refine Z_iinc (c := h_6 + 1) (ls2 := [some (.ref 98), some (.int (zI (h_6 + 1))), none]) dX12_findsFits_21 rfl (Nat.le_of_ble_eq_true rfl) rfl rfl rfl ?_
        refine J_goto (tgt := 6) dX12_findsFits_24 (by decide) ?_
        refine J_mask (L2 := [(130, .inl (2, 1260, .inl (zA f68))), (98, .inr (12, (.int (zI ms) :: .int (zI mv) :: .ref 99 :: .ref 100 :: .ref 101 :: .ref 102 :: .ref 103 :: .ref 104 :: .ref 105 :: .int (zI mt) :: .int (zI mfa) :: .ref 106 :: .ref 107 :: .ref 108 :: .int (zI mtn) :: .int (zI mtk) :: .int (zI mlv) :: .int (zI mbd) :: .int (zI z14) :: .int (zI z15) :: .int (zI z16) :: .ref 109 :: .int (zI z17) :: .int (zI z18) :: .ref 110 :: .ref 111 :: .ref 112 :: .ref 113 :: .ref 114 :: .ref 115 :: .ref 116 :: .ref 117 :: .int (zI z1) :: .int (zI z2) :: .int (zI z3) :: .int (zI z7) :: .ref 118 :: .ref 119 :: .ref 120 :: .ref 121 :: .ref 122 :: .ref 123 :: .ref 124 :: .ref 125 :: .ref 126 :: .ref 127 :: .ref 128 :: .ref 129 :: .int (zI mfu) :: .ref 130 :: .ref 131 :: .ref 132 :: .ref 133 :: .ref 134 :: .int (zI mdm) :: .int (zI mla) :: []))), (110, .inl (0, 8820, .inl (zA f4))), (111, .inl (0, 1260, .inl (zA f5))), (117, .inl (0, 7, .inl (zA f6))), (112, .inl (0, 27720, .inl (zA f8))), (113, .inl (0, 27720, .inl (zA f9))), (114, .inl (0, 1260, .inl (zA f10))), (115, .inl (0, 27720, .inl (zA f11))), (116, .inl (0, 1260, .inl (zA f12))), (109, .inl (0, 8, .inl (zA f13)))]) (ks := [130, 130, 98, 110, 111, 117, 112, 113, 114, 115, 116, 109]) [true, false, true, true, true, true, true, true, true, true, true, true] rfl (by decide +kernel) rfl ?_
        exact ih6 (h_6 + 1) f68 (v_da458fa48a i6_0) (v_e390a36114 h34) h69 (meas_lt v_90eacd6fd4 (v_8b7dd7d486 h34) hm6)
  exact lp6 _ 0 fg v_939070ca3f (v_632d2dbe78 h23) q12 (Nat.lt_succ_self _)
set_option maxHeartbeats 4000000 in
set_option maxRecDepth 100000 in
theorem k_fits {l : Launch} {G : jG} {nh : Nat} {fh : Nat → Option va_E} (x : Int) (ms : Int) (mv : Int) (mt : Int) (mfa : Int) (mtn : Int) (mtk : Int) (mlv : Int) (mbd : Int) (mgo : Int) (mge : Int) (mbk : Int) (mtt : Int) (mtl : Int) (hm : Int) (pm : Int) (hb : Int) (sb : Int) (mfu : Int) (mdm : Int) (mla : Int) (K : Int → Int) (co : Int → Int) (cd : Int → Int) (of : Int → Int) (st : Int → Int) (tk : Int → Int) (sm : Int → Int) (cf : Int → Int) (cm : Int → Int) (aq : Int → Int) (fa : Int → Int) (fm : Int → Int) (li : Int → Int) (fg : Int → Int) (q0 : zr x) (q1 : KOK K) (q2 : Rg of 7 0 4) (q3 : zr hb) (q4 : zr mv) (q5 : hb = mv → HouT co cd K hm ∧ hm = Hi K ∧ pm = bsum K) (q6 : zr sb) (q7 : sb = mv → StM st tk sm (Hi K) ∧ CoM cf cm st sm (Hi K)) (q8 : hb ≤ mv) (q9 : sb ≤ mv) (q10 : 0 ≤ mbk) (q11 : mbk ≤ 1) (q12 : Rg aq 8 (-2147483648) 2147483647) (q13 : Rg fg 1260 0 1) (hk98 : fh 98 = some (.inr (12, (.int (zI ms) :: .int (zI mv) :: .ref 99 :: .ref 100 :: .ref 101 :: .ref 102 :: .ref 103 :: .ref 104 :: .ref 105 :: .int (zI mt) :: .int (zI mfa) :: .ref 106 :: .ref 107 :: .ref 108 :: .int (zI mtn) :: .int (zI mtk) :: .int (zI mlv) :: .int (zI mbd) :: .int (zI mgo) :: .int (zI mge) :: .int (zI mbk) :: .ref 109 :: .int (zI mtt) :: .int (zI mtl) :: .ref 110 :: .ref 111 :: .ref 112 :: .ref 113 :: .ref 114 :: .ref 115 :: .ref 116 :: .ref 117 :: .int (zI hm) :: .int (zI pm) :: .int (zI hb) :: .int (zI sb) :: .ref 118 :: .ref 119 :: .ref 120 :: .ref 121 :: .ref 122 :: .ref 123 :: .ref 124 :: .ref 125 :: .ref 126 :: .ref 127 :: .ref 128 :: .ref 129 :: .int (zI mfu) :: .ref 130 :: .ref 131 :: .ref 132 :: .ref 133 :: .ref 134 :: .int (zI mdm) :: .int (zI mla) :: [])))) (hk100 : fh 100 = some (.inl (0, 4870, .inl (zA K)))) (hk110 : fh 110 = some (.inl (0, 8820, .inl (zA co)))) (hk111 : fh 111 = some (.inl (0, 1260, .inl (zA cd)))) (hk117 : fh 117 = some (.inl (0, 7, .inl (zA of)))) (hk112 : fh 112 = some (.inl (0, 27720, .inl (zA st)))) (hk113 : fh 113 = some (.inl (0, 27720, .inl (zA tk)))) (hk114 : fh 114 = some (.inl (0, 1260, .inl (zA sm)))) (hk115 : fh 115 = some (.inl (0, 27720, .inl (zA cf)))) (hk116 : fh 116 = some (.inl (0, 1260, .inl (zA cm)))) (hk109 : fh 109 = some (.inl (0, 8, .inl (zA aq)))) (hk118 : fh 118 = some (.inl (0, 1260, .inl (zA fa)))) (hk119 : fh 119 = some (.inl (1, 1260, .inr (.inl (zAL fm))))) (hk120 : fh 120 = some (.inl (0, 1260, .inl (zA li)))) (hk130 : fh 130 = some (.inl (2, 1260, .inl (zA fg)))) : JM l G yX12_fits MX12_fits { frames := 44, cells := 0, slots := 0, locals := 1040 } [.ref 98, .int (zI x)] (nh, fh) (fun rr h9 => ∃ r : Int, ∃ hm2 : Int, ∃ pm2 : Int, ∃ hb2 : Int, ∃ co2 : Int → Int, ∃ cd2 : Int → Int, ∃ of2 : Int → Int, ∃ sb2 : Int, ∃ st2 : Int → Int, ∃ tk2 : Int → Int, ∃ sm2 : Int → Int, ∃ cf2 : Int → Int, ∃ cm2 : Int → Int, ∃ aq2 : Int → Int, ∃ go2 : Int, ∃ ge2 : Int, ∃ bk2 : Int, ∃ tt2 : Int, ∃ tl2 : Int, ∃ fa2 : Int → Int, ∃ fm2 : Int → Int, ∃ li2 : Int → Int, ∃ fg2 : Int → Int, rr = some (.int (zI r)) ∧ h9 = (nh, hc fh [(98, .inr (12, (.int (zI ms) :: .int (zI mv) :: .ref 99 :: .ref 100 :: .ref 101 :: .ref 102 :: .ref 103 :: .ref 104 :: .ref 105 :: .int (zI mt) :: .int (zI mfa) :: .ref 106 :: .ref 107 :: .ref 108 :: .int (zI mtn) :: .int (zI mtk) :: .int (zI mlv) :: .int (zI mbd) :: .int (zI go2) :: .int (zI ge2) :: .int (zI bk2) :: .ref 109 :: .int (zI tt2) :: .int (zI tl2) :: .ref 110 :: .ref 111 :: .ref 112 :: .ref 113 :: .ref 114 :: .ref 115 :: .ref 116 :: .ref 117 :: .int (zI hm2) :: .int (zI pm2) :: .int (zI hb2) :: .int (zI sb2) :: .ref 118 :: .ref 119 :: .ref 120 :: .ref 121 :: .ref 122 :: .ref 123 :: .ref 124 :: .ref 125 :: .ref 126 :: .ref 127 :: .ref 128 :: .ref 129 :: .int (zI mfu) :: .ref 130 :: .ref 131 :: .ref 132 :: .ref 133 :: .ref 134 :: .int (zI mdm) :: .int (zI mla) :: []))), (110, .inl (0, 8820, .inl (zA co2))), (111, .inl (0, 1260, .inl (zA cd2))), (117, .inl (0, 7, .inl (zA of2))), (112, .inl (0, 27720, .inl (zA st2))), (113, .inl (0, 27720, .inl (zA tk2))), (114, .inl (0, 1260, .inl (zA sm2))), (115, .inl (0, 27720, .inl (zA cf2))), (116, .inl (0, 1260, .inl (zA cm2))), (109, .inl (0, 8, .inl (zA aq2))), (118, .inl (0, 1260, .inl (zA fa2))), (119, .inl (1, 1260, .inr (.inl (zAL fm2)))), (120, .inl (0, 1260, .inl (zA li2))), (130, .inl (2, 1260, .inl (zA fg2)))]) ∧ (Rg of2 7 0 4) ∧ (zr hb2) ∧ (hb2 = mv → HouT co2 cd2 K hm2 ∧ hm2 = Hi K ∧ pm2 = bsum K) ∧ (zr sb2) ∧ (sb2 = mv → StM st2 tk2 sm2 (Hi K) ∧ CoM cf2 cm2 st2 sm2 (Hi K)) ∧ (hb2 ≤ mv) ∧ (sb2 ≤ mv) ∧ (0 ≤ bk2) ∧ (bk2 ≤ 1) ∧ (Rg aq2 8 (-2147483648) 2147483647) ∧ (Rg fg2 1260 0 1)) := by
  refine JM.of (by decide) rfl (fun h => by cases h) (Nat.le_of_ble_eq_true rfl) ⟨3, rfl⟩ ?_
  refine J_hc0 (J_ls (ls2 := [some (.ref 98), some (.int (zI x)), none, none, none]) rfl ?_)
  refine J_aload_n dX12_fits_0 rfl rfl ?_
  refine J_callV (st := []) dX12_fits_1 cv_X12_363 (k_findsFits ms mv mt mfa mtn mtk mlv mbd mgo mge mbk mtt mtl hm pm hb sb mfu mdm mla K co cd of st tk sm cf cm aq fa fm li fg q1 q2 q3 q4 q5 q6 q7 q8 q9 q10 q11 q12 q13 hk98 hk100 hk110 hk111 hk117 hk112 hk113 hk114 hk115 hk116 hk109 hk118 hk119 hk120 hk130) hk98 rfl rfl (Nat.le_of_ble_eq_true rfl) ⟨(Nat.le_of_ble_eq_true rfl), (Nat.le_of_ble_eq_true rfl)⟩ ⟨(Nat.le_of_ble_eq_true rfl), (Nat.le_of_ble_eq_true rfl)⟩ (fun r h9 hp => ?_)
  obtain ⟨z1, z2, z3, z4, f5, f6, f7, z8, f9, f10, f11, f12, f13, f14, z15, z16, z17, z18, z19, f20, f21, f22, f23, rfl, rfl, h24, h25, h26, h27, h28, h29, h30, h31, h32, h33, h34, h35, h36, h37, h38, h39, h40, h41⟩ := hp
  refine J_nf (nh2 := nh) (ck2 := 0) (sk2 := 0) (st2 := [.int (zI z1)]) rfl rfl rfl rfl ?_
  refine J_app (L3 := [(98, .inr (12, (.int (zI ms) :: .int (zI mv) :: .ref 99 :: .ref 100 :: .ref 101 :: .ref 102 :: .ref 103 :: .ref 104 :: .ref 105 :: .int (zI mt) :: .int (zI mfa) :: .ref 106 :: .ref 107 :: .ref 108 :: .int (zI mtn) :: .int (zI mtk) :: .int (zI mlv) :: .int (zI mbd) :: .int (zI z15) :: .int (zI z16) :: .int (zI z17) :: .ref 109 :: .int (zI z18) :: .int (zI z19) :: .ref 110 :: .ref 111 :: .ref 112 :: .ref 113 :: .ref 114 :: .ref 115 :: .ref 116 :: .ref 117 :: .int (zI z2) :: .int (zI z3) :: .int (zI z4) :: .int (zI z8) :: .ref 118 :: .ref 119 :: .ref 120 :: .ref 121 :: .ref 122 :: .ref 123 :: .ref 124 :: .ref 125 :: .ref 126 :: .ref 127 :: .ref 128 :: .ref 129 :: .int (zI mfu) :: .ref 130 :: .ref 131 :: .ref 132 :: .ref 133 :: .ref 134 :: .int (zI mdm) :: .int (zI mla) :: []))), (110, .inl (0, 8820, .inl (zA f5))), (111, .inl (0, 1260, .inl (zA f6))), (117, .inl (0, 7, .inl (zA f7))), (112, .inl (0, 27720, .inl (zA f9))), (113, .inl (0, 27720, .inl (zA f10))), (114, .inl (0, 1260, .inl (zA f11))), (115, .inl (0, 27720, .inl (zA f12))), (116, .inl (0, 1260, .inl (zA f13))), (109, .inl (0, 8, .inl (zA f14))), (118, .inl (0, 1260, .inl (zA f20))), (119, .inl (1, 1260, .inr (.inl (zAL f21)))), (120, .inl (0, 1260, .inl (zA f22))), (130, .inl (2, 1260, .inl (zA f23)))]) rfl ?_
  refine J_istore_n dX12_fits_4 rfl (Nat.le_of_ble_eq_true rfl) rfl ?_
  refine J_ls (ls2 := [some (.ref 98), some (.int (zI x)), some (.int (zI z1)), none, none]) rfl ?_
  refine J_iload_n dX12_fits_5 rfl rfl ?_
  refine Z_iconst (n := -1) dX12_fits_6 ?_
  refine Z_icmp_ne (tgt := 12) dX12_fits_7 (by decide) (v_b25fa51a85 q0) v_d64efa60f9 (fun h42 => ?_) (fun h42 => ?_)
  · refine J_iload_n dX12_fits_12 rfl rfl ?_
    refine Z_iconst (n := 0) dX12_fits_13 ?_
    refine J_iload_n dX12_fits_14 rfl rfl ?_
    refine Z_iconst (n := 1) dX12_fits_15 ?_
    refine Z_isub (c := z1 - 1) dX12_fits_16 rfl ?_
    refine J_callS (st := []) dX12_fits_17 cs_X12_138 (k_lies x 0 (z1 - 1) q0 v_b17331891f (v_db86af1b75 h29 h40 h41)) rfl rfl (Nat.le_of_ble_eq_true rfl) ⟨(Nat.le_of_ble_eq_true rfl), (Nat.le_of_ble_eq_true rfl)⟩ ⟨(Nat.le_of_ble_eq_true rfl), (Nat.le_of_ble_eq_true rfl)⟩ (fun r h9 hp => ?_)
    rcases hp with ⟨rfl, rfl, h43, h44⟩ | ⟨rfl, rfl, h45⟩ | ⟨rfl, rfl, h46⟩
    · refine J_nf (nh2 := nh) (ck2 := 0) (sk2 := 0) (st2 := [.int (zI 1)]) rfl rfl rfl rfl ?_
      refine Z_if_ne (tgt := 25) dX12_fits_20 (by decide) v_4dcc24baa7 (fun h47 => ?_) (fun h47 => absurd h47 v_3a47bfd896)
      refine J_iload_n dX12_fits_25 rfl rfl ?_
      refine J_istore_n dX12_fits_26 rfl (Nat.le_of_ble_eq_true rfl) rfl ?_
      refine J_ls (ls2 := [some (.ref 98), some (.int (zI x)), some (.int (zI z1)), some (.int (zI x)), none]) rfl ?_
      refine Z_iconst (n := 0) dX12_fits_27 ?_
      refine J_istore dX12_fits_28 (Nat.le_of_ble_eq_true rfl) rfl ?_
      refine J_ls (ls2 := [some (.ref 98), some (.int (zI x)), some (.int (zI z1)), some (.int (zI x)), some (.int (zI 0))]) rfl ?_
      have lp30 : ∀ (N30 : Nat) (left_30 : Int) (h_30 : Int), (0 ≤ h_30) → (h_30 ≤ z2) → (left_30 ≤ 1260) → (-1260 ≤ left_30 + h_30) → (z2 - h_30).toNat < N30 → J l G MX12_fits { frames := 44, cells := 0, slots := 0, locals := 1040 } jE (jMQ G { frames := 44, cells := 0, slots := 0, locals := 1040 } (fun rr h9 => ∃ r : Int, ∃ hm2 : Int, ∃ pm2 : Int, ∃ hb2 : Int, ∃ co2 : Int → Int, ∃ cd2 : Int → Int, ∃ of2 : Int → Int, ∃ sb2 : Int, ∃ st2 : Int → Int, ∃ tk2 : Int → Int, ∃ sm2 : Int → Int, ∃ cf2 : Int → Int, ∃ cm2 : Int → Int, ∃ aq2 : Int → Int, ∃ go2 : Int, ∃ ge2 : Int, ∃ bk2 : Int, ∃ tt2 : Int, ∃ tl2 : Int, ∃ fa2 : Int → Int, ∃ fm2 : Int → Int, ∃ li2 : Int → Int, ∃ fg2 : Int → Int, rr = some (.int (zI r)) ∧ h9 = (nh, hc fh [(98, .inr (12, (.int (zI ms) :: .int (zI mv) :: .ref 99 :: .ref 100 :: .ref 101 :: .ref 102 :: .ref 103 :: .ref 104 :: .ref 105 :: .int (zI mt) :: .int (zI mfa) :: .ref 106 :: .ref 107 :: .ref 108 :: .int (zI mtn) :: .int (zI mtk) :: .int (zI mlv) :: .int (zI mbd) :: .int (zI go2) :: .int (zI ge2) :: .int (zI bk2) :: .ref 109 :: .int (zI tt2) :: .int (zI tl2) :: .ref 110 :: .ref 111 :: .ref 112 :: .ref 113 :: .ref 114 :: .ref 115 :: .ref 116 :: .ref 117 :: .int (zI hm2) :: .int (zI pm2) :: .int (zI hb2) :: .int (zI sb2) :: .ref 118 :: .ref 119 :: .ref 120 :: .ref 121 :: .ref 122 :: .ref 123 :: .ref 124 :: .ref 125 :: .ref 126 :: .ref 127 :: .ref 128 :: .ref 129 :: .int (zI mfu) :: .ref 130 :: .ref 131 :: .ref 132 :: .ref 133 :: .ref 134 :: .int (zI mdm) :: .int (zI mla) :: []))), (110, .inl (0, 8820, .inl (zA co2))), (111, .inl (0, 1260, .inl (zA cd2))), (117, .inl (0, 7, .inl (zA of2))), (112, .inl (0, 27720, .inl (zA st2))), (113, .inl (0, 27720, .inl (zA tk2))), (114, .inl (0, 1260, .inl (zA sm2))), (115, .inl (0, 27720, .inl (zA cf2))), (116, .inl (0, 1260, .inl (zA cm2))), (109, .inl (0, 8, .inl (zA aq2))), (118, .inl (0, 1260, .inl (zA fa2))), (119, .inl (1, 1260, .inr (.inl (zAL fm2)))), (120, .inl (0, 1260, .inl (zA li2))), (130, .inl (2, 1260, .inl (zA fg2)))]) ∧ (Rg of2 7 0 4) ∧ (zr hb2) ∧ (hb2 = mv → HouT co2 cd2 K hm2 ∧ hm2 = Hi K ∧ pm2 = bsum K) ∧ (zr sb2) ∧ (sb2 = mv → StM st2 tk2 sm2 (Hi K) ∧ CoM cf2 cm2 st2 sm2 (Hi K)) ∧ (hb2 ≤ mv) ∧ (sb2 ≤ mv) ∧ (0 ≤ bk2) ∧ (bk2 ≤ 1) ∧ (Rg aq2 8 (-2147483648) 2147483647) ∧ (Rg fg2 1260 0 1))) (nh, hc fh [(98, .inr (12, (.int (zI ms) :: .int (zI mv) :: .ref 99 :: .ref 100 :: .ref 101 :: .ref 102 :: .ref 103 :: .ref 104 :: .ref 105 :: .int (zI mt) :: .int (zI mfa) :: .ref 106 :: .ref 107 :: .ref 108 :: .int (zI mtn) :: .int (zI mtk) :: .int (zI mlv) :: .int (zI mbd) :: .int (zI z15) :: .int (zI z16) :: .int (zI z17) :: .ref 109 :: .int (zI z18) :: .int (zI z19) :: .ref 110 :: .ref 111 :: .ref 112 :: .ref 113 :: .ref 114 :: .ref 115 :: .ref 116 :: .ref 117 :: .int (zI z2) :: .int (zI z3) :: .int (zI z4) :: .int (zI z8) :: .ref 118 :: .ref 119 :: .ref 120 :: .ref 121 :: .ref 122 :: .ref 123 :: .ref 124 :: .ref 125 :: .ref 126 :: .ref 127 :: .ref 128 :: .ref 129 :: .int (zI mfu) :: .ref 130 :: .ref 131 :: .ref 132 :: .ref 133 :: .ref 134 :: .int (zI mdm) :: .int (zI mla) :: []))), (110, .inl (0, 8820, .inl (zA f5))), (111, .inl (0, 1260, .inl (zA f6))), (117, .inl (0, 7, .inl (zA f7))), (112, .inl (0, 27720, .inl (zA f9))), (113, .inl (0, 27720, .inl (zA f10))), (114, .inl (0, 1260, .inl (zA f11))), (115, .inl (0, 27720, .inl (zA f12))), (116, .inl (0, 1260, .inl (zA f13))), (109, .inl (0, 8, .inl (zA f14))), (118, .inl (0, 1260, .inl (zA f20))), (119, .inl (1, 1260, .inr (.inl (zAL f21)))), (120, .inl (0, 1260, .inl (zA f22))), (130, .inl (2, 1260, .inl (zA f23)))]) 0 0 30 [some (.ref 98), some (.int (zI x)), some (.int (zI z1)), some (.int (zI left_30)), some (.int (zI h_30))] [] := by
        intro N30
        induction N30 with
        | zero => intro left_30 h_30 i30_0 i30_1 i30_2 i30_3 hm; exact absurd hm (Nat.not_lt_zero _)
        | succ N30 ih30 =>
          intro left_30 h_30 i30_0 i30_1 i30_2 i30_3 hm30
          refine J_iload dX12_fits_30 rfl ?_
          refine J_aload_n dX12_fits_32 rfl rfl ?_
          refine J_get (v := .int (zI z2)) dX12_fits_33 fl_X12_298 rfl rfl ?_
          refine Z_icmp_ge (tgt := 68) dX12_fits_36 (by decide) (v_c9ca704c4d h29 i30_0 i30_1) (v_81c6732ede h28 h29) (fun h48 => ?_) (fun h48 => ?_)
          · refine Z_iconst (n := -1) dX12_fits_68 ?_
            exact J_iret dX12_fits_69 rfl rfl (Nat.le_of_ble_eq_true rfl) (Nat.le_of_ble_eq_true rfl) ⟨(-1), z2, z3, z4, f5, f6, f7, z8, f9, f10, f11, f12, f13, f14, z15, z16, z17, z18, z19, f20, f21, f22, f23, rfl, rfl, h27, (v_621074fb26 q4 h32), (fun _ => ⟨h26, h24, h25⟩), (v_621074fb26 q4 h33), (fun _ => by rw [← h24]; exact ⟨h34, h35⟩), (v_94d6d099ed h32), (v_94d6d099ed h33), h36, h37, h38, h39⟩
          · refine J_aload_n dX12_fits_39 rfl rfl ?_
            refine J_get (v := .ref 130) dX12_fits_40 fl_X12_123 rfl rfl ?_
            refine J_iload dX12_fits_43 rfl ?_
            obtain ⟨z49, ez49⟩ : ∃ z : Int, f23 h_30 = z := ⟨_, rfl⟩
            have h50 := Rg.at h39 (v_2b02420001 i30_0) (v_610e7c4416 h29 h48) ez49
            refine Y_zald (z := z49) 1260 dX12_fits_45 rfl rfl (by decide) (v_2b02420001 i30_0) (v_610e7c4416 h29 h48) ez49 ?_
            refine Z_if_ne (tgt := 52) dX12_fits_46 (by decide) (v_5f10a759cd h50.1 h50.2) (fun h51 => ?_) (fun h51 => ?_)
            · refine J_iload_n dX12_fits_52 rfl rfl ?_
              refine Z_if_ne (tgt := 59) dX12_fits_53 (by decide) (v_f9e8dc6ff8 h29 i30_2 i30_3 h48) (fun h52 => ?_) (fun h52 => ?_)
              · refine Z_iinc (c := left_30 - 1) (ls2 := [some (.ref 98), some (.int (zI x)), some (.int (zI z1)), some (.int (zI (left_30 - 1))), some (.int (zI h_30))]) dX12_fits_59 rfl (Nat.le_of_ble_eq_true rfl) rfl v_c11a8386d1 rfl ?_
                refine Z_iinc (c := h_30 + 1) (ls2 := [some (.ref 98), some (.int (zI x)), some (.int (zI z1)), some (.int (zI (left_30 - 1))), some (.int (zI (h_30 + 1)))]) dX12_fits_62 rfl (Nat.le_of_ble_eq_true rfl) rfl rfl rfl ?_
                refine J_goto (tgt := 30) dX12_fits_65 (by decide) ?_
                exact ih30 (left_30 - 1) (h_30 + 1) (v_da458fa48a i30_0) (v_e390a36114 h48) (v_837766ddeb i30_2) (v_f317b1f1ac i30_3) (meas_lt v_90eacd6fd4 (v_8b7dd7d486 h48) hm30)
              · refine J_iload dX12_fits_56 rfl ?_
                exact J_iret dX12_fits_58 rfl rfl (Nat.le_of_ble_eq_true rfl) (Nat.le_of_ble_eq_true rfl) ⟨h_30, z2, z3, z4, f5, f6, f7, z8, f9, f10, f11, f12, f13, f14, z15, z16, z17, z18, z19, f20, f21, f22, f23, rfl, rfl, h27, (v_621074fb26 q4 h32), (fun _ => ⟨h26, h24, h25⟩), (v_621074fb26 q4 h33), (fun _ => by rw [← h24]; exact ⟨h34, h35⟩), (v_94d6d099ed h32), (v_94d6d099ed h33), h36, h37, h38, h39⟩
            · refine J_goto (tgt := 62) dX12_fits_49 (by decide) ?_
              refine Z_iinc (c := h_30 + 1) (ls2 := [some (.ref 98), some (.int (zI x)), some (.int (zI z1)), some (.int (zI left_30)), some (.int (zI (h_30 + 1)))]) dX12_fits_62 rfl (Nat.le_of_ble_eq_true rfl) rfl rfl rfl ?_
              refine J_goto (tgt := 30) dX12_fits_65 (by decide) ?_
              exact ih30 left_30 (h_30 + 1) (v_da458fa48a i30_0) (v_e390a36114 h48) i30_2 (v_e03644dc48 i30_3) (meas_lt v_90eacd6fd4 (v_8b7dd7d486 h48) hm30)
      exact lp30 _ x 0 v_939070ca3f (v_632d2dbe78 h28) (v_e32f4dd2e1 h29 h41 h44) (v_27adb7285f h43) (Nat.lt_succ_self _)
    · refine J_nf (nh2 := nh) (ck2 := 0) (sk2 := 0) (st2 := [.int (zI 0)]) rfl rfl rfl rfl ?_
      refine Z_if_ne (tgt := 25) dX12_fits_20 (by decide) v_b17331891f (fun h53 => absurd h53 (fun q => q v_2ca2bbca1f)) (fun h53 => ?_)
      refine Z_iconst (n := -1) dX12_fits_23 ?_
      exact J_iret dX12_fits_24 rfl rfl (Nat.le_of_ble_eq_true rfl) (Nat.le_of_ble_eq_true rfl) ⟨(-1), z2, z3, z4, f5, f6, f7, z8, f9, f10, f11, f12, f13, f14, z15, z16, z17, z18, z19, f20, f21, f22, f23, rfl, rfl, h27, (v_621074fb26 q4 h32), (fun _ => ⟨h26, h24, h25⟩), (v_621074fb26 q4 h33), (fun _ => by rw [← h24]; exact ⟨h34, h35⟩), (v_94d6d099ed h32), (v_94d6d099ed h33), h36, h37, h38, h39⟩
    · refine J_nf (nh2 := nh) (ck2 := 0) (sk2 := 0) (st2 := [.int (zI 0)]) rfl rfl rfl rfl ?_
      refine Z_if_ne (tgt := 25) dX12_fits_20 (by decide) v_b17331891f (fun h54 => absurd h54 (fun q => q v_2ca2bbca1f)) (fun h54 => ?_)
      refine Z_iconst (n := -1) dX12_fits_23 ?_
      exact J_iret dX12_fits_24 rfl rfl (Nat.le_of_ble_eq_true rfl) (Nat.le_of_ble_eq_true rfl) ⟨(-1), z2, z3, z4, f5, f6, f7, z8, f9, f10, f11, f12, f13, f14, z15, z16, z17, z18, z19, f20, f21, f22, f23, rfl, rfl, h27, (v_621074fb26 q4 h32), (fun _ => ⟨h26, h24, h25⟩), (v_621074fb26 q4 h33), (fun _ => by rw [← h24]; exact ⟨h34, h35⟩), (v_94d6d099ed h32), (v_94d6d099ed h33), h36, h37, h38, h39⟩
  · refine J_iload_n dX12_fits_10 rfl rfl ?_
    exact J_iret dX12_fits_11 rfl rfl (Nat.le_of_ble_eq_true rfl) (Nat.le_of_ble_eq_true rfl) ⟨z1, z2, z3, z4, f5, f6, f7, z8, f9, f10, f11, f12, f13, f14, z15, z16, z17, z18, z19, f20, f21, f22, f23, rfl, rfl, h27, (v_621074fb26 q4 h32), (fun _ => ⟨h26, h24, h25⟩), (v_621074fb26 q4 h33), (fun _ => by rw [← h24]; exact ⟨h34, h35⟩), (v_94d6d099ed h32), (v_94d6d099ed h33), h36, h37, h38, h39⟩
set_option maxHeartbeats 4000000 in
set_option maxRecDepth 100000 in
theorem k_ask {l : Launch} {G : jG} {nh : Nat} {fh : Nat → Option va_E} (x : Int) (ms : Int) (mv : Int) (mt : Int) (mfa : Int) (mtn : Int) (mtk : Int) (mlv : Int) (mbd : Int) (mgo : Int) (mge : Int) (mbk : Int) (mtt : Int) (mtl : Int) (hm : Int) (pm : Int) (hb : Int) (sb : Int) (mfu : Int) (mdm : Int) (mla : Int) (K : Int → Int) (co : Int → Int) (cd : Int → Int) (of : Int → Int) (st : Int → Int) (tk : Int → Int) (sm : Int → Int) (cf : Int → Int) (cm : Int → Int) (aq : Int → Int) (fa : Int → Int) (fm : Int → Int) (li : Int → Int) (fg : Int → Int) (ak : Int → Int) (q0 : zr x) (q1 : KOK K) (q2 : Rg of 7 0 4) (q3 : zr hb) (q4 : zr mv) (q5 : hb = mv → HouT co cd K hm ∧ hm = Hi K ∧ pm = bsum K) (q6 : zr sb) (q7 : sb = mv → StM st tk sm (Hi K) ∧ CoM cf cm st sm (Hi K)) (q8 : hb ≤ mv) (q9 : sb ≤ mv) (q10 : 0 ≤ mbk) (q11 : mbk ≤ 1) (q12 : Rg aq 8 (-2147483648) 2147483647) (q13 : Rg fg 1260 0 1) (hk98 : fh 98 = some (.inr (12, (.int (zI ms) :: .int (zI mv) :: .ref 99 :: .ref 100 :: .ref 101 :: .ref 102 :: .ref 103 :: .ref 104 :: .ref 105 :: .int (zI mt) :: .int (zI mfa) :: .ref 106 :: .ref 107 :: .ref 108 :: .int (zI mtn) :: .int (zI mtk) :: .int (zI mlv) :: .int (zI mbd) :: .int (zI mgo) :: .int (zI mge) :: .int (zI mbk) :: .ref 109 :: .int (zI mtt) :: .int (zI mtl) :: .ref 110 :: .ref 111 :: .ref 112 :: .ref 113 :: .ref 114 :: .ref 115 :: .ref 116 :: .ref 117 :: .int (zI hm) :: .int (zI pm) :: .int (zI hb) :: .int (zI sb) :: .ref 118 :: .ref 119 :: .ref 120 :: .ref 121 :: .ref 122 :: .ref 123 :: .ref 124 :: .ref 125 :: .ref 126 :: .ref 127 :: .ref 128 :: .ref 129 :: .int (zI mfu) :: .ref 130 :: .ref 131 :: .ref 132 :: .ref 133 :: .ref 134 :: .int (zI mdm) :: .int (zI mla) :: [])))) (hk100 : fh 100 = some (.inl (0, 4870, .inl (zA K)))) (hk110 : fh 110 = some (.inl (0, 8820, .inl (zA co)))) (hk111 : fh 111 = some (.inl (0, 1260, .inl (zA cd)))) (hk117 : fh 117 = some (.inl (0, 7, .inl (zA of)))) (hk112 : fh 112 = some (.inl (0, 27720, .inl (zA st)))) (hk113 : fh 113 = some (.inl (0, 27720, .inl (zA tk)))) (hk114 : fh 114 = some (.inl (0, 1260, .inl (zA sm)))) (hk115 : fh 115 = some (.inl (0, 27720, .inl (zA cf)))) (hk116 : fh 116 = some (.inl (0, 1260, .inl (zA cm)))) (hk109 : fh 109 = some (.inl (0, 8, .inl (zA aq)))) (hk118 : fh 118 = some (.inl (0, 1260, .inl (zA fa)))) (hk119 : fh 119 = some (.inl (1, 1260, .inr (.inl (zAL fm))))) (hk120 : fh 120 = some (.inl (0, 1260, .inl (zA li)))) (hk130 : fh 130 = some (.inl (2, 1260, .inl (zA fg)))) (hk131 : fh 131 = some (.inl (0, 1261, .inl (zA ak)))) : JM l G yX12_ask MX12_ask { frames := 44, cells := 0, slots := 0, locals := 1040 } [.ref 98, .int (zI x)] (nh, fh) (fun rr h9 => ∃ r : Int, ∃ hm2 : Int, ∃ pm2 : Int, ∃ hb2 : Int, ∃ co2 : Int → Int, ∃ cd2 : Int → Int, ∃ of2 : Int → Int, ∃ sb2 : Int, ∃ st2 : Int → Int, ∃ tk2 : Int → Int, ∃ sm2 : Int → Int, ∃ cf2 : Int → Int, ∃ cm2 : Int → Int, ∃ aq2 : Int → Int, ∃ go2 : Int, ∃ ge2 : Int, ∃ bk2 : Int, ∃ tt2 : Int, ∃ tl2 : Int, ∃ fa2 : Int → Int, ∃ fm2 : Int → Int, ∃ li2 : Int → Int, ∃ fg2 : Int → Int, ∃ ak2 : Int → Int, rr = some (.int (zI r)) ∧ h9 = (nh, hc fh [(98, .inr (12, (.int (zI ms) :: .int (zI mv) :: .ref 99 :: .ref 100 :: .ref 101 :: .ref 102 :: .ref 103 :: .ref 104 :: .ref 105 :: .int (zI mt) :: .int (zI mfa) :: .ref 106 :: .ref 107 :: .ref 108 :: .int (zI mtn) :: .int (zI mtk) :: .int (zI mlv) :: .int (zI mbd) :: .int (zI go2) :: .int (zI ge2) :: .int (zI bk2) :: .ref 109 :: .int (zI tt2) :: .int (zI tl2) :: .ref 110 :: .ref 111 :: .ref 112 :: .ref 113 :: .ref 114 :: .ref 115 :: .ref 116 :: .ref 117 :: .int (zI hm2) :: .int (zI pm2) :: .int (zI hb2) :: .int (zI sb2) :: .ref 118 :: .ref 119 :: .ref 120 :: .ref 121 :: .ref 122 :: .ref 123 :: .ref 124 :: .ref 125 :: .ref 126 :: .ref 127 :: .ref 128 :: .ref 129 :: .int (zI mfu) :: .ref 130 :: .ref 131 :: .ref 132 :: .ref 133 :: .ref 134 :: .int (zI mdm) :: .int (zI mla) :: []))), (110, .inl (0, 8820, .inl (zA co2))), (111, .inl (0, 1260, .inl (zA cd2))), (117, .inl (0, 7, .inl (zA of2))), (112, .inl (0, 27720, .inl (zA st2))), (113, .inl (0, 27720, .inl (zA tk2))), (114, .inl (0, 1260, .inl (zA sm2))), (115, .inl (0, 27720, .inl (zA cf2))), (116, .inl (0, 1260, .inl (zA cm2))), (109, .inl (0, 8, .inl (zA aq2))), (118, .inl (0, 1260, .inl (zA fa2))), (119, .inl (1, 1260, .inr (.inl (zAL fm2)))), (120, .inl (0, 1260, .inl (zA li2))), (130, .inl (2, 1260, .inl (zA fg2))), (131, .inl (0, 1261, .inl (zA ak2)))]) ∧ (Rg of2 7 0 4) ∧ (zr hb2) ∧ (hb2 = mv → HouT co2 cd2 K hm2 ∧ hm2 = Hi K ∧ pm2 = bsum K) ∧ (zr sb2) ∧ (sb2 = mv → StM st2 tk2 sm2 (Hi K) ∧ CoM cf2 cm2 st2 sm2 (Hi K)) ∧ (hb2 ≤ mv) ∧ (sb2 ≤ mv) ∧ (0 ≤ bk2) ∧ (bk2 ≤ 1) ∧ (Rg aq2 8 (-2147483648) 2147483647) ∧ (Rg fg2 1260 0 1)) := by
  refine JM.of (by decide) rfl (fun h => by cases h) (Nat.le_of_ble_eq_true rfl) ⟨6, rfl⟩ ?_
  refine J_hc0 (J_ls (ls2 := [some (.ref 98), some (.int (zI x)), none, none, none, none, none, none]) rfl ?_)
  refine J_iload_n dX12_ask_0 rfl rfl ?_
  refine Z_iconst (n := 0) dX12_ask_1 ?_
  refine Z_iconst (n := 1) dX12_ask_2 ?_
  refine J_callS (st := []) dX12_ask_3 cs_X12_138 (k_lies x 0 1 q0 v_b17331891f v_4dcc24baa7) rfl rfl (Nat.le_of_ble_eq_true rfl) ⟨(Nat.le_of_ble_eq_true rfl), (Nat.le_of_ble_eq_true rfl)⟩ ⟨(Nat.le_of_ble_eq_true rfl), (Nat.le_of_ble_eq_true rfl)⟩ (fun r h9 hp => ?_)
  rcases hp with ⟨rfl, rfl, h1, h2⟩ | ⟨rfl, rfl, h3⟩ | ⟨rfl, rfl, h4⟩
  · refine J_nf (nh2 := nh) (ck2 := 0) (sk2 := 0) (st2 := [.int (zI 1)]) rfl rfl rfl rfl ?_
    refine Z_if_eq (tgt := 16) dX12_ask_6 (by decide) v_4dcc24baa7 (fun h5 => absurd h5 v_3a47bfd896) (fun h5 => ?_)
    refine J_aload_n dX12_ask_9 rfl rfl ?_
    refine J_callV (st := []) dX12_ask_10 cv_X12_363 (k_findsFits ms mv mt mfa mtn mtk mlv mbd mgo mge mbk mtt mtl hm pm hb sb mfu mdm mla K co cd of st tk sm cf cm aq fa fm li fg q1 q2 q3 q4 q5 q6 q7 q8 q9 q10 q11 q12 q13 hk98 hk100 hk110 hk111 hk117 hk112 hk113 hk114 hk115 hk116 hk109 hk118 hk119 hk120 hk130) hk98 rfl rfl (Nat.le_of_ble_eq_true rfl) ⟨(Nat.le_of_ble_eq_true rfl), (Nat.le_of_ble_eq_true rfl)⟩ ⟨(Nat.le_of_ble_eq_true rfl), (Nat.le_of_ble_eq_true rfl)⟩ (fun r h9 hp => ?_)
    obtain ⟨z6, z7, z8, z9, f10, f11, f12, z13, f14, f15, f16, f17, f18, f19, z20, z21, z22, z23, z24, f25, f26, f27, f28, rfl, rfl, h29, h30, h31, h32, h33, h34, h35, h36, h37, h38, h39, h40, h41, h42, h43, h44, h45, h46⟩ := hp
    refine J_nf (nh2 := nh) (ck2 := 0) (sk2 := 0) (st2 := [.int (zI z6)]) rfl rfl rfl rfl ?_
    refine J_app (L3 := [(98, .inr (12, (.int (zI ms) :: .int (zI mv) :: .ref 99 :: .ref 100 :: .ref 101 :: .ref 102 :: .ref 103 :: .ref 104 :: .ref 105 :: .int (zI mt) :: .int (zI mfa) :: .ref 106 :: .ref 107 :: .ref 108 :: .int (zI mtn) :: .int (zI mtk) :: .int (zI mlv) :: .int (zI mbd) :: .int (zI z20) :: .int (zI z21) :: .int (zI z22) :: .ref 109 :: .int (zI z23) :: .int (zI z24) :: .ref 110 :: .ref 111 :: .ref 112 :: .ref 113 :: .ref 114 :: .ref 115 :: .ref 116 :: .ref 117 :: .int (zI z7) :: .int (zI z8) :: .int (zI z9) :: .int (zI z13) :: .ref 118 :: .ref 119 :: .ref 120 :: .ref 121 :: .ref 122 :: .ref 123 :: .ref 124 :: .ref 125 :: .ref 126 :: .ref 127 :: .ref 128 :: .ref 129 :: .int (zI mfu) :: .ref 130 :: .ref 131 :: .ref 132 :: .ref 133 :: .ref 134 :: .int (zI mdm) :: .int (zI mla) :: []))), (110, .inl (0, 8820, .inl (zA f10))), (111, .inl (0, 1260, .inl (zA f11))), (117, .inl (0, 7, .inl (zA f12))), (112, .inl (0, 27720, .inl (zA f14))), (113, .inl (0, 27720, .inl (zA f15))), (114, .inl (0, 1260, .inl (zA f16))), (115, .inl (0, 27720, .inl (zA f17))), (116, .inl (0, 1260, .inl (zA f18))), (109, .inl (0, 8, .inl (zA f19))), (118, .inl (0, 1260, .inl (zA f25))), (119, .inl (1, 1260, .inr (.inl (zAL f26)))), (120, .inl (0, 1260, .inl (zA f27))), (130, .inl (2, 1260, .inl (zA f28)))]) rfl ?_
    refine Z_if_ne (tgt := 18) dX12_ask_13 (by decide) (v_c9ca704c4d h34 h45 h46) (fun h47 => ?_) (fun h47 => ?_)
    · refine Z_iconst (n := -1) dX12_ask_18 ?_
      refine J_istore_n dX12_ask_19 rfl (Nat.le_of_ble_eq_true rfl) rfl ?_
      refine J_ls (ls2 := [some (.ref 98), some (.int (zI x)), some (.int (zI (-1))), none, none, none, none, none]) rfl ?_
      refine J_ldc (v := zI 1000000) dX12_ask_20 (jt7 88 rfl rfl) ?_
      refine J_istore_n dX12_ask_22 rfl (Nat.le_of_ble_eq_true rfl) rfl ?_
      refine J_ls (ls2 := [some (.ref 98), some (.int (zI x)), some (.int (zI (-1))), some (.int (zI 1000000)), none, none, none, none]) rfl ?_
      refine Z_iconst (n := 0) dX12_ask_23 ?_
      refine J_istore dX12_ask_24 (Nat.le_of_ble_eq_true rfl) rfl ?_
      refine J_ls (ls2 := [some (.ref 98), some (.int (zI x)), some (.int (zI (-1))), some (.int (zI 1000000)), some (.int (zI 0)), none, none, none]) rfl ?_
      refine J_touch (k := 131) (e := .inl (0, 1261, .inl (zA ak))) hk131 ?_
      have lp26 : ∀ (N26 : Nat) (best_26 : Int) (few_26 : Int) (h_26 : Int) (f1_26 : Int → Int) (f2_26 : Int → Int) (f3_26 : Int → Int) (a_26 : Int → Int), (0 ≤ h_26) → (h_26 ≤ z7) → (0 ≤ few_26) → (few_26 ≤ 1000000) → (z7 - h_26).toNat < N26 → J l G MX12_ask { frames := 44, cells := 0, slots := 0, locals := 1040 } jE (jMQ G { frames := 44, cells := 0, slots := 0, locals := 1040 } (fun rr h9 => ∃ r : Int, ∃ hm2 : Int, ∃ pm2 : Int, ∃ hb2 : Int, ∃ co2 : Int → Int, ∃ cd2 : Int → Int, ∃ of2 : Int → Int, ∃ sb2 : Int, ∃ st2 : Int → Int, ∃ tk2 : Int → Int, ∃ sm2 : Int → Int, ∃ cf2 : Int → Int, ∃ cm2 : Int → Int, ∃ aq2 : Int → Int, ∃ go2 : Int, ∃ ge2 : Int, ∃ bk2 : Int, ∃ tt2 : Int, ∃ tl2 : Int, ∃ fa2 : Int → Int, ∃ fm2 : Int → Int, ∃ li2 : Int → Int, ∃ fg2 : Int → Int, ∃ ak2 : Int → Int, rr = some (.int (zI r)) ∧ h9 = (nh, hc fh [(98, .inr (12, (.int (zI ms) :: .int (zI mv) :: .ref 99 :: .ref 100 :: .ref 101 :: .ref 102 :: .ref 103 :: .ref 104 :: .ref 105 :: .int (zI mt) :: .int (zI mfa) :: .ref 106 :: .ref 107 :: .ref 108 :: .int (zI mtn) :: .int (zI mtk) :: .int (zI mlv) :: .int (zI mbd) :: .int (zI go2) :: .int (zI ge2) :: .int (zI bk2) :: .ref 109 :: .int (zI tt2) :: .int (zI tl2) :: .ref 110 :: .ref 111 :: .ref 112 :: .ref 113 :: .ref 114 :: .ref 115 :: .ref 116 :: .ref 117 :: .int (zI hm2) :: .int (zI pm2) :: .int (zI hb2) :: .int (zI sb2) :: .ref 118 :: .ref 119 :: .ref 120 :: .ref 121 :: .ref 122 :: .ref 123 :: .ref 124 :: .ref 125 :: .ref 126 :: .ref 127 :: .ref 128 :: .ref 129 :: .int (zI mfu) :: .ref 130 :: .ref 131 :: .ref 132 :: .ref 133 :: .ref 134 :: .int (zI mdm) :: .int (zI mla) :: []))), (110, .inl (0, 8820, .inl (zA co2))), (111, .inl (0, 1260, .inl (zA cd2))), (117, .inl (0, 7, .inl (zA of2))), (112, .inl (0, 27720, .inl (zA st2))), (113, .inl (0, 27720, .inl (zA tk2))), (114, .inl (0, 1260, .inl (zA sm2))), (115, .inl (0, 27720, .inl (zA cf2))), (116, .inl (0, 1260, .inl (zA cm2))), (109, .inl (0, 8, .inl (zA aq2))), (118, .inl (0, 1260, .inl (zA fa2))), (119, .inl (1, 1260, .inr (.inl (zAL fm2)))), (120, .inl (0, 1260, .inl (zA li2))), (130, .inl (2, 1260, .inl (zA fg2))), (131, .inl (0, 1261, .inl (zA ak2)))]) ∧ (Rg of2 7 0 4) ∧ (zr hb2) ∧ (hb2 = mv → HouT co2 cd2 K hm2 ∧ hm2 = Hi K ∧ pm2 = bsum K) ∧ (zr sb2) ∧ (sb2 = mv → StM st2 tk2 sm2 (Hi K) ∧ CoM cf2 cm2 st2 sm2 (Hi K)) ∧ (hb2 ≤ mv) ∧ (sb2 ≤ mv) ∧ (0 ≤ bk2) ∧ (bk2 ≤ 1) ∧ (Rg aq2 8 (-2147483648) 2147483647) ∧ (Rg fg2 1260 0 1))) (nh, hc fh [(131, .inl (0, 1261, .inl (zA a_26))), (98, .inr (12, (.int (zI ms) :: .int (zI mv) :: .ref 99 :: .ref 100 :: .ref 101 :: .ref 102 :: .ref 103 :: .ref 104 :: .ref 105 :: .int (zI mt) :: .int (zI mfa) :: .ref 106 :: .ref 107 :: .ref 108 :: .int (zI mtn) :: .int (zI mtk) :: .int (zI mlv) :: .int (zI mbd) :: .int (zI z20) :: .int (zI z21) :: .int (zI z22) :: .ref 109 :: .int (zI z23) :: .int (zI z24) :: .ref 110 :: .ref 111 :: .ref 112 :: .ref 113 :: .ref 114 :: .ref 115 :: .ref 116 :: .ref 117 :: .int (zI z7) :: .int (zI z8) :: .int (zI z9) :: .int (zI z13) :: .ref 118 :: .ref 119 :: .ref 120 :: .ref 121 :: .ref 122 :: .ref 123 :: .ref 124 :: .ref 125 :: .ref 126 :: .ref 127 :: .ref 128 :: .ref 129 :: .int (zI mfu) :: .ref 130 :: .ref 131 :: .ref 132 :: .ref 133 :: .ref 134 :: .int (zI mdm) :: .int (zI mla) :: []))), (110, .inl (0, 8820, .inl (zA f10))), (111, .inl (0, 1260, .inl (zA f11))), (117, .inl (0, 7, .inl (zA f12))), (112, .inl (0, 27720, .inl (zA f14))), (113, .inl (0, 27720, .inl (zA f15))), (114, .inl (0, 1260, .inl (zA f16))), (115, .inl (0, 27720, .inl (zA f17))), (116, .inl (0, 1260, .inl (zA f18))), (109, .inl (0, 8, .inl (zA f19))), (118, .inl (0, 1260, .inl (zA f1_26))), (119, .inl (1, 1260, .inr (.inl (zAL f2_26)))), (120, .inl (0, 1260, .inl (zA f3_26))), (130, .inl (2, 1260, .inl (zA f28)))]) 0 0 26 [some (.ref 98), some (.int (zI x)), some (.int (zI best_26)), some (.int (zI few_26)), some (.int (zI h_26)), none, none, none] [] := by
        intro N26
        induction N26 with
        | zero => intro best_26 few_26 h_26 f1_26 f2_26 f3_26 a_26 i26_0 i26_1 i26_2 i26_3 hm; exact absurd hm (Nat.not_lt_zero _)
        | succ N26 ih26 =>
          intro best_26 few_26 h_26 f1_26 f2_26 f3_26 a_26 i26_0 i26_1 i26_2 i26_3 hm26
          refine J_iload dX12_ask_26 rfl ?_
          refine J_aload_n dX12_ask_28 rfl rfl ?_
          refine J_get (v := .int (zI z7)) dX12_ask_29 fl_X12_298 rfl rfl ?_
          refine Z_icmp_ge (tgt := 187) dX12_ask_32 (by decide) (v_c9ca704c4d h34 i26_0 i26_1) (v_81c6732ede h33 h34) (fun h48 => ?_) (fun h48 => ?_)
          · refine J_iload_n dX12_ask_187 rfl rfl ?_
            refine Z_if_ne (tgt := 195) dX12_ask_188 (by decide) (v_5f10a759cd h1 h2) (fun h49 => ?_) (fun h49 => ?_)
            · refine J_iload_n dX12_ask_195 rfl rfl ?_
              refine J_touch (k := 131) (e := .inl (0, 1261, .inl (zA a_26))) rfl ?_
              refine J_touch (k := 130) (e := .inl (2, 1260, .inl (zA f28))) rfl ?_
              refine J_touch (k := 120) (e := .inl (0, 1260, .inl (zA f3_26))) rfl ?_
              refine J_touch (k := 119) (e := .inl (1, 1260, .inr (.inl (zAL f2_26)))) rfl ?_
              refine J_touch (k := 118) (e := .inl (0, 1260, .inl (zA f1_26))) rfl ?_
              refine J_touch (k := 109) (e := .inl (0, 8, .inl (zA f19))) rfl ?_
              refine J_touch (k := 116) (e := .inl (0, 1260, .inl (zA f18))) rfl ?_
              refine J_touch (k := 115) (e := .inl (0, 27720, .inl (zA f17))) rfl ?_
              refine J_touch (k := 114) (e := .inl (0, 1260, .inl (zA f16))) rfl ?_
              refine J_touch (k := 113) (e := .inl (0, 27720, .inl (zA f15))) rfl ?_
              refine J_touch (k := 112) (e := .inl (0, 27720, .inl (zA f14))) rfl ?_
              refine J_touch (k := 117) (e := .inl (0, 7, .inl (zA f12))) rfl ?_
              refine J_touch (k := 111) (e := .inl (0, 1260, .inl (zA f11))) rfl ?_
              refine J_touch (k := 110) (e := .inl (0, 8820, .inl (zA f10))) rfl ?_
              refine J_touch (k := 98) (e := .inr (12, (.int (zI ms) :: .int (zI mv) :: .ref 99 :: .ref 100 :: .ref 101 :: .ref 102 :: .ref 103 :: .ref 104 :: .ref 105 :: .int (zI mt) :: .int (zI mfa) :: .ref 106 :: .ref 107 :: .ref 108 :: .int (zI mtn) :: .int (zI mtk) :: .int (zI mlv) :: .int (zI mbd) :: .int (zI z20) :: .int (zI z21) :: .int (zI z22) :: .ref 109 :: .int (zI z23) :: .int (zI z24) :: .ref 110 :: .ref 111 :: .ref 112 :: .ref 113 :: .ref 114 :: .ref 115 :: .ref 116 :: .ref 117 :: .int (zI z7) :: .int (zI z8) :: .int (zI z9) :: .int (zI z13) :: .ref 118 :: .ref 119 :: .ref 120 :: .ref 121 :: .ref 122 :: .ref 123 :: .ref 124 :: .ref 125 :: .ref 126 :: .ref 127 :: .ref 128 :: .ref 129 :: .int (zI mfu) :: .ref 130 :: .ref 131 :: .ref 132 :: .ref 133 :: .ref 134 :: .int (zI mdm) :: .int (zI mla) :: []))) rfl ?_
              refine J_mask (L2 := [(98, .inr (12, (.int (zI ms) :: .int (zI mv) :: .ref 99 :: .ref 100 :: .ref 101 :: .ref 102 :: .ref 103 :: .ref 104 :: .ref 105 :: .int (zI mt) :: .int (zI mfa) :: .ref 106 :: .ref 107 :: .ref 108 :: .int (zI mtn) :: .int (zI mtk) :: .int (zI mlv) :: .int (zI mbd) :: .int (zI z20) :: .int (zI z21) :: .int (zI z22) :: .ref 109 :: .int (zI z23) :: .int (zI z24) :: .ref 110 :: .ref 111 :: .ref 112 :: .ref 113 :: .ref 114 :: .ref 115 :: .ref 116 :: .ref 117 :: .int (zI z7) :: .int (zI z8) :: .int (zI z9) :: .int (zI z13) :: .ref 118 :: .ref 119 :: .ref 120 :: .ref 121 :: .ref 122 :: .ref 123 :: .ref 124 :: .ref 125 :: .ref 126 :: .ref 127 :: .ref 128 :: .ref 129 :: .int (zI mfu) :: .ref 130 :: .ref 131 :: .ref 132 :: .ref 133 :: .ref 134 :: .int (zI mdm) :: .int (zI mla) :: []))), (110, .inl (0, 8820, .inl (zA f10))), (111, .inl (0, 1260, .inl (zA f11))), (117, .inl (0, 7, .inl (zA f12))), (112, .inl (0, 27720, .inl (zA f14))), (113, .inl (0, 27720, .inl (zA f15))), (114, .inl (0, 1260, .inl (zA f16))), (115, .inl (0, 27720, .inl (zA f17))), (116, .inl (0, 1260, .inl (zA f18))), (109, .inl (0, 8, .inl (zA f19))), (118, .inl (0, 1260, .inl (zA f1_26))), (119, .inl (1, 1260, .inr (.inl (zAL f2_26)))), (120, .inl (0, 1260, .inl (zA f3_26))), (130, .inl (2, 1260, .inl (zA f28))), (131, .inl (0, 1261, .inl (zA a_26)))]) (ks := [98, 110, 111, 117, 112, 113, 114, 115, 116, 109, 118, 119, 120, 130, 131, 131, 98, 110, 111, 117, 112, 113, 114, 115, 116, 109, 118, 119, 120, 130]) [true, true, true, true, true, true, true, true, true, true, true, true, true, true, true, false, false, false, false, false, false, false, false, false, false, false, false, false, false, false] rfl (by decide +kernel) rfl ?_
              exact J_iret dX12_ask_196 rfl rfl (Nat.le_of_ble_eq_true rfl) (Nat.le_of_ble_eq_true rfl) ⟨few_26, z7, z8, z9, f10, f11, f12, z13, f14, f15, f16, f17, f18, f19, z20, z21, z22, z23, z24, f1_26, f2_26, f3_26, f28, a_26, rfl, rfl, h32, (v_621074fb26 q4 h37), (fun _ => ⟨h31, h29, h30⟩), (v_621074fb26 q4 h38), (fun _ => by rw [← h29]; exact ⟨h39, h40⟩), (v_94d6d099ed h37), (v_94d6d099ed h38), h41, h42, h43, h44⟩
            · refine J_iload_n dX12_ask_191 rfl rfl ?_
              refine J_goto (tgt := 196) dX12_ask_192 (by decide) ?_
              refine J_touch (k := 131) (e := .inl (0, 1261, .inl (zA a_26))) rfl ?_
              refine J_touch (k := 130) (e := .inl (2, 1260, .inl (zA f28))) rfl ?_
              refine J_touch (k := 120) (e := .inl (0, 1260, .inl (zA f3_26))) rfl ?_
              refine J_touch (k := 119) (e := .inl (1, 1260, .inr (.inl (zAL f2_26)))) rfl ?_
              refine J_touch (k := 118) (e := .inl (0, 1260, .inl (zA f1_26))) rfl ?_
              refine J_touch (k := 109) (e := .inl (0, 8, .inl (zA f19))) rfl ?_
              refine J_touch (k := 116) (e := .inl (0, 1260, .inl (zA f18))) rfl ?_
              refine J_touch (k := 115) (e := .inl (0, 27720, .inl (zA f17))) rfl ?_
              refine J_touch (k := 114) (e := .inl (0, 1260, .inl (zA f16))) rfl ?_
              refine J_touch (k := 113) (e := .inl (0, 27720, .inl (zA f15))) rfl ?_
              refine J_touch (k := 112) (e := .inl (0, 27720, .inl (zA f14))) rfl ?_
              refine J_touch (k := 117) (e := .inl (0, 7, .inl (zA f12))) rfl ?_
              refine J_touch (k := 111) (e := .inl (0, 1260, .inl (zA f11))) rfl ?_
              refine J_touch (k := 110) (e := .inl (0, 8820, .inl (zA f10))) rfl ?_
              refine J_touch (k := 98) (e := .inr (12, (.int (zI ms) :: .int (zI mv) :: .ref 99 :: .ref 100 :: .ref 101 :: .ref 102 :: .ref 103 :: .ref 104 :: .ref 105 :: .int (zI mt) :: .int (zI mfa) :: .ref 106 :: .ref 107 :: .ref 108 :: .int (zI mtn) :: .int (zI mtk) :: .int (zI mlv) :: .int (zI mbd) :: .int (zI z20) :: .int (zI z21) :: .int (zI z22) :: .ref 109 :: .int (zI z23) :: .int (zI z24) :: .ref 110 :: .ref 111 :: .ref 112 :: .ref 113 :: .ref 114 :: .ref 115 :: .ref 116 :: .ref 117 :: .int (zI z7) :: .int (zI z8) :: .int (zI z9) :: .int (zI z13) :: .ref 118 :: .ref 119 :: .ref 120 :: .ref 121 :: .ref 122 :: .ref 123 :: .ref 124 :: .ref 125 :: .ref 126 :: .ref 127 :: .ref 128 :: .ref 129 :: .int (zI mfu) :: .ref 130 :: .ref 131 :: .ref 132 :: .ref 133 :: .ref 134 :: .int (zI mdm) :: .int (zI mla) :: []))) rfl ?_
              refine J_mask (L2 := [(98, .inr (12, (.int (zI ms) :: .int (zI mv) :: .ref 99 :: .ref 100 :: .ref 101 :: .ref 102 :: .ref 103 :: .ref 104 :: .ref 105 :: .int (zI mt) :: .int (zI mfa) :: .ref 106 :: .ref 107 :: .ref 108 :: .int (zI mtn) :: .int (zI mtk) :: .int (zI mlv) :: .int (zI mbd) :: .int (zI z20) :: .int (zI z21) :: .int (zI z22) :: .ref 109 :: .int (zI z23) :: .int (zI z24) :: .ref 110 :: .ref 111 :: .ref 112 :: .ref 113 :: .ref 114 :: .ref 115 :: .ref 116 :: .ref 117 :: .int (zI z7) :: .int (zI z8) :: .int (zI z9) :: .int (zI z13) :: .ref 118 :: .ref 119 :: .ref 120 :: .ref 121 :: .ref 122 :: .ref 123 :: .ref 124 :: .ref 125 :: .ref 126 :: .ref 127 :: .ref 128 :: .ref 129 :: .int (zI mfu) :: .ref 130 :: .ref 131 :: .ref 132 :: .ref 133 :: .ref 134 :: .int (zI mdm) :: .int (zI mla) :: []))), (110, .inl (0, 8820, .inl (zA f10))), (111, .inl (0, 1260, .inl (zA f11))), (117, .inl (0, 7, .inl (zA f12))), (112, .inl (0, 27720, .inl (zA f14))), (113, .inl (0, 27720, .inl (zA f15))), (114, .inl (0, 1260, .inl (zA f16))), (115, .inl (0, 27720, .inl (zA f17))), (116, .inl (0, 1260, .inl (zA f18))), (109, .inl (0, 8, .inl (zA f19))), (118, .inl (0, 1260, .inl (zA f1_26))), (119, .inl (1, 1260, .inr (.inl (zAL f2_26)))), (120, .inl (0, 1260, .inl (zA f3_26))), (130, .inl (2, 1260, .inl (zA f28))), (131, .inl (0, 1261, .inl (zA a_26)))]) (ks := [98, 110, 111, 117, 112, 113, 114, 115, 116, 109, 118, 119, 120, 130, 131, 131, 98, 110, 111, 117, 112, 113, 114, 115, 116, 109, 118, 119, 120, 130]) [true, true, true, true, true, true, true, true, true, true, true, true, true, true, true, false, false, false, false, false, false, false, false, false, false, false, false, false, false, false] rfl (by decide +kernel) rfl ?_
              exact J_iret dX12_ask_196 rfl rfl (Nat.le_of_ble_eq_true rfl) (Nat.le_of_ble_eq_true rfl) ⟨best_26, z7, z8, z9, f10, f11, f12, z13, f14, f15, f16, f17, f18, f19, z20, z21, z22, z23, z24, f1_26, f2_26, f3_26, f28, a_26, rfl, rfl, h32, (v_621074fb26 q4 h37), (fun _ => ⟨h31, h29, h30⟩), (v_621074fb26 q4 h38), (fun _ => by rw [← h29]; exact ⟨h39, h40⟩), (v_94d6d099ed h37), (v_94d6d099ed h38), h41, h42, h43, h44⟩
          · refine J_aload_n dX12_ask_35 rfl rfl ?_
            refine J_iload dX12_ask_36 rfl ?_
            refine J_callV (st := []) dX12_ask_38 cv_X12_334 (k_measures h_26 f14 f15 f16 f1_26 f2_26 f3_26 ms mv mt mfa mtn mtk mlv mbd z20 z21 z22 z23 z24 z7 z8 z9 z13 mfu mdm mla i26_0 (v_fe9ea41faa h48) h33 h34 h39 rfl rfl rfl rfl rfl rfl rfl) rfl rfl rfl (Nat.le_of_ble_eq_true rfl) ⟨(Nat.le_of_ble_eq_true rfl), (Nat.le_of_ble_eq_true rfl)⟩ ⟨(Nat.le_of_ble_eq_true rfl), (Nat.le_of_ble_eq_true rfl)⟩ (fun r h9 hp => ?_)
            obtain ⟨f50, f51, f52, z53, rfl, rfl, h54, h55, h56, h57⟩ := hp
            refine J_nf (nh2 := nh) (ck2 := 0) (sk2 := 0) (st2 := [.int (zI z53)]) rfl rfl rfl rfl ?_
            refine J_app (L3 := [(118, .inl (0, 1260, .inl (zA f50))), (119, .inl (1, 1260, .inr (.inl (zAL f51)))), (120, .inl (0, 1260, .inl (zA f52))), (131, .inl (0, 1261, .inl (zA a_26))), (98, .inr (12, (.int (zI ms) :: .int (zI mv) :: .ref 99 :: .ref 100 :: .ref 101 :: .ref 102 :: .ref 103 :: .ref 104 :: .ref 105 :: .int (zI mt) :: .int (zI mfa) :: .ref 106 :: .ref 107 :: .ref 108 :: .int (zI mtn) :: .int (zI mtk) :: .int (zI mlv) :: .int (zI mbd) :: .int (zI z20) :: .int (zI z21) :: .int (zI z22) :: .ref 109 :: .int (zI z23) :: .int (zI z24) :: .ref 110 :: .ref 111 :: .ref 112 :: .ref 113 :: .ref 114 :: .ref 115 :: .ref 116 :: .ref 117 :: .int (zI z7) :: .int (zI z8) :: .int (zI z9) :: .int (zI z13) :: .ref 118 :: .ref 119 :: .ref 120 :: .ref 121 :: .ref 122 :: .ref 123 :: .ref 124 :: .ref 125 :: .ref 126 :: .ref 127 :: .ref 128 :: .ref 129 :: .int (zI mfu) :: .ref 130 :: .ref 131 :: .ref 132 :: .ref 133 :: .ref 134 :: .int (zI mdm) :: .int (zI mla) :: []))), (110, .inl (0, 8820, .inl (zA f10))), (111, .inl (0, 1260, .inl (zA f11))), (117, .inl (0, 7, .inl (zA f12))), (112, .inl (0, 27720, .inl (zA f14))), (113, .inl (0, 27720, .inl (zA f15))), (114, .inl (0, 1260, .inl (zA f16))), (115, .inl (0, 27720, .inl (zA f17))), (116, .inl (0, 1260, .inl (zA f18))), (109, .inl (0, 8, .inl (zA f19))), (118, .inl (0, 1260, .inl (zA f1_26))), (119, .inl (1, 1260, .inr (.inl (zAL f2_26)))), (120, .inl (0, 1260, .inl (zA f3_26))), (130, .inl (2, 1260, .inl (zA f28)))]) rfl ?_
            refine J_mask (L2 := [(118, .inl (0, 1260, .inl (zA f50))), (119, .inl (1, 1260, .inr (.inl (zAL f51)))), (120, .inl (0, 1260, .inl (zA f52))), (131, .inl (0, 1261, .inl (zA a_26))), (98, .inr (12, (.int (zI ms) :: .int (zI mv) :: .ref 99 :: .ref 100 :: .ref 101 :: .ref 102 :: .ref 103 :: .ref 104 :: .ref 105 :: .int (zI mt) :: .int (zI mfa) :: .ref 106 :: .ref 107 :: .ref 108 :: .int (zI mtn) :: .int (zI mtk) :: .int (zI mlv) :: .int (zI mbd) :: .int (zI z20) :: .int (zI z21) :: .int (zI z22) :: .ref 109 :: .int (zI z23) :: .int (zI z24) :: .ref 110 :: .ref 111 :: .ref 112 :: .ref 113 :: .ref 114 :: .ref 115 :: .ref 116 :: .ref 117 :: .int (zI z7) :: .int (zI z8) :: .int (zI z9) :: .int (zI z13) :: .ref 118 :: .ref 119 :: .ref 120 :: .ref 121 :: .ref 122 :: .ref 123 :: .ref 124 :: .ref 125 :: .ref 126 :: .ref 127 :: .ref 128 :: .ref 129 :: .int (zI mfu) :: .ref 130 :: .ref 131 :: .ref 132 :: .ref 133 :: .ref 134 :: .int (zI mdm) :: .int (zI mla) :: []))), (110, .inl (0, 8820, .inl (zA f10))), (111, .inl (0, 1260, .inl (zA f11))), (117, .inl (0, 7, .inl (zA f12))), (112, .inl (0, 27720, .inl (zA f14))), (113, .inl (0, 27720, .inl (zA f15))), (114, .inl (0, 1260, .inl (zA f16))), (115, .inl (0, 27720, .inl (zA f17))), (116, .inl (0, 1260, .inl (zA f18))), (109, .inl (0, 8, .inl (zA f19))), (130, .inl (2, 1260, .inl (zA f28)))]) (ks := [118, 119, 120, 131, 98, 110, 111, 117, 112, 113, 114, 115, 116, 109, 118, 119, 120, 130]) [true, true, true, true, true, true, true, true, true, true, true, true, true, true, false, false, false, true] rfl (by decide +kernel) rfl ?_
            refine J_pop dX12_ask_41 rfl ?_
            refine Z_iconst (n := 0) dX12_ask_42 ?_
            refine J_istore dX12_ask_43 (Nat.le_of_ble_eq_true rfl) rfl ?_
            refine J_ls (ls2 := [some (.ref 98), some (.int (zI x)), some (.int (zI best_26)), some (.int (zI few_26)), some (.int (zI h_26)), some (.int (zI 0)), none, none]) rfl ?_
            have lp45 : ∀ (N45 : Nat) (k_45 : Int) (a_45 : Int → Int), (0 ≤ k_45) → (k_45 ≤ z7 + 1) → (Rg a_45 k_45 0 0) → (z7 + 1 - k_45).toNat < N45 → J l G MX12_ask { frames := 44, cells := 0, slots := 0, locals := 1040 } jE (jMQ G { frames := 44, cells := 0, slots := 0, locals := 1040 } (fun rr h9 => ∃ r : Int, ∃ hm2 : Int, ∃ pm2 : Int, ∃ hb2 : Int, ∃ co2 : Int → Int, ∃ cd2 : Int → Int, ∃ of2 : Int → Int, ∃ sb2 : Int, ∃ st2 : Int → Int, ∃ tk2 : Int → Int, ∃ sm2 : Int → Int, ∃ cf2 : Int → Int, ∃ cm2 : Int → Int, ∃ aq2 : Int → Int, ∃ go2 : Int, ∃ ge2 : Int, ∃ bk2 : Int, ∃ tt2 : Int, ∃ tl2 : Int, ∃ fa2 : Int → Int, ∃ fm2 : Int → Int, ∃ li2 : Int → Int, ∃ fg2 : Int → Int, ∃ ak2 : Int → Int, rr = some (.int (zI r)) ∧ h9 = (nh, hc fh [(98, .inr (12, (.int (zI ms) :: .int (zI mv) :: .ref 99 :: .ref 100 :: .ref 101 :: .ref 102 :: .ref 103 :: .ref 104 :: .ref 105 :: .int (zI mt) :: .int (zI mfa) :: .ref 106 :: .ref 107 :: .ref 108 :: .int (zI mtn) :: .int (zI mtk) :: .int (zI mlv) :: .int (zI mbd) :: .int (zI go2) :: .int (zI ge2) :: .int (zI bk2) :: .ref 109 :: .int (zI tt2) :: .int (zI tl2) :: .ref 110 :: .ref 111 :: .ref 112 :: .ref 113 :: .ref 114 :: .ref 115 :: .ref 116 :: .ref 117 :: .int (zI hm2) :: .int (zI pm2) :: .int (zI hb2) :: .int (zI sb2) :: .ref 118 :: .ref 119 :: .ref 120 :: .ref 121 :: .ref 122 :: .ref 123 :: .ref 124 :: .ref 125 :: .ref 126 :: .ref 127 :: .ref 128 :: .ref 129 :: .int (zI mfu) :: .ref 130 :: .ref 131 :: .ref 132 :: .ref 133 :: .ref 134 :: .int (zI mdm) :: .int (zI mla) :: []))), (110, .inl (0, 8820, .inl (zA co2))), (111, .inl (0, 1260, .inl (zA cd2))), (117, .inl (0, 7, .inl (zA of2))), (112, .inl (0, 27720, .inl (zA st2))), (113, .inl (0, 27720, .inl (zA tk2))), (114, .inl (0, 1260, .inl (zA sm2))), (115, .inl (0, 27720, .inl (zA cf2))), (116, .inl (0, 1260, .inl (zA cm2))), (109, .inl (0, 8, .inl (zA aq2))), (118, .inl (0, 1260, .inl (zA fa2))), (119, .inl (1, 1260, .inr (.inl (zAL fm2)))), (120, .inl (0, 1260, .inl (zA li2))), (130, .inl (2, 1260, .inl (zA fg2))), (131, .inl (0, 1261, .inl (zA ak2)))]) ∧ (Rg of2 7 0 4) ∧ (zr hb2) ∧ (hb2 = mv → HouT co2 cd2 K hm2 ∧ hm2 = Hi K ∧ pm2 = bsum K) ∧ (zr sb2) ∧ (sb2 = mv → StM st2 tk2 sm2 (Hi K) ∧ CoM cf2 cm2 st2 sm2 (Hi K)) ∧ (hb2 ≤ mv) ∧ (sb2 ≤ mv) ∧ (0 ≤ bk2) ∧ (bk2 ≤ 1) ∧ (Rg aq2 8 (-2147483648) 2147483647) ∧ (Rg fg2 1260 0 1))) (nh, hc fh [(118, .inl (0, 1260, .inl (zA f50))), (119, .inl (1, 1260, .inr (.inl (zAL f51)))), (120, .inl (0, 1260, .inl (zA f52))), (131, .inl (0, 1261, .inl (zA a_45))), (98, .inr (12, (.int (zI ms) :: .int (zI mv) :: .ref 99 :: .ref 100 :: .ref 101 :: .ref 102 :: .ref 103 :: .ref 104 :: .ref 105 :: .int (zI mt) :: .int (zI mfa) :: .ref 106 :: .ref 107 :: .ref 108 :: .int (zI mtn) :: .int (zI mtk) :: .int (zI mlv) :: .int (zI mbd) :: .int (zI z20) :: .int (zI z21) :: .int (zI z22) :: .ref 109 :: .int (zI z23) :: .int (zI z24) :: .ref 110 :: .ref 111 :: .ref 112 :: .ref 113 :: .ref 114 :: .ref 115 :: .ref 116 :: .ref 117 :: .int (zI z7) :: .int (zI z8) :: .int (zI z9) :: .int (zI z13) :: .ref 118 :: .ref 119 :: .ref 120 :: .ref 121 :: .ref 122 :: .ref 123 :: .ref 124 :: .ref 125 :: .ref 126 :: .ref 127 :: .ref 128 :: .ref 129 :: .int (zI mfu) :: .ref 130 :: .ref 131 :: .ref 132 :: .ref 133 :: .ref 134 :: .int (zI mdm) :: .int (zI mla) :: []))), (110, .inl (0, 8820, .inl (zA f10))), (111, .inl (0, 1260, .inl (zA f11))), (117, .inl (0, 7, .inl (zA f12))), (112, .inl (0, 27720, .inl (zA f14))), (113, .inl (0, 27720, .inl (zA f15))), (114, .inl (0, 1260, .inl (zA f16))), (115, .inl (0, 27720, .inl (zA f17))), (116, .inl (0, 1260, .inl (zA f18))), (109, .inl (0, 8, .inl (zA f19))), (130, .inl (2, 1260, .inl (zA f28)))]) 0 0 45 [some (.ref 98), some (.int (zI x)), some (.int (zI best_26)), some (.int (zI few_26)), some (.int (zI h_26)), some (.int (zI k_45)), none, none] [] := by
              intro N45
              induction N45 with
              | zero => intro k_45 a_45 i45_0 i45_1 i45_2 hm; exact absurd hm (Nat.not_lt_zero _)
              | succ N45 ih45 =>
                intro k_45 a_45 i45_0 i45_1 i45_2 hm45
                refine J_iload dX12_ask_45 rfl ?_
                refine J_aload_n dX12_ask_47 rfl rfl ?_
                refine J_get (v := .int (zI z7)) dX12_ask_48 fl_X12_298 rfl rfl ?_
                refine Z_icmp_gt (tgt := 68) dX12_ask_51 (by decide) (v_91dbbcd35a h34 i45_0 i45_1) (v_81c6732ede h33 h34) (fun h58 => ?_) (fun h58 => ?_)
                · refine Z_iconst (n := 0) dX12_ask_68 ?_
                  refine J_istore dX12_ask_69 (Nat.le_of_ble_eq_true rfl) rfl ?_
                  refine J_ls (ls2 := [some (.ref 98), some (.int (zI x)), some (.int (zI best_26)), some (.int (zI few_26)), some (.int (zI h_26)), some (.int (zI 0)), none, none]) rfl ?_
                  refine Z_iconst (n := 0) dX12_ask_71 ?_
                  refine J_istore dX12_ask_72 (Nat.le_of_ble_eq_true rfl) rfl ?_
                  refine J_ls (ls2 := [some (.ref 98), some (.int (zI x)), some (.int (zI best_26)), some (.int (zI few_26)), some (.int (zI h_26)), some (.int (zI 0)), some (.int (zI 0)), none]) rfl ?_
                  have lp74 : ∀ (N74 : Nat) (most_74 : Int) (y_74 : Int) (a_74 : Int → Int), (0 ≤ y_74) → (y_74 ≤ z7) → (0 ≤ most_74) → (most_74 ≤ 1260) → (Rg a_74 (z7 + 1) 0 y_74) → (z7 - y_74).toNat < N74 → J l G MX12_ask { frames := 44, cells := 0, slots := 0, locals := 1040 } jE (jMQ G { frames := 44, cells := 0, slots := 0, locals := 1040 } (fun rr h9 => ∃ r : Int, ∃ hm2 : Int, ∃ pm2 : Int, ∃ hb2 : Int, ∃ co2 : Int → Int, ∃ cd2 : Int → Int, ∃ of2 : Int → Int, ∃ sb2 : Int, ∃ st2 : Int → Int, ∃ tk2 : Int → Int, ∃ sm2 : Int → Int, ∃ cf2 : Int → Int, ∃ cm2 : Int → Int, ∃ aq2 : Int → Int, ∃ go2 : Int, ∃ ge2 : Int, ∃ bk2 : Int, ∃ tt2 : Int, ∃ tl2 : Int, ∃ fa2 : Int → Int, ∃ fm2 : Int → Int, ∃ li2 : Int → Int, ∃ fg2 : Int → Int, ∃ ak2 : Int → Int, rr = some (.int (zI r)) ∧ h9 = (nh, hc fh [(98, .inr (12, (.int (zI ms) :: .int (zI mv) :: .ref 99 :: .ref 100 :: .ref 101 :: .ref 102 :: .ref 103 :: .ref 104 :: .ref 105 :: .int (zI mt) :: .int (zI mfa) :: .ref 106 :: .ref 107 :: .ref 108 :: .int (zI mtn) :: .int (zI mtk) :: .int (zI mlv) :: .int (zI mbd) :: .int (zI go2) :: .int (zI ge2) :: .int (zI bk2) :: .ref 109 :: .int (zI tt2) :: .int (zI tl2) :: .ref 110 :: .ref 111 :: .ref 112 :: .ref 113 :: .ref 114 :: .ref 115 :: .ref 116 :: .ref 117 :: .int (zI hm2) :: .int (zI pm2) :: .int (zI hb2) :: .int (zI sb2) :: .ref 118 :: .ref 119 :: .ref 120 :: .ref 121 :: .ref 122 :: .ref 123 :: .ref 124 :: .ref 125 :: .ref 126 :: .ref 127 :: .ref 128 :: .ref 129 :: .int (zI mfu) :: .ref 130 :: .ref 131 :: .ref 132 :: .ref 133 :: .ref 134 :: .int (zI mdm) :: .int (zI mla) :: []))), (110, .inl (0, 8820, .inl (zA co2))), (111, .inl (0, 1260, .inl (zA cd2))), (117, .inl (0, 7, .inl (zA of2))), (112, .inl (0, 27720, .inl (zA st2))), (113, .inl (0, 27720, .inl (zA tk2))), (114, .inl (0, 1260, .inl (zA sm2))), (115, .inl (0, 27720, .inl (zA cf2))), (116, .inl (0, 1260, .inl (zA cm2))), (109, .inl (0, 8, .inl (zA aq2))), (118, .inl (0, 1260, .inl (zA fa2))), (119, .inl (1, 1260, .inr (.inl (zAL fm2)))), (120, .inl (0, 1260, .inl (zA li2))), (130, .inl (2, 1260, .inl (zA fg2))), (131, .inl (0, 1261, .inl (zA ak2)))]) ∧ (Rg of2 7 0 4) ∧ (zr hb2) ∧ (hb2 = mv → HouT co2 cd2 K hm2 ∧ hm2 = Hi K ∧ pm2 = bsum K) ∧ (zr sb2) ∧ (sb2 = mv → StM st2 tk2 sm2 (Hi K) ∧ CoM cf2 cm2 st2 sm2 (Hi K)) ∧ (hb2 ≤ mv) ∧ (sb2 ≤ mv) ∧ (0 ≤ bk2) ∧ (bk2 ≤ 1) ∧ (Rg aq2 8 (-2147483648) 2147483647) ∧ (Rg fg2 1260 0 1))) (nh, hc fh [(118, .inl (0, 1260, .inl (zA f50))), (119, .inl (1, 1260, .inr (.inl (zAL f51)))), (120, .inl (0, 1260, .inl (zA f52))), (131, .inl (0, 1261, .inl (zA a_74))), (98, .inr (12, (.int (zI ms) :: .int (zI mv) :: .ref 99 :: .ref 100 :: .ref 101 :: .ref 102 :: .ref 103 :: .ref 104 :: .ref 105 :: .int (zI mt) :: .int (zI mfa) :: .ref 106 :: .ref 107 :: .ref 108 :: .int (zI mtn) :: .int (zI mtk) :: .int (zI mlv) :: .int (zI mbd) :: .int (zI z20) :: .int (zI z21) :: .int (zI z22) :: .ref 109 :: .int (zI z23) :: .int (zI z24) :: .ref 110 :: .ref 111 :: .ref 112 :: .ref 113 :: .ref 114 :: .ref 115 :: .ref 116 :: .ref 117 :: .int (zI z7) :: .int (zI z8) :: .int (zI z9) :: .int (zI z13) :: .ref 118 :: .ref 119 :: .ref 120 :: .ref 121 :: .ref 122 :: .ref 123 :: .ref 124 :: .ref 125 :: .ref 126 :: .ref 127 :: .ref 128 :: .ref 129 :: .int (zI mfu) :: .ref 130 :: .ref 131 :: .ref 132 :: .ref 133 :: .ref 134 :: .int (zI mdm) :: .int (zI mla) :: []))), (110, .inl (0, 8820, .inl (zA f10))), (111, .inl (0, 1260, .inl (zA f11))), (117, .inl (0, 7, .inl (zA f12))), (112, .inl (0, 27720, .inl (zA f14))), (113, .inl (0, 27720, .inl (zA f15))), (114, .inl (0, 1260, .inl (zA f16))), (115, .inl (0, 27720, .inl (zA f17))), (116, .inl (0, 1260, .inl (zA f18))), (109, .inl (0, 8, .inl (zA f19))), (130, .inl (2, 1260, .inl (zA f28)))]) 0 0 74 [some (.ref 98), some (.int (zI x)), some (.int (zI best_26)), some (.int (zI few_26)), some (.int (zI h_26)), some (.int (zI most_74)), some (.int (zI y_74)), none] [] := by
                    intro N74
                    induction N74 with
                    | zero => intro most_74 y_74 a_74 i74_0 i74_1 i74_2 i74_3 i74_4 hm; exact absurd hm (Nat.not_lt_zero _)
                    | succ N74 ih74 =>
                      intro most_74 y_74 a_74 i74_0 i74_1 i74_2 i74_3 i74_4 hm74
                      refine J_iload dX12_ask_74 rfl ?_
                      refine J_aload_n dX12_ask_76 rfl rfl ?_
                      refine J_get (v := .int (zI z7)) dX12_ask_77 fl_X12_298 rfl rfl ?_
                      refine Z_icmp_ge (tgt := 166) dX12_ask_80 (by decide) (v_c9ca704c4d h34 i74_0 i74_1) (v_81c6732ede h33 h34) (fun h59 => ?_) (fun h59 => ?_)
                      · refine J_iload dX12_ask_166 rfl ?_
                        refine J_iload_n dX12_ask_168 rfl rfl ?_
                        refine Z_icmp_lt (tgt := 175) dX12_ask_169 (by decide) (v_d5bb4ec110 i74_2 i74_3) (v_446c93d96c i26_2 i26_3) (fun h60 => ?_) (fun h60 => ?_)
                        · refine J_iload dX12_ask_175 rfl ?_
                          refine J_istore_n dX12_ask_177 rfl (Nat.le_of_ble_eq_true rfl) rfl ?_
                          refine J_ls (ls2 := [some (.ref 98), some (.int (zI x)), some (.int (zI best_26)), some (.int (zI most_74)), some (.int (zI h_26)), some (.int (zI most_74)), some (.int (zI y_74)), none]) rfl ?_
                          refine J_iload dX12_ask_178 rfl ?_
                          refine J_istore_n dX12_ask_180 rfl (Nat.le_of_ble_eq_true rfl) rfl ?_
                          refine J_ls (ls2 := [some (.ref 98), some (.int (zI x)), some (.int (zI h_26)), some (.int (zI most_74)), some (.int (zI h_26)), some (.int (zI most_74)), some (.int (zI y_74)), none]) rfl ?_
                          refine Z_iinc (c := h_26 + 1) (ls2 := [some (.ref 98), some (.int (zI x)), some (.int (zI h_26)), some (.int (zI most_74)), some (.int (zI (h_26 + 1))), some (.int (zI most_74)), some (.int (zI y_74)), none]) dX12_ask_181 rfl (Nat.le_of_ble_eq_true rfl) rfl rfl rfl ?_
                          refine J_goto (tgt := 26) dX12_ask_184 (by decide) ?_
                          refine J_touch (k := 130) (e := .inl (2, 1260, .inl (zA f28))) rfl ?_
                          refine J_touch (k := 120) (e := .inl (0, 1260, .inl (zA f52))) rfl ?_
                          refine J_touch (k := 119) (e := .inl (1, 1260, .inr (.inl (zAL f51)))) rfl ?_
                          refine J_touch (k := 118) (e := .inl (0, 1260, .inl (zA f50))) rfl ?_
                          refine J_touch (k := 109) (e := .inl (0, 8, .inl (zA f19))) rfl ?_
                          refine J_touch (k := 116) (e := .inl (0, 1260, .inl (zA f18))) rfl ?_
                          refine J_touch (k := 115) (e := .inl (0, 27720, .inl (zA f17))) rfl ?_
                          refine J_touch (k := 114) (e := .inl (0, 1260, .inl (zA f16))) rfl ?_
                          refine J_touch (k := 113) (e := .inl (0, 27720, .inl (zA f15))) rfl ?_
                          refine J_touch (k := 112) (e := .inl (0, 27720, .inl (zA f14))) rfl ?_
                          refine J_touch (k := 117) (e := .inl (0, 7, .inl (zA f12))) rfl ?_
                          refine J_touch (k := 111) (e := .inl (0, 1260, .inl (zA f11))) rfl ?_
                          refine J_touch (k := 110) (e := .inl (0, 8820, .inl (zA f10))) rfl ?_
                          refine J_touch (k := 98) (e := .inr (12, (.int (zI ms) :: .int (zI mv) :: .ref 99 :: .ref 100 :: .ref 101 :: .ref 102 :: .ref 103 :: .ref 104 :: .ref 105 :: .int (zI mt) :: .int (zI mfa) :: .ref 106 :: .ref 107 :: .ref 108 :: .int (zI mtn) :: .int (zI mtk) :: .int (zI mlv) :: .int (zI mbd) :: .int (zI z20) :: .int (zI z21) :: .int (zI z22) :: .ref 109 :: .int (zI z23) :: .int (zI z24) :: .ref 110 :: .ref 111 :: .ref 112 :: .ref 113 :: .ref 114 :: .ref 115 :: .ref 116 :: .ref 117 :: .int (zI z7) :: .int (zI z8) :: .int (zI z9) :: .int (zI z13) :: .ref 118 :: .ref 119 :: .ref 120 :: .ref 121 :: .ref 122 :: .ref 123 :: .ref 124 :: .ref 125 :: .ref 126 :: .ref 127 :: .ref 128 :: .ref 129 :: .int (zI mfu) :: .ref 130 :: .ref 131 :: .ref 132 :: .ref 133 :: .ref 134 :: .int (zI mdm) :: .int (zI mla) :: []))) rfl ?_
                          refine J_touch (k := 131) (e := .inl (0, 1261, .inl (zA a_74))) rfl ?_
                          refine J_mask (L2 := [(131, .inl (0, 1261, .inl (zA a_74))), (98, .inr (12, (.int (zI ms) :: .int (zI mv) :: .ref 99 :: .ref 100 :: .ref 101 :: .ref 102 :: .ref 103 :: .ref 104 :: .ref 105 :: .int (zI mt) :: .int (zI mfa) :: .ref 106 :: .ref 107 :: .ref 108 :: .int (zI mtn) :: .int (zI mtk) :: .int (zI mlv) :: .int (zI mbd) :: .int (zI z20) :: .int (zI z21) :: .int (zI z22) :: .ref 109 :: .int (zI z23) :: .int (zI z24) :: .ref 110 :: .ref 111 :: .ref 112 :: .ref 113 :: .ref 114 :: .ref 115 :: .ref 116 :: .ref 117 :: .int (zI z7) :: .int (zI z8) :: .int (zI z9) :: .int (zI z13) :: .ref 118 :: .ref 119 :: .ref 120 :: .ref 121 :: .ref 122 :: .ref 123 :: .ref 124 :: .ref 125 :: .ref 126 :: .ref 127 :: .ref 128 :: .ref 129 :: .int (zI mfu) :: .ref 130 :: .ref 131 :: .ref 132 :: .ref 133 :: .ref 134 :: .int (zI mdm) :: .int (zI mla) :: []))), (110, .inl (0, 8820, .inl (zA f10))), (111, .inl (0, 1260, .inl (zA f11))), (117, .inl (0, 7, .inl (zA f12))), (112, .inl (0, 27720, .inl (zA f14))), (113, .inl (0, 27720, .inl (zA f15))), (114, .inl (0, 1260, .inl (zA f16))), (115, .inl (0, 27720, .inl (zA f17))), (116, .inl (0, 1260, .inl (zA f18))), (109, .inl (0, 8, .inl (zA f19))), (118, .inl (0, 1260, .inl (zA f50))), (119, .inl (1, 1260, .inr (.inl (zAL f51)))), (120, .inl (0, 1260, .inl (zA f52))), (130, .inl (2, 1260, .inl (zA f28)))]) (ks := [131, 98, 110, 111, 117, 112, 113, 114, 115, 116, 109, 118, 119, 120, 130, 118, 119, 120, 131, 98, 110, 111, 117, 112, 113, 114, 115, 116, 109, 130]) [true, true, true, true, true, true, true, true, true, true, true, true, true, true, true, false, false, false, false, false, false, false, false, false, false, false, false, false, false, false] rfl (by decide +kernel) rfl ?_
                          refine J_drop (ls2 := [some (.ref 98), some (.int (zI x)), some (.int (zI h_26)), some (.int (zI most_74)), some (.int (zI (h_26 + 1))), none, none, none]) [true, true, true, true, true, false, false, false] rfl ?_
                          exact ih26 h_26 most_74 (h_26 + 1) f50 f51 f52 a_74 (v_da458fa48a i26_0) (v_e390a36114 h48) i74_2 (v_135523bb26 i74_3) (meas_lt v_90eacd6fd4 (v_8b7dd7d486 h48) hm26)
                        · refine J_goto (tgt := 181) dX12_ask_172 (by decide) ?_
                          refine Z_iinc (c := h_26 + 1) (ls2 := [some (.ref 98), some (.int (zI x)), some (.int (zI best_26)), some (.int (zI few_26)), some (.int (zI (h_26 + 1))), some (.int (zI most_74)), some (.int (zI y_74)), none]) dX12_ask_181 rfl (Nat.le_of_ble_eq_true rfl) rfl rfl rfl ?_
                          refine J_goto (tgt := 26) dX12_ask_184 (by decide) ?_
                          refine J_touch (k := 130) (e := .inl (2, 1260, .inl (zA f28))) rfl ?_
                          refine J_touch (k := 120) (e := .inl (0, 1260, .inl (zA f52))) rfl ?_
                          refine J_touch (k := 119) (e := .inl (1, 1260, .inr (.inl (zAL f51)))) rfl ?_
                          refine J_touch (k := 118) (e := .inl (0, 1260, .inl (zA f50))) rfl ?_
                          refine J_touch (k := 109) (e := .inl (0, 8, .inl (zA f19))) rfl ?_
                          refine J_touch (k := 116) (e := .inl (0, 1260, .inl (zA f18))) rfl ?_
                          refine J_touch (k := 115) (e := .inl (0, 27720, .inl (zA f17))) rfl ?_
                          refine J_touch (k := 114) (e := .inl (0, 1260, .inl (zA f16))) rfl ?_
                          refine J_touch (k := 113) (e := .inl (0, 27720, .inl (zA f15))) rfl ?_
                          refine J_touch (k := 112) (e := .inl (0, 27720, .inl (zA f14))) rfl ?_
                          refine J_touch (k := 117) (e := .inl (0, 7, .inl (zA f12))) rfl ?_
                          refine J_touch (k := 111) (e := .inl (0, 1260, .inl (zA f11))) rfl ?_
                          refine J_touch (k := 110) (e := .inl (0, 8820, .inl (zA f10))) rfl ?_
                          refine J_touch (k := 98) (e := .inr (12, (.int (zI ms) :: .int (zI mv) :: .ref 99 :: .ref 100 :: .ref 101 :: .ref 102 :: .ref 103 :: .ref 104 :: .ref 105 :: .int (zI mt) :: .int (zI mfa) :: .ref 106 :: .ref 107 :: .ref 108 :: .int (zI mtn) :: .int (zI mtk) :: .int (zI mlv) :: .int (zI mbd) :: .int (zI z20) :: .int (zI z21) :: .int (zI z22) :: .ref 109 :: .int (zI z23) :: .int (zI z24) :: .ref 110 :: .ref 111 :: .ref 112 :: .ref 113 :: .ref 114 :: .ref 115 :: .ref 116 :: .ref 117 :: .int (zI z7) :: .int (zI z8) :: .int (zI z9) :: .int (zI z13) :: .ref 118 :: .ref 119 :: .ref 120 :: .ref 121 :: .ref 122 :: .ref 123 :: .ref 124 :: .ref 125 :: .ref 126 :: .ref 127 :: .ref 128 :: .ref 129 :: .int (zI mfu) :: .ref 130 :: .ref 131 :: .ref 132 :: .ref 133 :: .ref 134 :: .int (zI mdm) :: .int (zI mla) :: []))) rfl ?_
                          refine J_touch (k := 131) (e := .inl (0, 1261, .inl (zA a_74))) rfl ?_
                          refine J_mask (L2 := [(131, .inl (0, 1261, .inl (zA a_74))), (98, .inr (12, (.int (zI ms) :: .int (zI mv) :: .ref 99 :: .ref 100 :: .ref 101 :: .ref 102 :: .ref 103 :: .ref 104 :: .ref 105 :: .int (zI mt) :: .int (zI mfa) :: .ref 106 :: .ref 107 :: .ref 108 :: .int (zI mtn) :: .int (zI mtk) :: .int (zI mlv) :: .int (zI mbd) :: .int (zI z20) :: .int (zI z21) :: .int (zI z22) :: .ref 109 :: .int (zI z23) :: .int (zI z24) :: .ref 110 :: .ref 111 :: .ref 112 :: .ref 113 :: .ref 114 :: .ref 115 :: .ref 116 :: .ref 117 :: .int (zI z7) :: .int (zI z8) :: .int (zI z9) :: .int (zI z13) :: .ref 118 :: .ref 119 :: .ref 120 :: .ref 121 :: .ref 122 :: .ref 123 :: .ref 124 :: .ref 125 :: .ref 126 :: .ref 127 :: .ref 128 :: .ref 129 :: .int (zI mfu) :: .ref 130 :: .ref 131 :: .ref 132 :: .ref 133 :: .ref 134 :: .int (zI mdm) :: .int (zI mla) :: []))), (110, .inl (0, 8820, .inl (zA f10))), (111, .inl (0, 1260, .inl (zA f11))), (117, .inl (0, 7, .inl (zA f12))), (112, .inl (0, 27720, .inl (zA f14))), (113, .inl (0, 27720, .inl (zA f15))), (114, .inl (0, 1260, .inl (zA f16))), (115, .inl (0, 27720, .inl (zA f17))), (116, .inl (0, 1260, .inl (zA f18))), (109, .inl (0, 8, .inl (zA f19))), (118, .inl (0, 1260, .inl (zA f50))), (119, .inl (1, 1260, .inr (.inl (zAL f51)))), (120, .inl (0, 1260, .inl (zA f52))), (130, .inl (2, 1260, .inl (zA f28)))]) (ks := [131, 98, 110, 111, 117, 112, 113, 114, 115, 116, 109, 118, 119, 120, 130, 118, 119, 120, 131, 98, 110, 111, 117, 112, 113, 114, 115, 116, 109, 130]) [true, true, true, true, true, true, true, true, true, true, true, true, true, true, true, false, false, false, false, false, false, false, false, false, false, false, false, false, false, false] rfl (by decide +kernel) rfl ?_
                          refine J_drop (ls2 := [some (.ref 98), some (.int (zI x)), some (.int (zI best_26)), some (.int (zI few_26)), some (.int (zI (h_26 + 1))), none, none, none]) [true, true, true, true, true, false, false, false] rfl ?_
                          exact ih26 best_26 few_26 (h_26 + 1) f50 f51 f52 a_74 (v_da458fa48a i26_0) (v_e390a36114 h48) i26_2 i26_3 (meas_lt v_90eacd6fd4 (v_8b7dd7d486 h48) hm26)
                      · refine J_aload_n dX12_ask_83 rfl rfl ?_
                        refine J_get (v := .ref 130) dX12_ask_84 fl_X12_123 rfl rfl ?_
                        refine J_iload dX12_ask_87 rfl ?_
                        obtain ⟨z61, ez61⟩ : ∃ z : Int, f28 y_74 = z := ⟨_, rfl⟩
                        have h62 := Rg.at h44 (v_2b02420001 i74_0) (v_610e7c4416 h34 h59) ez61
                        refine Y_zald (z := z61) 1260 dX12_ask_89 rfl rfl (by decide) (v_2b02420001 i74_0) (v_610e7c4416 h34 h59) ez61 ?_
                        refine Z_if_ne (tgt := 96) dX12_ask_90 (by decide) (v_5f10a759cd h62.1 h62.2) (fun h63 => ?_) (fun h63 => ?_)
                        · refine J_aload_n dX12_ask_96 rfl rfl ?_
                          refine J_get (v := .ref 118) dX12_ask_97 fl_X12_85 rfl rfl ?_
                          refine J_iload dX12_ask_100 rfl ?_
                          obtain ⟨z64, ez64⟩ : ∃ z : Int, f50 y_74 = z := ⟨_, rfl⟩
                          have h65 := Rg.at h57 (v_2b02420001 i74_0) (v_fe9ea41faa h59) ez64
                          refine Y_iald (z := z64) 1260 dX12_ask_102 rfl rfl (by decide) (v_2b02420001 i74_0) (v_610e7c4416 h34 h59) ez64 ?_
                          refine Z_iconst (n := -1) dX12_ask_103 ?_
                          refine Z_icmp_ne (tgt := 114) dX12_ask_104 (by decide) (v_1331e3f574 h34 h65.1 h65.2) v_d64efa60f9 (fun h66 => ?_) (fun h66 => ?_)
                          · refine J_aload_n dX12_ask_114 rfl rfl ?_
                            refine J_get (v := .ref 118) dX12_ask_115 fl_X12_85 rfl rfl ?_
                            refine J_iload dX12_ask_118 rfl ?_
                            refine Y_iald (z := z64) 1260 dX12_ask_120 rfl rfl (by decide) (v_2b02420001 i74_0) (v_610e7c4416 h34 h59) ez64 ?_
                            refine J_istore dX12_ask_121 (Nat.le_of_ble_eq_true rfl) rfl ?_
                            refine J_ls (ls2 := [some (.ref 98), some (.int (zI x)), some (.int (zI best_26)), some (.int (zI few_26)), some (.int (zI h_26)), some (.int (zI most_74)), some (.int (zI y_74)), some (.int (zI z64))]) rfl ?_
                            refine J_aload_n dX12_ask_123 rfl rfl ?_
                            refine J_get (v := .ref 131) dX12_ask_124 fl_X12_126 rfl rfl ?_
                            refine J_iload dX12_ask_127 rfl ?_
                            refine J_dup2_11 dX12_ask_129 rfl rfl ?_
                            obtain ⟨z67, ez67⟩ : ∃ z : Int, a_74 z64 = z := ⟨_, rfl⟩
                            have h68 := Rg.at i74_4 (v_a708073960 h65.1 h66) (v_174397be43 h65.2) ez67
                            refine Y_iald (z := z67) 1261 dX12_ask_130 rfl rfl (by decide) (v_a708073960 h65.1 h66) (v_54d95fd56a h34 h65.2) ez67 ?_
                            refine Z_iconst (n := 1) dX12_ask_131 ?_
                            refine Z_iadd (c := z67 + 1) dX12_ask_132 rfl ?_
                            refine Y_iast (v := z67 + 1) 1261 dX12_ask_133 rfl rfl (by decide) (v_a708073960 h65.1 h66) (v_54d95fd56a h34 h65.2) (fun f69 ef69 => ?_)
                            refine J_aload_n dX12_ask_134 rfl rfl ?_
                            refine J_get (v := .ref 131) dX12_ask_135 fl_X12_126 rfl rfl ?_
                            refine J_iload dX12_ask_138 rfl ?_
                            obtain ⟨z71, ez71⟩ : ∃ z : Int, f69 z64 = z := ⟨_, rfl⟩
                            have h72 : z71 = z67 + 1 := rd_same ef69 v_a0572702c4 ez71
                            refine Y_iald (z := z71) 1261 dX12_ask_140 rfl rfl (by decide) (v_a708073960 h65.1 h66) (v_54d95fd56a h34 h65.2) ez71 ?_
                            refine J_iload dX12_ask_141 rfl ?_
                            refine Z_icmp_le (tgt := 156) dX12_ask_143 (by decide) (v_ee7ed464af h34 h59 h68.1 h68.2 h72) (v_d5bb4ec110 i74_2 i74_3) (fun h73 => ?_) (fun h73 => ?_)
                            · refine J_iload dX12_ask_156 rfl ?_
                              refine J_istore dX12_ask_158 (Nat.le_of_ble_eq_true rfl) rfl ?_
                              refine J_ls (ls2 := [some (.ref 98), some (.int (zI x)), some (.int (zI best_26)), some (.int (zI few_26)), some (.int (zI h_26)), some (.int (zI most_74)), some (.int (zI y_74)), some (.int (zI z64))]) rfl ?_
                              refine Z_iinc (c := y_74 + 1) (ls2 := [some (.ref 98), some (.int (zI x)), some (.int (zI best_26)), some (.int (zI few_26)), some (.int (zI h_26)), some (.int (zI most_74)), some (.int (zI (y_74 + 1))), some (.int (zI z64))]) dX12_ask_160 rfl (Nat.le_of_ble_eq_true rfl) rfl rfl rfl ?_
                              refine J_goto (tgt := 74) dX12_ask_163 (by decide) ?_
                              refine J_mask (L2 := [(131, .inl (0, 1261, .inl (zA f69))), (118, .inl (0, 1260, .inl (zA f50))), (119, .inl (1, 1260, .inr (.inl (zAL f51)))), (120, .inl (0, 1260, .inl (zA f52))), (98, .inr (12, (.int (zI ms) :: .int (zI mv) :: .ref 99 :: .ref 100 :: .ref 101 :: .ref 102 :: .ref 103 :: .ref 104 :: .ref 105 :: .int (zI mt) :: .int (zI mfa) :: .ref 106 :: .ref 107 :: .ref 108 :: .int (zI mtn) :: .int (zI mtk) :: .int (zI mlv) :: .int (zI mbd) :: .int (zI z20) :: .int (zI z21) :: .int (zI z22) :: .ref 109 :: .int (zI z23) :: .int (zI z24) :: .ref 110 :: .ref 111 :: .ref 112 :: .ref 113 :: .ref 114 :: .ref 115 :: .ref 116 :: .ref 117 :: .int (zI z7) :: .int (zI z8) :: .int (zI z9) :: .int (zI z13) :: .ref 118 :: .ref 119 :: .ref 120 :: .ref 121 :: .ref 122 :: .ref 123 :: .ref 124 :: .ref 125 :: .ref 126 :: .ref 127 :: .ref 128 :: .ref 129 :: .int (zI mfu) :: .ref 130 :: .ref 131 :: .ref 132 :: .ref 133 :: .ref 134 :: .int (zI mdm) :: .int (zI mla) :: []))), (110, .inl (0, 8820, .inl (zA f10))), (111, .inl (0, 1260, .inl (zA f11))), (117, .inl (0, 7, .inl (zA f12))), (112, .inl (0, 27720, .inl (zA f14))), (113, .inl (0, 27720, .inl (zA f15))), (114, .inl (0, 1260, .inl (zA f16))), (115, .inl (0, 27720, .inl (zA f17))), (116, .inl (0, 1260, .inl (zA f18))), (109, .inl (0, 8, .inl (zA f19))), (130, .inl (2, 1260, .inl (zA f28)))]) (ks := [131, 118, 119, 120, 131, 98, 110, 111, 117, 112, 113, 114, 115, 116, 109, 130]) [true, true, true, true, false, true, true, true, true, true, true, true, true, true, true, true] rfl (by decide +kernel) rfl ?_
                              refine J_touch (k := 130) (e := .inl (2, 1260, .inl (zA f28))) rfl ?_
                              refine J_touch (k := 109) (e := .inl (0, 8, .inl (zA f19))) rfl ?_
                              refine J_touch (k := 116) (e := .inl (0, 1260, .inl (zA f18))) rfl ?_
                              refine J_touch (k := 115) (e := .inl (0, 27720, .inl (zA f17))) rfl ?_
                              refine J_touch (k := 114) (e := .inl (0, 1260, .inl (zA f16))) rfl ?_
                              refine J_touch (k := 113) (e := .inl (0, 27720, .inl (zA f15))) rfl ?_
                              refine J_touch (k := 112) (e := .inl (0, 27720, .inl (zA f14))) rfl ?_
                              refine J_touch (k := 117) (e := .inl (0, 7, .inl (zA f12))) rfl ?_
                              refine J_touch (k := 111) (e := .inl (0, 1260, .inl (zA f11))) rfl ?_
                              refine J_touch (k := 110) (e := .inl (0, 8820, .inl (zA f10))) rfl ?_
                              refine J_touch (k := 98) (e := .inr (12, (.int (zI ms) :: .int (zI mv) :: .ref 99 :: .ref 100 :: .ref 101 :: .ref 102 :: .ref 103 :: .ref 104 :: .ref 105 :: .int (zI mt) :: .int (zI mfa) :: .ref 106 :: .ref 107 :: .ref 108 :: .int (zI mtn) :: .int (zI mtk) :: .int (zI mlv) :: .int (zI mbd) :: .int (zI z20) :: .int (zI z21) :: .int (zI z22) :: .ref 109 :: .int (zI z23) :: .int (zI z24) :: .ref 110 :: .ref 111 :: .ref 112 :: .ref 113 :: .ref 114 :: .ref 115 :: .ref 116 :: .ref 117 :: .int (zI z7) :: .int (zI z8) :: .int (zI z9) :: .int (zI z13) :: .ref 118 :: .ref 119 :: .ref 120 :: .ref 121 :: .ref 122 :: .ref 123 :: .ref 124 :: .ref 125 :: .ref 126 :: .ref 127 :: .ref 128 :: .ref 129 :: .int (zI mfu) :: .ref 130 :: .ref 131 :: .ref 132 :: .ref 133 :: .ref 134 :: .int (zI mdm) :: .int (zI mla) :: []))) rfl ?_
                              refine J_touch (k := 131) (e := .inl (0, 1261, .inl (zA f69))) rfl ?_
                              refine J_touch (k := 120) (e := .inl (0, 1260, .inl (zA f52))) rfl ?_
                              refine J_touch (k := 119) (e := .inl (1, 1260, .inr (.inl (zAL f51)))) rfl ?_
                              refine J_touch (k := 118) (e := .inl (0, 1260, .inl (zA f50))) rfl ?_
                              refine J_mask (L2 := [(118, .inl (0, 1260, .inl (zA f50))), (119, .inl (1, 1260, .inr (.inl (zAL f51)))), (120, .inl (0, 1260, .inl (zA f52))), (131, .inl (0, 1261, .inl (zA f69))), (98, .inr (12, (.int (zI ms) :: .int (zI mv) :: .ref 99 :: .ref 100 :: .ref 101 :: .ref 102 :: .ref 103 :: .ref 104 :: .ref 105 :: .int (zI mt) :: .int (zI mfa) :: .ref 106 :: .ref 107 :: .ref 108 :: .int (zI mtn) :: .int (zI mtk) :: .int (zI mlv) :: .int (zI mbd) :: .int (zI z20) :: .int (zI z21) :: .int (zI z22) :: .ref 109 :: .int (zI z23) :: .int (zI z24) :: .ref 110 :: .ref 111 :: .ref 112 :: .ref 113 :: .ref 114 :: .ref 115 :: .ref 116 :: .ref 117 :: .int (zI z7) :: .int (zI z8) :: .int (zI z9) :: .int (zI z13) :: .ref 118 :: .ref 119 :: .ref 120 :: .ref 121 :: .ref 122 :: .ref 123 :: .ref 124 :: .ref 125 :: .ref 126 :: .ref 127 :: .ref 128 :: .ref 129 :: .int (zI mfu) :: .ref 130 :: .ref 131 :: .ref 132 :: .ref 133 :: .ref 134 :: .int (zI mdm) :: .int (zI mla) :: []))), (110, .inl (0, 8820, .inl (zA f10))), (111, .inl (0, 1260, .inl (zA f11))), (117, .inl (0, 7, .inl (zA f12))), (112, .inl (0, 27720, .inl (zA f14))), (113, .inl (0, 27720, .inl (zA f15))), (114, .inl (0, 1260, .inl (zA f16))), (115, .inl (0, 27720, .inl (zA f17))), (116, .inl (0, 1260, .inl (zA f18))), (109, .inl (0, 8, .inl (zA f19))), (130, .inl (2, 1260, .inl (zA f28)))]) (ks := [118, 119, 120, 131, 98, 110, 111, 117, 112, 113, 114, 115, 116, 109, 130, 131, 118, 119, 120, 98, 110, 111, 117, 112, 113, 114, 115, 116, 109, 130]) [true, true, true, true, true, true, true, true, true, true, true, true, true, true, true, false, false, false, false, false, false, false, false, false, false, false, false, false, false, false] rfl (by decide +kernel) rfl ?_
                              refine J_drop (ls2 := [some (.ref 98), some (.int (zI x)), some (.int (zI best_26)), some (.int (zI few_26)), some (.int (zI h_26)), some (.int (zI most_74)), some (.int (zI (y_74 + 1))), none]) [true, true, true, true, true, true, true, false] rfl ?_
                              exact ih74 most_74 (y_74 + 1) f69 (v_da458fa48a i74_0) (v_e390a36114 h59) i74_2 i74_3 (Rg.ups (Rg.mono i74_4 (Int.le_refl _) (Int.le_refl _) (by omega)) ef69 (v_cd93c65d7d h68.1) (v_444fd2bc2e h68.2)) (meas_lt v_90eacd6fd4 (v_8b7dd7d486 h59) hm74)
                            · refine J_aload_n dX12_ask_146 rfl rfl ?_
                              refine J_get (v := .ref 131) dX12_ask_147 fl_X12_126 rfl rfl ?_
                              refine J_iload dX12_ask_150 rfl ?_
                              refine Y_iald (z := z71) 1261 dX12_ask_152 rfl rfl (by decide) (v_a708073960 h65.1 h66) (v_54d95fd56a h34 h65.2) ez71 ?_
                              refine J_goto (tgt := 158) dX12_ask_153 (by decide) ?_
                              refine J_istore dX12_ask_158 (Nat.le_of_ble_eq_true rfl) rfl ?_
                              refine J_ls (ls2 := [some (.ref 98), some (.int (zI x)), some (.int (zI best_26)), some (.int (zI few_26)), some (.int (zI h_26)), some (.int (zI z71)), some (.int (zI y_74)), some (.int (zI z64))]) rfl ?_
                              refine Z_iinc (c := y_74 + 1) (ls2 := [some (.ref 98), some (.int (zI x)), some (.int (zI best_26)), some (.int (zI few_26)), some (.int (zI h_26)), some (.int (zI z71)), some (.int (zI (y_74 + 1))), some (.int (zI z64))]) dX12_ask_160 rfl (Nat.le_of_ble_eq_true rfl) rfl rfl rfl ?_
                              refine J_goto (tgt := 74) dX12_ask_163 (by decide) ?_
                              refine J_mask (L2 := [(131, .inl (0, 1261, .inl (zA f69))), (118, .inl (0, 1260, .inl (zA f50))), (119, .inl (1, 1260, .inr (.inl (zAL f51)))), (120, .inl (0, 1260, .inl (zA f52))), (98, .inr (12, (.int (zI ms) :: .int (zI mv) :: .ref 99 :: .ref 100 :: .ref 101 :: .ref 102 :: .ref 103 :: .ref 104 :: .ref 105 :: .int (zI mt) :: .int (zI mfa) :: .ref 106 :: .ref 107 :: .ref 108 :: .int (zI mtn) :: .int (zI mtk) :: .int (zI mlv) :: .int (zI mbd) :: .int (zI z20) :: .int (zI z21) :: .int (zI z22) :: .ref 109 :: .int (zI z23) :: .int (zI z24) :: .ref 110 :: .ref 111 :: .ref 112 :: .ref 113 :: .ref 114 :: .ref 115 :: .ref 116 :: .ref 117 :: .int (zI z7) :: .int (zI z8) :: .int (zI z9) :: .int (zI z13) :: .ref 118 :: .ref 119 :: .ref 120 :: .ref 121 :: .ref 122 :: .ref 123 :: .ref 124 :: .ref 125 :: .ref 126 :: .ref 127 :: .ref 128 :: .ref 129 :: .int (zI mfu) :: .ref 130 :: .ref 131 :: .ref 132 :: .ref 133 :: .ref 134 :: .int (zI mdm) :: .int (zI mla) :: []))), (110, .inl (0, 8820, .inl (zA f10))), (111, .inl (0, 1260, .inl (zA f11))), (117, .inl (0, 7, .inl (zA f12))), (112, .inl (0, 27720, .inl (zA f14))), (113, .inl (0, 27720, .inl (zA f15))), (114, .inl (0, 1260, .inl (zA f16))), (115, .inl (0, 27720, .inl (zA f17))), (116, .inl (0, 1260, .inl (zA f18))), (109, .inl (0, 8, .inl (zA f19))), (130, .inl (2, 1260, .inl (zA f28)))]) (ks := [131, 118, 119, 120, 131, 98, 110, 111, 117, 112, 113, 114, 115, 116, 109, 130]) [true, true, true, true, false, true, true, true, true, true, true, true, true, true, true, true] rfl (by decide +kernel) rfl ?_
                              refine J_touch (k := 130) (e := .inl (2, 1260, .inl (zA f28))) rfl ?_
                              refine J_touch (k := 109) (e := .inl (0, 8, .inl (zA f19))) rfl ?_
                              refine J_touch (k := 116) (e := .inl (0, 1260, .inl (zA f18))) rfl ?_
                              refine J_touch (k := 115) (e := .inl (0, 27720, .inl (zA f17))) rfl ?_
                              refine J_touch (k := 114) (e := .inl (0, 1260, .inl (zA f16))) rfl ?_
                              refine J_touch (k := 113) (e := .inl (0, 27720, .inl (zA f15))) rfl ?_
                              refine J_touch (k := 112) (e := .inl (0, 27720, .inl (zA f14))) rfl ?_
                              refine J_touch (k := 117) (e := .inl (0, 7, .inl (zA f12))) rfl ?_
                              refine J_touch (k := 111) (e := .inl (0, 1260, .inl (zA f11))) rfl ?_
                              refine J_touch (k := 110) (e := .inl (0, 8820, .inl (zA f10))) rfl ?_
                              refine J_touch (k := 98) (e := .inr (12, (.int (zI ms) :: .int (zI mv) :: .ref 99 :: .ref 100 :: .ref 101 :: .ref 102 :: .ref 103 :: .ref 104 :: .ref 105 :: .int (zI mt) :: .int (zI mfa) :: .ref 106 :: .ref 107 :: .ref 108 :: .int (zI mtn) :: .int (zI mtk) :: .int (zI mlv) :: .int (zI mbd) :: .int (zI z20) :: .int (zI z21) :: .int (zI z22) :: .ref 109 :: .int (zI z23) :: .int (zI z24) :: .ref 110 :: .ref 111 :: .ref 112 :: .ref 113 :: .ref 114 :: .ref 115 :: .ref 116 :: .ref 117 :: .int (zI z7) :: .int (zI z8) :: .int (zI z9) :: .int (zI z13) :: .ref 118 :: .ref 119 :: .ref 120 :: .ref 121 :: .ref 122 :: .ref 123 :: .ref 124 :: .ref 125 :: .ref 126 :: .ref 127 :: .ref 128 :: .ref 129 :: .int (zI mfu) :: .ref 130 :: .ref 131 :: .ref 132 :: .ref 133 :: .ref 134 :: .int (zI mdm) :: .int (zI mla) :: []))) rfl ?_
                              refine J_touch (k := 131) (e := .inl (0, 1261, .inl (zA f69))) rfl ?_
                              refine J_touch (k := 120) (e := .inl (0, 1260, .inl (zA f52))) rfl ?_
                              refine J_touch (k := 119) (e := .inl (1, 1260, .inr (.inl (zAL f51)))) rfl ?_
                              refine J_touch (k := 118) (e := .inl (0, 1260, .inl (zA f50))) rfl ?_
                              refine J_mask (L2 := [(118, .inl (0, 1260, .inl (zA f50))), (119, .inl (1, 1260, .inr (.inl (zAL f51)))), (120, .inl (0, 1260, .inl (zA f52))), (131, .inl (0, 1261, .inl (zA f69))), (98, .inr (12, (.int (zI ms) :: .int (zI mv) :: .ref 99 :: .ref 100 :: .ref 101 :: .ref 102 :: .ref 103 :: .ref 104 :: .ref 105 :: .int (zI mt) :: .int (zI mfa) :: .ref 106 :: .ref 107 :: .ref 108 :: .int (zI mtn) :: .int (zI mtk) :: .int (zI mlv) :: .int (zI mbd) :: .int (zI z20) :: .int (zI z21) :: .int (zI z22) :: .ref 109 :: .int (zI z23) :: .int (zI z24) :: .ref 110 :: .ref 111 :: .ref 112 :: .ref 113 :: .ref 114 :: .ref 115 :: .ref 116 :: .ref 117 :: .int (zI z7) :: .int (zI z8) :: .int (zI z9) :: .int (zI z13) :: .ref 118 :: .ref 119 :: .ref 120 :: .ref 121 :: .ref 122 :: .ref 123 :: .ref 124 :: .ref 125 :: .ref 126 :: .ref 127 :: .ref 128 :: .ref 129 :: .int (zI mfu) :: .ref 130 :: .ref 131 :: .ref 132 :: .ref 133 :: .ref 134 :: .int (zI mdm) :: .int (zI mla) :: []))), (110, .inl (0, 8820, .inl (zA f10))), (111, .inl (0, 1260, .inl (zA f11))), (117, .inl (0, 7, .inl (zA f12))), (112, .inl (0, 27720, .inl (zA f14))), (113, .inl (0, 27720, .inl (zA f15))), (114, .inl (0, 1260, .inl (zA f16))), (115, .inl (0, 27720, .inl (zA f17))), (116, .inl (0, 1260, .inl (zA f18))), (109, .inl (0, 8, .inl (zA f19))), (130, .inl (2, 1260, .inl (zA f28)))]) (ks := [118, 119, 120, 131, 98, 110, 111, 117, 112, 113, 114, 115, 116, 109, 130, 131, 118, 119, 120, 98, 110, 111, 117, 112, 113, 114, 115, 116, 109, 130]) [true, true, true, true, true, true, true, true, true, true, true, true, true, true, true, false, false, false, false, false, false, false, false, false, false, false, false, false, false, false] rfl (by decide +kernel) rfl ?_
                              refine J_drop (ls2 := [some (.ref 98), some (.int (zI x)), some (.int (zI best_26)), some (.int (zI few_26)), some (.int (zI h_26)), some (.int (zI z71)), some (.int (zI (y_74 + 1))), none]) [true, true, true, true, true, true, true, false] rfl ?_
                              exact ih74 z71 (y_74 + 1) f69 (v_da458fa48a i74_0) (v_e390a36114 h59) (v_d39967efb8 i74_2 h73) (v_707779d02c h34 h59 h68.2 h72) (Rg.ups (Rg.mono i74_4 (Int.le_refl _) (Int.le_refl _) (by omega)) ef69 (v_cd93c65d7d h68.1) (v_444fd2bc2e h68.2)) (meas_lt v_90eacd6fd4 (v_8b7dd7d486 h59) hm74)
                          · refine J_aload_n dX12_ask_107 rfl rfl ?_
                            refine J_get (v := .int (zI z7)) dX12_ask_108 fl_X12_298 rfl rfl ?_
                            refine J_goto (tgt := 121) dX12_ask_111 (by decide) ?_
                            refine J_istore dX12_ask_121 (Nat.le_of_ble_eq_true rfl) rfl ?_
                            refine J_ls (ls2 := [some (.ref 98), some (.int (zI x)), some (.int (zI best_26)), some (.int (zI few_26)), some (.int (zI h_26)), some (.int (zI most_74)), some (.int (zI y_74)), some (.int (zI z7))]) rfl ?_
                            refine J_aload_n dX12_ask_123 rfl rfl ?_
                            refine J_get (v := .ref 131) dX12_ask_124 fl_X12_126 rfl rfl ?_
                            refine J_iload dX12_ask_127 rfl ?_
                            refine J_dup2_11 dX12_ask_129 rfl rfl ?_
                            obtain ⟨z74, ez74⟩ : ∃ z : Int, a_74 z7 = z := ⟨_, rfl⟩
                            have h75 := Rg.at i74_4 (v_632d2dbe78 h33) v_0868b9b4fe ez74
                            refine Y_iald (z := z74) 1261 dX12_ask_130 rfl rfl (by decide) (v_632d2dbe78 h33) (v_21d55ca7e4 h34) ez74 ?_
                            refine Z_iconst (n := 1) dX12_ask_131 ?_
                            refine Z_iadd (c := z74 + 1) dX12_ask_132 rfl ?_
                            refine Y_iast (v := z74 + 1) 1261 dX12_ask_133 rfl rfl (by decide) (v_632d2dbe78 h33) (v_21d55ca7e4 h34) (fun f76 ef76 => ?_)
                            refine J_aload_n dX12_ask_134 rfl rfl ?_
                            refine J_get (v := .ref 131) dX12_ask_135 fl_X12_126 rfl rfl ?_
                            refine J_iload dX12_ask_138 rfl ?_
                            obtain ⟨z78, ez78⟩ : ∃ z : Int, f76 z7 = z := ⟨_, rfl⟩
                            have h79 : z78 = z74 + 1 := rd_same ef76 v_a0572702c4 ez78
                            refine Y_iald (z := z78) 1261 dX12_ask_140 rfl rfl (by decide) (v_632d2dbe78 h33) (v_21d55ca7e4 h34) ez78 ?_
                            refine J_iload dX12_ask_141 rfl ?_
                            refine Z_icmp_le (tgt := 156) dX12_ask_143 (by decide) (v_ee7ed464af h34 h59 h75.1 h75.2 h79) (v_d5bb4ec110 i74_2 i74_3) (fun h80 => ?_) (fun h80 => ?_)
                            · refine J_iload dX12_ask_156 rfl ?_
                              refine J_istore dX12_ask_158 (Nat.le_of_ble_eq_true rfl) rfl ?_
                              refine J_ls (ls2 := [some (.ref 98), some (.int (zI x)), some (.int (zI best_26)), some (.int (zI few_26)), some (.int (zI h_26)), some (.int (zI most_74)), some (.int (zI y_74)), some (.int (zI z7))]) rfl ?_
                              refine Z_iinc (c := y_74 + 1) (ls2 := [some (.ref 98), some (.int (zI x)), some (.int (zI best_26)), some (.int (zI few_26)), some (.int (zI h_26)), some (.int (zI most_74)), some (.int (zI (y_74 + 1))), some (.int (zI z7))]) dX12_ask_160 rfl (Nat.le_of_ble_eq_true rfl) rfl rfl rfl ?_
                              refine J_goto (tgt := 74) dX12_ask_163 (by decide) ?_
                              refine J_mask (L2 := [(131, .inl (0, 1261, .inl (zA f76))), (118, .inl (0, 1260, .inl (zA f50))), (119, .inl (1, 1260, .inr (.inl (zAL f51)))), (120, .inl (0, 1260, .inl (zA f52))), (98, .inr (12, (.int (zI ms) :: .int (zI mv) :: .ref 99 :: .ref 100 :: .ref 101 :: .ref 102 :: .ref 103 :: .ref 104 :: .ref 105 :: .int (zI mt) :: .int (zI mfa) :: .ref 106 :: .ref 107 :: .ref 108 :: .int (zI mtn) :: .int (zI mtk) :: .int (zI mlv) :: .int (zI mbd) :: .int (zI z20) :: .int (zI z21) :: .int (zI z22) :: .ref 109 :: .int (zI z23) :: .int (zI z24) :: .ref 110 :: .ref 111 :: .ref 112 :: .ref 113 :: .ref 114 :: .ref 115 :: .ref 116 :: .ref 117 :: .int (zI z7) :: .int (zI z8) :: .int (zI z9) :: .int (zI z13) :: .ref 118 :: .ref 119 :: .ref 120 :: .ref 121 :: .ref 122 :: .ref 123 :: .ref 124 :: .ref 125 :: .ref 126 :: .ref 127 :: .ref 128 :: .ref 129 :: .int (zI mfu) :: .ref 130 :: .ref 131 :: .ref 132 :: .ref 133 :: .ref 134 :: .int (zI mdm) :: .int (zI mla) :: []))), (110, .inl (0, 8820, .inl (zA f10))), (111, .inl (0, 1260, .inl (zA f11))), (117, .inl (0, 7, .inl (zA f12))), (112, .inl (0, 27720, .inl (zA f14))), (113, .inl (0, 27720, .inl (zA f15))), (114, .inl (0, 1260, .inl (zA f16))), (115, .inl (0, 27720, .inl (zA f17))), (116, .inl (0, 1260, .inl (zA f18))), (109, .inl (0, 8, .inl (zA f19))), (130, .inl (2, 1260, .inl (zA f28)))]) (ks := [131, 118, 119, 120, 131, 98, 110, 111, 117, 112, 113, 114, 115, 116, 109, 130]) [true, true, true, true, false, true, true, true, true, true, true, true, true, true, true, true] rfl (by decide +kernel) rfl ?_
                              refine J_touch (k := 130) (e := .inl (2, 1260, .inl (zA f28))) rfl ?_
                              refine J_touch (k := 109) (e := .inl (0, 8, .inl (zA f19))) rfl ?_
                              refine J_touch (k := 116) (e := .inl (0, 1260, .inl (zA f18))) rfl ?_
                              refine J_touch (k := 115) (e := .inl (0, 27720, .inl (zA f17))) rfl ?_
                              refine J_touch (k := 114) (e := .inl (0, 1260, .inl (zA f16))) rfl ?_
                              refine J_touch (k := 113) (e := .inl (0, 27720, .inl (zA f15))) rfl ?_
                              refine J_touch (k := 112) (e := .inl (0, 27720, .inl (zA f14))) rfl ?_
                              refine J_touch (k := 117) (e := .inl (0, 7, .inl (zA f12))) rfl ?_
                              refine J_touch (k := 111) (e := .inl (0, 1260, .inl (zA f11))) rfl ?_
                              refine J_touch (k := 110) (e := .inl (0, 8820, .inl (zA f10))) rfl ?_
                              refine J_touch (k := 98) (e := .inr (12, (.int (zI ms) :: .int (zI mv) :: .ref 99 :: .ref 100 :: .ref 101 :: .ref 102 :: .ref 103 :: .ref 104 :: .ref 105 :: .int (zI mt) :: .int (zI mfa) :: .ref 106 :: .ref 107 :: .ref 108 :: .int (zI mtn) :: .int (zI mtk) :: .int (zI mlv) :: .int (zI mbd) :: .int (zI z20) :: .int (zI z21) :: .int (zI z22) :: .ref 109 :: .int (zI z23) :: .int (zI z24) :: .ref 110 :: .ref 111 :: .ref 112 :: .ref 113 :: .ref 114 :: .ref 115 :: .ref 116 :: .ref 117 :: .int (zI z7) :: .int (zI z8) :: .int (zI z9) :: .int (zI z13) :: .ref 118 :: .ref 119 :: .ref 120 :: .ref 121 :: .ref 122 :: .ref 123 :: .ref 124 :: .ref 125 :: .ref 126 :: .ref 127 :: .ref 128 :: .ref 129 :: .int (zI mfu) :: .ref 130 :: .ref 131 :: .ref 132 :: .ref 133 :: .ref 134 :: .int (zI mdm) :: .int (zI mla) :: []))) rfl ?_
                              refine J_touch (k := 131) (e := .inl (0, 1261, .inl (zA f76))) rfl ?_
                              refine J_touch (k := 120) (e := .inl (0, 1260, .inl (zA f52))) rfl ?_
                              refine J_touch (k := 119) (e := .inl (1, 1260, .inr (.inl (zAL f51)))) rfl ?_
                              refine J_touch (k := 118) (e := .inl (0, 1260, .inl (zA f50))) rfl ?_
                              refine J_mask (L2 := [(118, .inl (0, 1260, .inl (zA f50))), (119, .inl (1, 1260, .inr (.inl (zAL f51)))), (120, .inl (0, 1260, .inl (zA f52))), (131, .inl (0, 1261, .inl (zA f76))), (98, .inr (12, (.int (zI ms) :: .int (zI mv) :: .ref 99 :: .ref 100 :: .ref 101 :: .ref 102 :: .ref 103 :: .ref 104 :: .ref 105 :: .int (zI mt) :: .int (zI mfa) :: .ref 106 :: .ref 107 :: .ref 108 :: .int (zI mtn) :: .int (zI mtk) :: .int (zI mlv) :: .int (zI mbd) :: .int (zI z20) :: .int (zI z21) :: .int (zI z22) :: .ref 109 :: .int (zI z23) :: .int (zI z24) :: .ref 110 :: .ref 111 :: .ref 112 :: .ref 113 :: .ref 114 :: .ref 115 :: .ref 116 :: .ref 117 :: .int (zI z7) :: .int (zI z8) :: .int (zI z9) :: .int (zI z13) :: .ref 118 :: .ref 119 :: .ref 120 :: .ref 121 :: .ref 122 :: .ref 123 :: .ref 124 :: .ref 125 :: .ref 126 :: .ref 127 :: .ref 128 :: .ref 129 :: .int (zI mfu) :: .ref 130 :: .ref 131 :: .ref 132 :: .ref 133 :: .ref 134 :: .int (zI mdm) :: .int (zI mla) :: []))), (110, .inl (0, 8820, .inl (zA f10))), (111, .inl (0, 1260, .inl (zA f11))), (117, .inl (0, 7, .inl (zA f12))), (112, .inl (0, 27720, .inl (zA f14))), (113, .inl (0, 27720, .inl (zA f15))), (114, .inl (0, 1260, .inl (zA f16))), (115, .inl (0, 27720, .inl (zA f17))), (116, .inl (0, 1260, .inl (zA f18))), (109, .inl (0, 8, .inl (zA f19))), (130, .inl (2, 1260, .inl (zA f28)))]) (ks := [118, 119, 120, 131, 98, 110, 111, 117, 112, 113, 114, 115, 116, 109, 130, 131, 118, 119, 120, 98, 110, 111, 117, 112, 113, 114, 115, 116, 109, 130]) [true, true, true, true, true, true, true, true, true, true, true, true, true, true, true, false, false, false, false, false, false, false, false, false, false, false, false, false, false, false] rfl (by decide +kernel) rfl ?_
                              refine J_drop (ls2 := [some (.ref 98), some (.int (zI x)), some (.int (zI best_26)), some (.int (zI few_26)), some (.int (zI h_26)), some (.int (zI most_74)), some (.int (zI (y_74 + 1))), none]) [true, true, true, true, true, true, true, false] rfl ?_
                              exact ih74 most_74 (y_74 + 1) f76 (v_da458fa48a i74_0) (v_e390a36114 h59) i74_2 i74_3 (Rg.ups (Rg.mono i74_4 (Int.le_refl _) (Int.le_refl _) (by omega)) ef76 (v_cd93c65d7d h75.1) (v_444fd2bc2e h75.2)) (meas_lt v_90eacd6fd4 (v_8b7dd7d486 h59) hm74)
                            · refine J_aload_n dX12_ask_146 rfl rfl ?_
                              refine J_get (v := .ref 131) dX12_ask_147 fl_X12_126 rfl rfl ?_
                              refine J_iload dX12_ask_150 rfl ?_
                              refine Y_iald (z := z78) 1261 dX12_ask_152 rfl rfl (by decide) (v_632d2dbe78 h33) (v_21d55ca7e4 h34) ez78 ?_
                              refine J_goto (tgt := 158) dX12_ask_153 (by decide) ?_
                              refine J_istore dX12_ask_158 (Nat.le_of_ble_eq_true rfl) rfl ?_
                              refine J_ls (ls2 := [some (.ref 98), some (.int (zI x)), some (.int (zI best_26)), some (.int (zI few_26)), some (.int (zI h_26)), some (.int (zI z78)), some (.int (zI y_74)), some (.int (zI z7))]) rfl ?_
                              refine Z_iinc (c := y_74 + 1) (ls2 := [some (.ref 98), some (.int (zI x)), some (.int (zI best_26)), some (.int (zI few_26)), some (.int (zI h_26)), some (.int (zI z78)), some (.int (zI (y_74 + 1))), some (.int (zI z7))]) dX12_ask_160 rfl (Nat.le_of_ble_eq_true rfl) rfl rfl rfl ?_
                              refine J_goto (tgt := 74) dX12_ask_163 (by decide) ?_
                              refine J_mask (L2 := [(131, .inl (0, 1261, .inl (zA f76))), (118, .inl (0, 1260, .inl (zA f50))), (119, .inl (1, 1260, .inr (.inl (zAL f51)))), (120, .inl (0, 1260, .inl (zA f52))), (98, .inr (12, (.int (zI ms) :: .int (zI mv) :: .ref 99 :: .ref 100 :: .ref 101 :: .ref 102 :: .ref 103 :: .ref 104 :: .ref 105 :: .int (zI mt) :: .int (zI mfa) :: .ref 106 :: .ref 107 :: .ref 108 :: .int (zI mtn) :: .int (zI mtk) :: .int (zI mlv) :: .int (zI mbd) :: .int (zI z20) :: .int (zI z21) :: .int (zI z22) :: .ref 109 :: .int (zI z23) :: .int (zI z24) :: .ref 110 :: .ref 111 :: .ref 112 :: .ref 113 :: .ref 114 :: .ref 115 :: .ref 116 :: .ref 117 :: .int (zI z7) :: .int (zI z8) :: .int (zI z9) :: .int (zI z13) :: .ref 118 :: .ref 119 :: .ref 120 :: .ref 121 :: .ref 122 :: .ref 123 :: .ref 124 :: .ref 125 :: .ref 126 :: .ref 127 :: .ref 128 :: .ref 129 :: .int (zI mfu) :: .ref 130 :: .ref 131 :: .ref 132 :: .ref 133 :: .ref 134 :: .int (zI mdm) :: .int (zI mla) :: []))), (110, .inl (0, 8820, .inl (zA f10))), (111, .inl (0, 1260, .inl (zA f11))), (117, .inl (0, 7, .inl (zA f12))), (112, .inl (0, 27720, .inl (zA f14))), (113, .inl (0, 27720, .inl (zA f15))), (114, .inl (0, 1260, .inl (zA f16))), (115, .inl (0, 27720, .inl (zA f17))), (116, .inl (0, 1260, .inl (zA f18))), (109, .inl (0, 8, .inl (zA f19))), (130, .inl (2, 1260, .inl (zA f28)))]) (ks := [131, 118, 119, 120, 131, 98, 110, 111, 117, 112, 113, 114, 115, 116, 109, 130]) [true, true, true, true, false, true, true, true, true, true, true, true, true, true, true, true] rfl (by decide +kernel) rfl ?_
                              refine J_touch (k := 130) (e := .inl (2, 1260, .inl (zA f28))) rfl ?_
                              refine J_touch (k := 109) (e := .inl (0, 8, .inl (zA f19))) rfl ?_
                              refine J_touch (k := 116) (e := .inl (0, 1260, .inl (zA f18))) rfl ?_
                              refine J_touch (k := 115) (e := .inl (0, 27720, .inl (zA f17))) rfl ?_
                              refine J_touch (k := 114) (e := .inl (0, 1260, .inl (zA f16))) rfl ?_
                              refine J_touch (k := 113) (e := .inl (0, 27720, .inl (zA f15))) rfl ?_
                              refine J_touch (k := 112) (e := .inl (0, 27720, .inl (zA f14))) rfl ?_
                              refine J_touch (k := 117) (e := .inl (0, 7, .inl (zA f12))) rfl ?_
                              refine J_touch (k := 111) (e := .inl (0, 1260, .inl (zA f11))) rfl ?_
                              refine J_touch (k := 110) (e := .inl (0, 8820, .inl (zA f10))) rfl ?_
                              refine J_touch (k := 98) (e := .inr (12, (.int (zI ms) :: .int (zI mv) :: .ref 99 :: .ref 100 :: .ref 101 :: .ref 102 :: .ref 103 :: .ref 104 :: .ref 105 :: .int (zI mt) :: .int (zI mfa) :: .ref 106 :: .ref 107 :: .ref 108 :: .int (zI mtn) :: .int (zI mtk) :: .int (zI mlv) :: .int (zI mbd) :: .int (zI z20) :: .int (zI z21) :: .int (zI z22) :: .ref 109 :: .int (zI z23) :: .int (zI z24) :: .ref 110 :: .ref 111 :: .ref 112 :: .ref 113 :: .ref 114 :: .ref 115 :: .ref 116 :: .ref 117 :: .int (zI z7) :: .int (zI z8) :: .int (zI z9) :: .int (zI z13) :: .ref 118 :: .ref 119 :: .ref 120 :: .ref 121 :: .ref 122 :: .ref 123 :: .ref 124 :: .ref 125 :: .ref 126 :: .ref 127 :: .ref 128 :: .ref 129 :: .int (zI mfu) :: .ref 130 :: .ref 131 :: .ref 132 :: .ref 133 :: .ref 134 :: .int (zI mdm) :: .int (zI mla) :: []))) rfl ?_
                              refine J_touch (k := 131) (e := .inl (0, 1261, .inl (zA f76))) rfl ?_
                              refine J_touch (k := 120) (e := .inl (0, 1260, .inl (zA f52))) rfl ?_
                              refine J_touch (k := 119) (e := .inl (1, 1260, .inr (.inl (zAL f51)))) rfl ?_
                              refine J_touch (k := 118) (e := .inl (0, 1260, .inl (zA f50))) rfl ?_
                              refine J_mask (L2 := [(118, .inl (0, 1260, .inl (zA f50))), (119, .inl (1, 1260, .inr (.inl (zAL f51)))), (120, .inl (0, 1260, .inl (zA f52))), (131, .inl (0, 1261, .inl (zA f76))), (98, .inr (12, (.int (zI ms) :: .int (zI mv) :: .ref 99 :: .ref 100 :: .ref 101 :: .ref 102 :: .ref 103 :: .ref 104 :: .ref 105 :: .int (zI mt) :: .int (zI mfa) :: .ref 106 :: .ref 107 :: .ref 108 :: .int (zI mtn) :: .int (zI mtk) :: .int (zI mlv) :: .int (zI mbd) :: .int (zI z20) :: .int (zI z21) :: .int (zI z22) :: .ref 109 :: .int (zI z23) :: .int (zI z24) :: .ref 110 :: .ref 111 :: .ref 112 :: .ref 113 :: .ref 114 :: .ref 115 :: .ref 116 :: .ref 117 :: .int (zI z7) :: .int (zI z8) :: .int (zI z9) :: .int (zI z13) :: .ref 118 :: .ref 119 :: .ref 120 :: .ref 121 :: .ref 122 :: .ref 123 :: .ref 124 :: .ref 125 :: .ref 126 :: .ref 127 :: .ref 128 :: .ref 129 :: .int (zI mfu) :: .ref 130 :: .ref 131 :: .ref 132 :: .ref 133 :: .ref 134 :: .int (zI mdm) :: .int (zI mla) :: []))), (110, .inl (0, 8820, .inl (zA f10))), (111, .inl (0, 1260, .inl (zA f11))), (117, .inl (0, 7, .inl (zA f12))), (112, .inl (0, 27720, .inl (zA f14))), (113, .inl (0, 27720, .inl (zA f15))), (114, .inl (0, 1260, .inl (zA f16))), (115, .inl (0, 27720, .inl (zA f17))), (116, .inl (0, 1260, .inl (zA f18))), (109, .inl (0, 8, .inl (zA f19))), (130, .inl (2, 1260, .inl (zA f28)))]) (ks := [118, 119, 120, 131, 98, 110, 111, 117, 112, 113, 114, 115, 116, 109, 130, 131, 118, 119, 120, 98, 110, 111, 117, 112, 113, 114, 115, 116, 109, 130]) [true, true, true, true, true, true, true, true, true, true, true, true, true, true, true, false, false, false, false, false, false, false, false, false, false, false, false, false, false, false] rfl (by decide +kernel) rfl ?_
                              refine J_drop (ls2 := [some (.ref 98), some (.int (zI x)), some (.int (zI best_26)), some (.int (zI few_26)), some (.int (zI h_26)), some (.int (zI z78)), some (.int (zI (y_74 + 1))), none]) [true, true, true, true, true, true, true, false] rfl ?_
                              exact ih74 z78 (y_74 + 1) f76 (v_da458fa48a i74_0) (v_e390a36114 h59) (v_d39967efb8 i74_2 h80) (v_707779d02c h34 h59 h75.2 h79) (Rg.ups (Rg.mono i74_4 (Int.le_refl _) (Int.le_refl _) (by omega)) ef76 (v_cd93c65d7d h75.1) (v_444fd2bc2e h75.2)) (meas_lt v_90eacd6fd4 (v_8b7dd7d486 h59) hm74)
                        · refine J_goto (tgt := 160) dX12_ask_93 (by decide) ?_
                          refine Z_iinc (c := y_74 + 1) (ls2 := [some (.ref 98), some (.int (zI x)), some (.int (zI best_26)), some (.int (zI few_26)), some (.int (zI h_26)), some (.int (zI most_74)), some (.int (zI (y_74 + 1))), none]) dX12_ask_160 rfl (Nat.le_of_ble_eq_true rfl) rfl rfl rfl ?_
                          refine J_goto (tgt := 74) dX12_ask_163 (by decide) ?_
                          exact ih74 most_74 (y_74 + 1) a_74 (v_da458fa48a i74_0) (v_e390a36114 h59) i74_2 i74_3 ((Rg.mono i74_4 (Int.le_refl _) (Int.le_refl _) (by omega))) (meas_lt v_90eacd6fd4 (v_8b7dd7d486 h59) hm74)
                  exact lp74 _ 0 0 a_45 v_939070ca3f (v_632d2dbe78 h33) v_939070ca3f v_b13e5cccd9 (Rg.mono i45_2 (v_309e9c99a4 h58) v_939070ca3f v_939070ca3f) (Nat.lt_succ_self _)
                · refine J_aload_n dX12_ask_54 rfl rfl ?_
                  refine J_get (v := .ref 131) dX12_ask_55 fl_X12_126 rfl rfl ?_
                  refine J_iload dX12_ask_58 rfl ?_
                  refine Z_iconst (n := 0) dX12_ask_60 ?_
                  refine Y_iast (v := 0) 1261 dX12_ask_61 rfl rfl (by decide) (v_2b02420001 i45_0) (v_808824a99f h34 h58) (fun f81 ef81 => ?_)
                  have h82 : Rg f81 (k_45 + 1) 0 0 := Rg.push i45_2 ef81 v_a0572702c4 v_e828b09c4d v_939070ca3f v_939070ca3f
                  refine Z_iinc (c := k_45 + 1) (ls2 := [some (.ref 98), some (.int (zI x)), some (.int (zI best_26)), some (.int (zI few_26)), some (.int (zI h_26)), some (.int (zI (k_45 + 1))), none, none]) dX12_ask_62 rfl (Nat.le_of_ble_eq_true rfl) rfl rfl rfl ?_
                  refine J_goto (tgt := 45) dX12_ask_65 (by decide) ?_
                  refine J_mask (L2 := [(131, .inl (0, 1261, .inl (zA f81))), (118, .inl (0, 1260, .inl (zA f50))), (119, .inl (1, 1260, .inr (.inl (zAL f51)))), (120, .inl (0, 1260, .inl (zA f52))), (98, .inr (12, (.int (zI ms) :: .int (zI mv) :: .ref 99 :: .ref 100 :: .ref 101 :: .ref 102 :: .ref 103 :: .ref 104 :: .ref 105 :: .int (zI mt) :: .int (zI mfa) :: .ref 106 :: .ref 107 :: .ref 108 :: .int (zI mtn) :: .int (zI mtk) :: .int (zI mlv) :: .int (zI mbd) :: .int (zI z20) :: .int (zI z21) :: .int (zI z22) :: .ref 109 :: .int (zI z23) :: .int (zI z24) :: .ref 110 :: .ref 111 :: .ref 112 :: .ref 113 :: .ref 114 :: .ref 115 :: .ref 116 :: .ref 117 :: .int (zI z7) :: .int (zI z8) :: .int (zI z9) :: .int (zI z13) :: .ref 118 :: .ref 119 :: .ref 120 :: .ref 121 :: .ref 122 :: .ref 123 :: .ref 124 :: .ref 125 :: .ref 126 :: .ref 127 :: .ref 128 :: .ref 129 :: .int (zI mfu) :: .ref 130 :: .ref 131 :: .ref 132 :: .ref 133 :: .ref 134 :: .int (zI mdm) :: .int (zI mla) :: []))), (110, .inl (0, 8820, .inl (zA f10))), (111, .inl (0, 1260, .inl (zA f11))), (117, .inl (0, 7, .inl (zA f12))), (112, .inl (0, 27720, .inl (zA f14))), (113, .inl (0, 27720, .inl (zA f15))), (114, .inl (0, 1260, .inl (zA f16))), (115, .inl (0, 27720, .inl (zA f17))), (116, .inl (0, 1260, .inl (zA f18))), (109, .inl (0, 8, .inl (zA f19))), (130, .inl (2, 1260, .inl (zA f28)))]) (ks := [131, 118, 119, 120, 131, 98, 110, 111, 117, 112, 113, 114, 115, 116, 109, 130]) [true, true, true, true, false, true, true, true, true, true, true, true, true, true, true, true] rfl (by decide +kernel) rfl ?_
                  refine J_touch (k := 130) (e := .inl (2, 1260, .inl (zA f28))) rfl ?_
                  refine J_touch (k := 109) (e := .inl (0, 8, .inl (zA f19))) rfl ?_
                  refine J_touch (k := 116) (e := .inl (0, 1260, .inl (zA f18))) rfl ?_
                  refine J_touch (k := 115) (e := .inl (0, 27720, .inl (zA f17))) rfl ?_
                  refine J_touch (k := 114) (e := .inl (0, 1260, .inl (zA f16))) rfl ?_
                  refine J_touch (k := 113) (e := .inl (0, 27720, .inl (zA f15))) rfl ?_
                  refine J_touch (k := 112) (e := .inl (0, 27720, .inl (zA f14))) rfl ?_
                  refine J_touch (k := 117) (e := .inl (0, 7, .inl (zA f12))) rfl ?_
                  refine J_touch (k := 111) (e := .inl (0, 1260, .inl (zA f11))) rfl ?_
                  refine J_touch (k := 110) (e := .inl (0, 8820, .inl (zA f10))) rfl ?_
                  refine J_touch (k := 98) (e := .inr (12, (.int (zI ms) :: .int (zI mv) :: .ref 99 :: .ref 100 :: .ref 101 :: .ref 102 :: .ref 103 :: .ref 104 :: .ref 105 :: .int (zI mt) :: .int (zI mfa) :: .ref 106 :: .ref 107 :: .ref 108 :: .int (zI mtn) :: .int (zI mtk) :: .int (zI mlv) :: .int (zI mbd) :: .int (zI z20) :: .int (zI z21) :: .int (zI z22) :: .ref 109 :: .int (zI z23) :: .int (zI z24) :: .ref 110 :: .ref 111 :: .ref 112 :: .ref 113 :: .ref 114 :: .ref 115 :: .ref 116 :: .ref 117 :: .int (zI z7) :: .int (zI z8) :: .int (zI z9) :: .int (zI z13) :: .ref 118 :: .ref 119 :: .ref 120 :: .ref 121 :: .ref 122 :: .ref 123 :: .ref 124 :: .ref 125 :: .ref 126 :: .ref 127 :: .ref 128 :: .ref 129 :: .int (zI mfu) :: .ref 130 :: .ref 131 :: .ref 132 :: .ref 133 :: .ref 134 :: .int (zI mdm) :: .int (zI mla) :: []))) rfl ?_
                  refine J_touch (k := 131) (e := .inl (0, 1261, .inl (zA f81))) rfl ?_
                  refine J_touch (k := 120) (e := .inl (0, 1260, .inl (zA f52))) rfl ?_
                  refine J_touch (k := 119) (e := .inl (1, 1260, .inr (.inl (zAL f51)))) rfl ?_
                  refine J_touch (k := 118) (e := .inl (0, 1260, .inl (zA f50))) rfl ?_
                  refine J_mask (L2 := [(118, .inl (0, 1260, .inl (zA f50))), (119, .inl (1, 1260, .inr (.inl (zAL f51)))), (120, .inl (0, 1260, .inl (zA f52))), (131, .inl (0, 1261, .inl (zA f81))), (98, .inr (12, (.int (zI ms) :: .int (zI mv) :: .ref 99 :: .ref 100 :: .ref 101 :: .ref 102 :: .ref 103 :: .ref 104 :: .ref 105 :: .int (zI mt) :: .int (zI mfa) :: .ref 106 :: .ref 107 :: .ref 108 :: .int (zI mtn) :: .int (zI mtk) :: .int (zI mlv) :: .int (zI mbd) :: .int (zI z20) :: .int (zI z21) :: .int (zI z22) :: .ref 109 :: .int (zI z23) :: .int (zI z24) :: .ref 110 :: .ref 111 :: .ref 112 :: .ref 113 :: .ref 114 :: .ref 115 :: .ref 116 :: .ref 117 :: .int (zI z7) :: .int (zI z8) :: .int (zI z9) :: .int (zI z13) :: .ref 118 :: .ref 119 :: .ref 120 :: .ref 121 :: .ref 122 :: .ref 123 :: .ref 124 :: .ref 125 :: .ref 126 :: .ref 127 :: .ref 128 :: .ref 129 :: .int (zI mfu) :: .ref 130 :: .ref 131 :: .ref 132 :: .ref 133 :: .ref 134 :: .int (zI mdm) :: .int (zI mla) :: []))), (110, .inl (0, 8820, .inl (zA f10))), (111, .inl (0, 1260, .inl (zA f11))), (117, .inl (0, 7, .inl (zA f12))), (112, .inl (0, 27720, .inl (zA f14))), (113, .inl (0, 27720, .inl (zA f15))), (114, .inl (0, 1260, .inl (zA f16))), (115, .inl (0, 27720, .inl (zA f17))), (116, .inl (0, 1260, .inl (zA f18))), (109, .inl (0, 8, .inl (zA f19))), (130, .inl (2, 1260, .inl (zA f28)))]) (ks := [118, 119, 120, 131, 98, 110, 111, 117, 112, 113, 114, 115, 116, 109, 130, 131, 118, 119, 120, 98, 110, 111, 117, 112, 113, 114, 115, 116, 109, 130]) [true, true, true, true, true, true, true, true, true, true, true, true, true, true, true, false, false, false, false, false, false, false, false, false, false, false, false, false, false, false] rfl (by decide +kernel) rfl ?_
                  exact ih45 (k_45 + 1) f81 (v_da458fa48a i45_0) (v_bde8e4f1ef h58) h82 (meas_lt v_6857a3689b (v_99c86dc316 h58) hm45)
            exact lp45 _ 0 a_26 v_939070ca3f (v_30efa75db2 h33) (Rg.nil v_939070ca3f) (Nat.lt_succ_self _)
      exact lp26 _ (-1) 1000000 0 f25 f26 f27 ak v_939070ca3f (v_632d2dbe78 h33) v_fc527b01d3 v_003e008026 (Nat.lt_succ_self _)
    · refine Z_iconst (n := -1) dX12_ask_16 ?_
      refine J_touch (k := 131) (e := .inl (0, 1261, .inl (zA ak))) hk131 ?_
      refine J_touch (k := 130) (e := .inl (2, 1260, .inl (zA f28))) rfl ?_
      refine J_touch (k := 120) (e := .inl (0, 1260, .inl (zA f27))) rfl ?_
      refine J_touch (k := 119) (e := .inl (1, 1260, .inr (.inl (zAL f26)))) rfl ?_
      refine J_touch (k := 118) (e := .inl (0, 1260, .inl (zA f25))) rfl ?_
      refine J_touch (k := 109) (e := .inl (0, 8, .inl (zA f19))) rfl ?_
      refine J_touch (k := 116) (e := .inl (0, 1260, .inl (zA f18))) rfl ?_
      refine J_touch (k := 115) (e := .inl (0, 27720, .inl (zA f17))) rfl ?_
      refine J_touch (k := 114) (e := .inl (0, 1260, .inl (zA f16))) rfl ?_
      refine J_touch (k := 113) (e := .inl (0, 27720, .inl (zA f15))) rfl ?_
      refine J_touch (k := 112) (e := .inl (0, 27720, .inl (zA f14))) rfl ?_
      refine J_touch (k := 117) (e := .inl (0, 7, .inl (zA f12))) rfl ?_
      refine J_touch (k := 111) (e := .inl (0, 1260, .inl (zA f11))) rfl ?_
      refine J_touch (k := 110) (e := .inl (0, 8820, .inl (zA f10))) rfl ?_
      refine J_touch (k := 98) (e := .inr (12, (.int (zI ms) :: .int (zI mv) :: .ref 99 :: .ref 100 :: .ref 101 :: .ref 102 :: .ref 103 :: .ref 104 :: .ref 105 :: .int (zI mt) :: .int (zI mfa) :: .ref 106 :: .ref 107 :: .ref 108 :: .int (zI mtn) :: .int (zI mtk) :: .int (zI mlv) :: .int (zI mbd) :: .int (zI z20) :: .int (zI z21) :: .int (zI z22) :: .ref 109 :: .int (zI z23) :: .int (zI z24) :: .ref 110 :: .ref 111 :: .ref 112 :: .ref 113 :: .ref 114 :: .ref 115 :: .ref 116 :: .ref 117 :: .int (zI z7) :: .int (zI z8) :: .int (zI z9) :: .int (zI z13) :: .ref 118 :: .ref 119 :: .ref 120 :: .ref 121 :: .ref 122 :: .ref 123 :: .ref 124 :: .ref 125 :: .ref 126 :: .ref 127 :: .ref 128 :: .ref 129 :: .int (zI mfu) :: .ref 130 :: .ref 131 :: .ref 132 :: .ref 133 :: .ref 134 :: .int (zI mdm) :: .int (zI mla) :: []))) rfl ?_
      refine J_mask (L2 := [(98, .inr (12, (.int (zI ms) :: .int (zI mv) :: .ref 99 :: .ref 100 :: .ref 101 :: .ref 102 :: .ref 103 :: .ref 104 :: .ref 105 :: .int (zI mt) :: .int (zI mfa) :: .ref 106 :: .ref 107 :: .ref 108 :: .int (zI mtn) :: .int (zI mtk) :: .int (zI mlv) :: .int (zI mbd) :: .int (zI z20) :: .int (zI z21) :: .int (zI z22) :: .ref 109 :: .int (zI z23) :: .int (zI z24) :: .ref 110 :: .ref 111 :: .ref 112 :: .ref 113 :: .ref 114 :: .ref 115 :: .ref 116 :: .ref 117 :: .int (zI z7) :: .int (zI z8) :: .int (zI z9) :: .int (zI z13) :: .ref 118 :: .ref 119 :: .ref 120 :: .ref 121 :: .ref 122 :: .ref 123 :: .ref 124 :: .ref 125 :: .ref 126 :: .ref 127 :: .ref 128 :: .ref 129 :: .int (zI mfu) :: .ref 130 :: .ref 131 :: .ref 132 :: .ref 133 :: .ref 134 :: .int (zI mdm) :: .int (zI mla) :: []))), (110, .inl (0, 8820, .inl (zA f10))), (111, .inl (0, 1260, .inl (zA f11))), (117, .inl (0, 7, .inl (zA f12))), (112, .inl (0, 27720, .inl (zA f14))), (113, .inl (0, 27720, .inl (zA f15))), (114, .inl (0, 1260, .inl (zA f16))), (115, .inl (0, 27720, .inl (zA f17))), (116, .inl (0, 1260, .inl (zA f18))), (109, .inl (0, 8, .inl (zA f19))), (118, .inl (0, 1260, .inl (zA f25))), (119, .inl (1, 1260, .inr (.inl (zAL f26)))), (120, .inl (0, 1260, .inl (zA f27))), (130, .inl (2, 1260, .inl (zA f28))), (131, .inl (0, 1261, .inl (zA ak)))]) (ks := [98, 110, 111, 117, 112, 113, 114, 115, 116, 109, 118, 119, 120, 130, 131, 98, 110, 111, 117, 112, 113, 114, 115, 116, 109, 118, 119, 120, 130]) [true, true, true, true, true, true, true, true, true, true, true, true, true, true, true, false, false, false, false, false, false, false, false, false, false, false, false, false, false] rfl (by decide +kernel) rfl ?_
      exact J_iret dX12_ask_17 rfl rfl (Nat.le_of_ble_eq_true rfl) (Nat.le_of_ble_eq_true rfl) ⟨(-1), z7, z8, z9, f10, f11, f12, z13, f14, f15, f16, f17, f18, f19, z20, z21, z22, z23, z24, f25, f26, f27, f28, ak, rfl, rfl, h32, (v_621074fb26 q4 h37), (fun _ => ⟨h31, h29, h30⟩), (v_621074fb26 q4 h38), (fun _ => by rw [← h29]; exact ⟨h39, h40⟩), (v_94d6d099ed h37), (v_94d6d099ed h38), h41, h42, h43, h44⟩
  · refine J_nf (nh2 := nh) (ck2 := 0) (sk2 := 0) (st2 := [.int (zI 0)]) rfl rfl rfl rfl ?_
    refine Z_if_eq (tgt := 16) dX12_ask_6 (by decide) v_b17331891f (fun h83 => ?_) (fun h83 => absurd h83 (fun q => q v_2ca2bbca1f))
    refine Z_iconst (n := -1) dX12_ask_16 ?_
    refine J_touch (k := 131) (e := .inl (0, 1261, .inl (zA ak))) hk131 ?_
    refine J_touch (k := 130) (e := .inl (2, 1260, .inl (zA fg))) hk130 ?_
    refine J_touch (k := 120) (e := .inl (0, 1260, .inl (zA li))) hk120 ?_
    refine J_touch (k := 119) (e := .inl (1, 1260, .inr (.inl (zAL fm)))) hk119 ?_
    refine J_touch (k := 118) (e := .inl (0, 1260, .inl (zA fa))) hk118 ?_
    refine J_touch (k := 109) (e := .inl (0, 8, .inl (zA aq))) hk109 ?_
    refine J_touch (k := 116) (e := .inl (0, 1260, .inl (zA cm))) hk116 ?_
    refine J_touch (k := 115) (e := .inl (0, 27720, .inl (zA cf))) hk115 ?_
    refine J_touch (k := 114) (e := .inl (0, 1260, .inl (zA sm))) hk114 ?_
    refine J_touch (k := 113) (e := .inl (0, 27720, .inl (zA tk))) hk113 ?_
    refine J_touch (k := 112) (e := .inl (0, 27720, .inl (zA st))) hk112 ?_
    refine J_touch (k := 117) (e := .inl (0, 7, .inl (zA of))) hk117 ?_
    refine J_touch (k := 111) (e := .inl (0, 1260, .inl (zA cd))) hk111 ?_
    refine J_touch (k := 110) (e := .inl (0, 8820, .inl (zA co))) hk110 ?_
    refine J_touch (k := 98) (e := .inr (12, (.int (zI ms) :: .int (zI mv) :: .ref 99 :: .ref 100 :: .ref 101 :: .ref 102 :: .ref 103 :: .ref 104 :: .ref 105 :: .int (zI mt) :: .int (zI mfa) :: .ref 106 :: .ref 107 :: .ref 108 :: .int (zI mtn) :: .int (zI mtk) :: .int (zI mlv) :: .int (zI mbd) :: .int (zI mgo) :: .int (zI mge) :: .int (zI mbk) :: .ref 109 :: .int (zI mtt) :: .int (zI mtl) :: .ref 110 :: .ref 111 :: .ref 112 :: .ref 113 :: .ref 114 :: .ref 115 :: .ref 116 :: .ref 117 :: .int (zI hm) :: .int (zI pm) :: .int (zI hb) :: .int (zI sb) :: .ref 118 :: .ref 119 :: .ref 120 :: .ref 121 :: .ref 122 :: .ref 123 :: .ref 124 :: .ref 125 :: .ref 126 :: .ref 127 :: .ref 128 :: .ref 129 :: .int (zI mfu) :: .ref 130 :: .ref 131 :: .ref 132 :: .ref 133 :: .ref 134 :: .int (zI mdm) :: .int (zI mla) :: []))) hk98 ?_
    exact J_iret dX12_ask_17 rfl rfl (Nat.le_of_ble_eq_true rfl) (Nat.le_of_ble_eq_true rfl) ⟨(-1), hm, pm, hb, co, cd, of, sb, st, tk, sm, cf, cm, aq, mgo, mge, mbk, mtt, mtl, fa, fm, li, fg, ak, rfl, rfl, q2, q3, q5, q6, (q7), q8, q9, q10, q11, q12, q13⟩
  · refine J_nf (nh2 := nh) (ck2 := 0) (sk2 := 0) (st2 := [.int (zI 0)]) rfl rfl rfl rfl ?_
    refine Z_if_eq (tgt := 16) dX12_ask_6 (by decide) v_b17331891f (fun h84 => ?_) (fun h84 => absurd h84 (fun q => q v_2ca2bbca1f))
    refine Z_iconst (n := -1) dX12_ask_16 ?_
    refine J_touch (k := 131) (e := .inl (0, 1261, .inl (zA ak))) hk131 ?_
    refine J_touch (k := 130) (e := .inl (2, 1260, .inl (zA fg))) hk130 ?_
    refine J_touch (k := 120) (e := .inl (0, 1260, .inl (zA li))) hk120 ?_
    refine J_touch (k := 119) (e := .inl (1, 1260, .inr (.inl (zAL fm)))) hk119 ?_
    refine J_touch (k := 118) (e := .inl (0, 1260, .inl (zA fa))) hk118 ?_
    refine J_touch (k := 109) (e := .inl (0, 8, .inl (zA aq))) hk109 ?_
    refine J_touch (k := 116) (e := .inl (0, 1260, .inl (zA cm))) hk116 ?_
    refine J_touch (k := 115) (e := .inl (0, 27720, .inl (zA cf))) hk115 ?_
    refine J_touch (k := 114) (e := .inl (0, 1260, .inl (zA sm))) hk114 ?_
    refine J_touch (k := 113) (e := .inl (0, 27720, .inl (zA tk))) hk113 ?_
    refine J_touch (k := 112) (e := .inl (0, 27720, .inl (zA st))) hk112 ?_
    refine J_touch (k := 117) (e := .inl (0, 7, .inl (zA of))) hk117 ?_
    refine J_touch (k := 111) (e := .inl (0, 1260, .inl (zA cd))) hk111 ?_
    refine J_touch (k := 110) (e := .inl (0, 8820, .inl (zA co))) hk110 ?_
    refine J_touch (k := 98) (e := .inr (12, (.int (zI ms) :: .int (zI mv) :: .ref 99 :: .ref 100 :: .ref 101 :: .ref 102 :: .ref 103 :: .ref 104 :: .ref 105 :: .int (zI mt) :: .int (zI mfa) :: .ref 106 :: .ref 107 :: .ref 108 :: .int (zI mtn) :: .int (zI mtk) :: .int (zI mlv) :: .int (zI mbd) :: .int (zI mgo) :: .int (zI mge) :: .int (zI mbk) :: .ref 109 :: .int (zI mtt) :: .int (zI mtl) :: .ref 110 :: .ref 111 :: .ref 112 :: .ref 113 :: .ref 114 :: .ref 115 :: .ref 116 :: .ref 117 :: .int (zI hm) :: .int (zI pm) :: .int (zI hb) :: .int (zI sb) :: .ref 118 :: .ref 119 :: .ref 120 :: .ref 121 :: .ref 122 :: .ref 123 :: .ref 124 :: .ref 125 :: .ref 126 :: .ref 127 :: .ref 128 :: .ref 129 :: .int (zI mfu) :: .ref 130 :: .ref 131 :: .ref 132 :: .ref 133 :: .ref 134 :: .int (zI mdm) :: .int (zI mla) :: []))) hk98 ?_
    exact J_iret dX12_ask_17 rfl rfl (Nat.le_of_ble_eq_true rfl) (Nat.le_of_ble_eq_true rfl) ⟨(-1), hm, pm, hb, co, cd, of, sb, st, tk, sm, cf, cm, aq, mgo, mge, mbk, mtt, mtl, fa, fm, li, fg, ak, rfl, rfl, q2, q3, q5, q6, (q7), q8, q9, q10, q11, q12, q13⟩
set_option maxHeartbeats 4000000 in
set_option maxRecDepth 100000 in
theorem k_draws {l : Launch} {G : jG} {nh : Nat} {fh : Nat → Option va_E} (x : Int) (ms : Int) (mv : Int) (mt : Int) (mfa : Int) (mtn : Int) (mtk : Int) (mlv : Int) (mbd : Int) (mgo : Int) (mge : Int) (mbk : Int) (mtt : Int) (mtl : Int) (hm : Int) (pm : Int) (hb : Int) (sb : Int) (mfu : Int) (mdm : Int) (mla : Int) (q0 : 1 ≤ x) (q1 : x ≤ 22) (q2 : 0 ≤ mla) (q3 : mla ≤ 1000003) (hk98 : fh 98 = some (.inr (12, (.int (zI ms) :: .int (zI mv) :: .ref 99 :: .ref 100 :: .ref 101 :: .ref 102 :: .ref 103 :: .ref 104 :: .ref 105 :: .int (zI mt) :: .int (zI mfa) :: .ref 106 :: .ref 107 :: .ref 108 :: .int (zI mtn) :: .int (zI mtk) :: .int (zI mlv) :: .int (zI mbd) :: .int (zI mgo) :: .int (zI mge) :: .int (zI mbk) :: .ref 109 :: .int (zI mtt) :: .int (zI mtl) :: .ref 110 :: .ref 111 :: .ref 112 :: .ref 113 :: .ref 114 :: .ref 115 :: .ref 116 :: .ref 117 :: .int (zI hm) :: .int (zI pm) :: .int (zI hb) :: .int (zI sb) :: .ref 118 :: .ref 119 :: .ref 120 :: .ref 121 :: .ref 122 :: .ref 123 :: .ref 124 :: .ref 125 :: .ref 126 :: .ref 127 :: .ref 128 :: .ref 129 :: .int (zI mfu) :: .ref 130 :: .ref 131 :: .ref 132 :: .ref 133 :: .ref 134 :: .int (zI mdm) :: .int (zI mla) :: [])))) : JM l G yX12_draws MX12_draws { frames := 0, cells := 0, slots := 0, locals := 0 } [.ref 98, .int (zI x)] (nh, fh) (fun rr h9 => ∃ r : Int, ∃ la2 : Int, rr = some (.int (zI r)) ∧ h9 = (nh, hc fh [(98, .inr (12, (.int (zI ms) :: .int (zI mv) :: .ref 99 :: .ref 100 :: .ref 101 :: .ref 102 :: .ref 103 :: .ref 104 :: .ref 105 :: .int (zI mt) :: .int (zI mfa) :: .ref 106 :: .ref 107 :: .ref 108 :: .int (zI mtn) :: .int (zI mtk) :: .int (zI mlv) :: .int (zI mbd) :: .int (zI mgo) :: .int (zI mge) :: .int (zI mbk) :: .ref 109 :: .int (zI mtt) :: .int (zI mtl) :: .ref 110 :: .ref 111 :: .ref 112 :: .ref 113 :: .ref 114 :: .ref 115 :: .ref 116 :: .ref 117 :: .int (zI hm) :: .int (zI pm) :: .int (zI hb) :: .int (zI sb) :: .ref 118 :: .ref 119 :: .ref 120 :: .ref 121 :: .ref 122 :: .ref 123 :: .ref 124 :: .ref 125 :: .ref 126 :: .ref 127 :: .ref 128 :: .ref 129 :: .int (zI mfu) :: .ref 130 :: .ref 131 :: .ref 132 :: .ref 133 :: .ref 134 :: .int (zI mdm) :: .int (zI la2) :: [])))]) ∧ (0 ≤ r) ∧ (r < x) ∧ (0 ≤ la2) ∧ (la2 ≤ 1000003)) := by
  refine JM.of (by decide) rfl (fun h => by cases h) (Nat.le_of_ble_eq_true rfl) ⟨0, rfl⟩ ?_
  refine J_hc0 (J_ls (ls2 := [some (.ref 98), some (.int (zI x))]) rfl ?_)
  refine J_aload_n dX12_draws_0 rfl rfl ?_
  refine J_ldc2 (v := zL 1103) dX12_draws_1 (jt8 120 rfl rfl) ?_
  refine J_aload_n dX12_draws_4 rfl rfl ?_
  refine J_get (v := .int (zI mla)) dX12_draws_5 fl_X12_368 hk98 rfl ?_
  refine Y_i2l dX12_draws_8 (v_d2d6c15858 q2 q3) ?_
  refine Y_lmul (c := 1103 * mla) dX12_draws_9 rfl ?_
  refine J_ldc2 (v := zL 12345) dX12_draws_10 (jt8 121 rfl rfl) ?_
  refine Y_ladd (c := 1103 * mla + 12345) dX12_draws_13 rfl ?_
  refine J_ldc2 (v := zL 1000003) dX12_draws_14 (jt8 122 rfl rfl) ?_
  refine Y_lrem dX12_draws_17 (v_2992af55c1 q2 q3) v_886e1772f5 (v_f9a2f6b189 q2) v_4097a7b97a ?_
  obtain ⟨z1, ez1⟩ : ∃ z : Int, (1103 * mla + 12345) % 1000003 = z := ⟨_, rfl⟩
  rw [ez1]
  have h2 : 0 ≤ z1 ∧ z1 < 1000003 := md_lem ez1 v_4097a7b97a
  refine Y_l2i dX12_draws_18 (v_496157430d h2.1 h2.2) ?_
  refine K_put (fs2 := (.int (zI ms) :: .int (zI mv) :: .ref 99 :: .ref 100 :: .ref 101 :: .ref 102 :: .ref 103 :: .ref 104 :: .ref 105 :: .int (zI mt) :: .int (zI mfa) :: .ref 106 :: .ref 107 :: .ref 108 :: .int (zI mtn) :: .int (zI mtk) :: .int (zI mlv) :: .int (zI mbd) :: .int (zI mgo) :: .int (zI mge) :: .int (zI mbk) :: .ref 109 :: .int (zI mtt) :: .int (zI mtl) :: .ref 110 :: .ref 111 :: .ref 112 :: .ref 113 :: .ref 114 :: .ref 115 :: .ref 116 :: .ref 117 :: .int (zI hm) :: .int (zI pm) :: .int (zI hb) :: .int (zI sb) :: .ref 118 :: .ref 119 :: .ref 120 :: .ref 121 :: .ref 122 :: .ref 123 :: .ref 124 :: .ref 125 :: .ref 126 :: .ref 127 :: .ref 128 :: .ref 129 :: .int (zI mfu) :: .ref 130 :: .ref 131 :: .ref 132 :: .ref 133 :: .ref 134 :: .int (zI mdm) :: .int (zI z1) :: [])) dX12_draws_19 fw_X12_368 hk98 (Nat.le_of_ble_eq_true rfl) (fun _ => ⟨rfl, rfl⟩) rfl ?_
  refine J_aload_n dX12_draws_22 rfl rfl ?_
  refine J_get (v := .int (zI z1)) dX12_draws_23 fl_X12_368 rfl rfl ?_
  refine J_iload_n dX12_draws_26 rfl rfl ?_
  refine Z_irem dX12_draws_27 (v_496157430d h2.1 h2.2) (v_0054323a56 q0 q1) (v_2b02420001 h2.1) (v_8cacc2f855 q0) ?_
  obtain ⟨z3, ez3⟩ : ∃ z : Int, z1 % x = z := ⟨_, rfl⟩
  rw [ez3]
  have h4 : 0 ≤ z3 ∧ z3 < x := md_lem ez3 (v_8cacc2f855 q0)
  exact J_iret dX12_draws_28 rfl rfl (Nat.le_of_ble_eq_true rfl) (Nat.le_of_ble_eq_true rfl) ⟨z3, z1, rfl, rfl, h4.1, h4.2, h2.1, (v_7fe964b0ff h2.2)⟩
set_option maxHeartbeats 4000000 in
set_option maxRecDepth 100000 in
theorem k_status {l : Launch} {G : jG} {nh : Nat} {fh : Nat → Option va_E} (ms : Int) (mv : Int) (mt : Int) (mfa : Int) (mtn : Int) (mtk : Int) (mlv : Int) (mbd : Int) (mgo : Int) (mge : Int) (mbk : Int) (mtt : Int) (mtl : Int) (hm : Int) (pm : Int) (hb : Int) (sb : Int) (mfu : Int) (mdm : Int) (mla : Int) (hk98 : fh 98 = some (.inr (12, (.int (zI ms) :: .int (zI mv) :: .ref 99 :: .ref 100 :: .ref 101 :: .ref 102 :: .ref 103 :: .ref 104 :: .ref 105 :: .int (zI mt) :: .int (zI mfa) :: .ref 106 :: .ref 107 :: .ref 108 :: .int (zI mtn) :: .int (zI mtk) :: .int (zI mlv) :: .int (zI mbd) :: .int (zI mgo) :: .int (zI mge) :: .int (zI mbk) :: .ref 109 :: .int (zI mtt) :: .int (zI mtl) :: .ref 110 :: .ref 111 :: .ref 112 :: .ref 113 :: .ref 114 :: .ref 115 :: .ref 116 :: .ref 117 :: .int (zI hm) :: .int (zI pm) :: .int (zI hb) :: .int (zI sb) :: .ref 118 :: .ref 119 :: .ref 120 :: .ref 121 :: .ref 122 :: .ref 123 :: .ref 124 :: .ref 125 :: .ref 126 :: .ref 127 :: .ref 128 :: .ref 129 :: .int (zI mfu) :: .ref 130 :: .ref 131 :: .ref 132 :: .ref 133 :: .ref 134 :: .int (zI mdm) :: .int (zI mla) :: [])))) : JM l G yX12_status MX12_status { frames := 0, cells := 0, slots := 0, locals := 0 } [.ref 98] (nh, fh) (fun rr h9 => rr = some (.int (zI ms)) ∧ h9 = (nh, fh)) := by
  refine JM.of (by decide) rfl (fun h => by cases h) (Nat.le_of_ble_eq_true rfl) ⟨0, rfl⟩ ?_
  refine J_hc0 (J_ls (ls2 := [some (.ref 98)]) rfl ?_)
  refine J_aload_n dX12_status_0 rfl rfl ?_
  refine J_get (v := .int (zI ms)) dX12_status_1 fl_X12_3 hk98 rfl ?_
  exact J_iret dX12_status_4 rfl rfl (Nat.le_of_ble_eq_true rfl) (Nat.le_of_ble_eq_true rfl) ⟨rfl, rfl⟩
set_option maxHeartbeats 4000000 in
set_option maxRecDepth 100000 in
theorem k_fault {l : Launch} {G : jG} {nh : Nat} {fh : Nat → Option va_E} (ms : Int) (mv : Int) (mt : Int) (mfa : Int) (mtn : Int) (mtk : Int) (mlv : Int) (mbd : Int) (mgo : Int) (mge : Int) (mbk : Int) (mtt : Int) (mtl : Int) (hm : Int) (pm : Int) (hb : Int) (sb : Int) (mfu : Int) (mdm : Int) (mla : Int) (hk98 : fh 98 = some (.inr (12, (.int (zI ms) :: .int (zI mv) :: .ref 99 :: .ref 100 :: .ref 101 :: .ref 102 :: .ref 103 :: .ref 104 :: .ref 105 :: .int (zI mt) :: .int (zI mfa) :: .ref 106 :: .ref 107 :: .ref 108 :: .int (zI mtn) :: .int (zI mtk) :: .int (zI mlv) :: .int (zI mbd) :: .int (zI mgo) :: .int (zI mge) :: .int (zI mbk) :: .ref 109 :: .int (zI mtt) :: .int (zI mtl) :: .ref 110 :: .ref 111 :: .ref 112 :: .ref 113 :: .ref 114 :: .ref 115 :: .ref 116 :: .ref 117 :: .int (zI hm) :: .int (zI pm) :: .int (zI hb) :: .int (zI sb) :: .ref 118 :: .ref 119 :: .ref 120 :: .ref 121 :: .ref 122 :: .ref 123 :: .ref 124 :: .ref 125 :: .ref 126 :: .ref 127 :: .ref 128 :: .ref 129 :: .int (zI mfu) :: .ref 130 :: .ref 131 :: .ref 132 :: .ref 133 :: .ref 134 :: .int (zI mdm) :: .int (zI mla) :: [])))) : JM l G yX12_fault MX12_fault { frames := 0, cells := 0, slots := 0, locals := 0 } [.ref 98] (nh, fh) (fun rr h9 => rr = some (.int (zI mfa)) ∧ h9 = (nh, fh)) := by
  refine JM.of (by decide) rfl (fun h => by cases h) (Nat.le_of_ble_eq_true rfl) ⟨0, rfl⟩ ?_
  refine J_hc0 (J_ls (ls2 := [some (.ref 98)]) rfl ?_)
  refine J_aload_n dX12_fault_0 rfl rfl ?_
  refine J_get (v := .int (zI mfa)) dX12_fault_1 fl_X12_40 hk98 rfl ?_
  exact J_iret dX12_fault_4 rfl rfl (Nat.le_of_ble_eq_true rfl) (Nat.le_of_ble_eq_true rfl) ⟨rfl, rfl⟩
set_option maxHeartbeats 4000000 in
set_option maxRecDepth 100000 in
theorem k_drawn {l : Launch} {G : jG} {nh : Nat} {fh : Nat → Option va_E} (x : Int) (dt : Int → Int) (ms : Int) (mv : Int) (mt : Int) (mfa : Int) (mtn : Int) (mtk : Int) (mlv : Int) (mbd : Int) (mgo : Int) (mge : Int) (mbk : Int) (mtt : Int) (mtl : Int) (hm : Int) (pm : Int) (hb : Int) (sb : Int) (mfu : Int) (mdm : Int) (mla : Int) (q0 : zr x) (q1 : 0 ≤ mdm) (q2 : mdm ≤ 1260) (hk98 : fh 98 = some (.inr (12, (.int (zI ms) :: .int (zI mv) :: .ref 99 :: .ref 100 :: .ref 101 :: .ref 102 :: .ref 103 :: .ref 104 :: .ref 105 :: .int (zI mt) :: .int (zI mfa) :: .ref 106 :: .ref 107 :: .ref 108 :: .int (zI mtn) :: .int (zI mtk) :: .int (zI mlv) :: .int (zI mbd) :: .int (zI mgo) :: .int (zI mge) :: .int (zI mbk) :: .ref 109 :: .int (zI mtt) :: .int (zI mtl) :: .ref 110 :: .ref 111 :: .ref 112 :: .ref 113 :: .ref 114 :: .ref 115 :: .ref 116 :: .ref 117 :: .int (zI hm) :: .int (zI pm) :: .int (zI hb) :: .int (zI sb) :: .ref 118 :: .ref 119 :: .ref 120 :: .ref 121 :: .ref 122 :: .ref 123 :: .ref 124 :: .ref 125 :: .ref 126 :: .ref 127 :: .ref 128 :: .ref 129 :: .int (zI mfu) :: .ref 130 :: .ref 131 :: .ref 132 :: .ref 133 :: .ref 134 :: .int (zI mdm) :: .int (zI mla) :: [])))) (hk134 : fh 134 = some (.inl (0, 1260, .inl (zA dt)))) : JM l G yX12_drawn MX12_drawn { frames := 1, cells := 0, slots := 0, locals := 22 } [.ref 98, .int (zI x)] (nh, fh) (fun rr h9 => ∃ r : Int, rr = some (.int (zI r)) ∧ h9 = (nh, fh)) := by
  refine JM.of (by decide) rfl (fun h => by cases h) (Nat.le_of_ble_eq_true rfl) ⟨0, rfl⟩ ?_
  refine J_hc0 (J_ls (ls2 := [some (.ref 98), some (.int (zI x))]) rfl ?_)
  refine J_iload_n dX12_drawn_0 rfl rfl ?_
  refine Z_iconst (n := 0) dX12_drawn_1 ?_
  refine J_aload_n dX12_drawn_2 rfl rfl ?_
  refine J_get (v := .int (zI mdm)) dX12_drawn_3 fl_X12_375 hk98 rfl ?_
  refine Z_iconst (n := 1) dX12_drawn_6 ?_
  refine Z_isub (c := mdm - 1) dX12_drawn_7 rfl ?_
  refine J_callS (st := []) dX12_drawn_8 cs_X12_138 (k_lies x 0 (mdm - 1) q0 v_b17331891f (v_3c2aba2698 q1 q2)) rfl rfl (Nat.le_of_ble_eq_true rfl) ⟨(Nat.le_of_ble_eq_true rfl), (Nat.le_of_ble_eq_true rfl)⟩ ⟨(Nat.le_of_ble_eq_true rfl), (Nat.le_of_ble_eq_true rfl)⟩ (fun r h9 hp => ?_)
  rcases hp with ⟨rfl, rfl, h1, h2⟩ | ⟨rfl, rfl, h3⟩ | ⟨rfl, rfl, h4⟩
  · refine J_nf (nh2 := nh) (ck2 := 0) (sk2 := 0) (st2 := [.int (zI 1)]) rfl rfl rfl rfl ?_
    refine Z_if_eq (tgt := 23) dX12_drawn_11 (by decide) v_4dcc24baa7 (fun h5 => absurd h5 v_3a47bfd896) (fun h5 => ?_)
    refine J_aload_n dX12_drawn_14 rfl rfl ?_
    refine J_get (v := .ref 134) dX12_drawn_15 fl_X12_135 hk98 rfl ?_
    refine J_iload_n dX12_drawn_18 rfl rfl ?_
    obtain ⟨z6, ez6⟩ : ∃ z : Int, dt x = z := ⟨_, rfl⟩
    refine Y_iald (z := z6) 1260 dX12_drawn_19 hk134 rfl (by decide) (v_2b02420001 h1) (v_98e88a5ae1 q2 h2) ez6 ?_
    refine J_goto (tgt := 24) dX12_drawn_20 (by decide) ?_
    exact J_iret dX12_drawn_24 rfl rfl (Nat.le_of_ble_eq_true rfl) (Nat.le_of_ble_eq_true rfl) ⟨z6, rfl, rfl⟩
  · refine J_nf (nh2 := nh) (ck2 := 0) (sk2 := 0) (st2 := [.int (zI 0)]) rfl rfl rfl rfl ?_
    refine Z_if_eq (tgt := 23) dX12_drawn_11 (by decide) v_b17331891f (fun h7 => ?_) (fun h7 => absurd h7 (fun q => q v_2ca2bbca1f))
    refine Z_iconst (n := -1) dX12_drawn_23 ?_
    exact J_iret dX12_drawn_24 rfl rfl (Nat.le_of_ble_eq_true rfl) (Nat.le_of_ble_eq_true rfl) ⟨(-1), rfl, rfl⟩
  · refine J_nf (nh2 := nh) (ck2 := 0) (sk2 := 0) (st2 := [.int (zI 0)]) rfl rfl rfl rfl ?_
    refine Z_if_eq (tgt := 23) dX12_drawn_11 (by decide) v_b17331891f (fun h8 => ?_) (fun h8 => absurd h8 (fun q => q v_2ca2bbca1f))
    refine Z_iconst (n := -1) dX12_drawn_23 ?_
    exact J_iret dX12_drawn_24 rfl rfl (Nat.le_of_ble_eq_true rfl) (Nat.le_of_ble_eq_true rfl) ⟨(-1), rfl, rfl⟩
set_option maxHeartbeats 4000000 in
set_option maxRecDepth 100000 in
theorem k_count {l : Launch} {G : jG} {nh : Nat} {fh : Nat → Option va_E} (x : Int) (K : Int → Int) (rf7 : Int → Int) (ms : Int) (mv : Int) (mt : Int) (mfa : Int) (mtn : Int) (mtk : Int) (mlv : Int) (mbd : Int) (mgo : Int) (mge : Int) (mbk : Int) (mtt : Int) (mtl : Int) (hm : Int) (pm : Int) (hb : Int) (sb : Int) (mfu : Int) (mdm : Int) (mla : Int) (q0 : zr x) (hk98 : fh 98 = some (.inr (12, (.int (zI ms) :: .int (zI mv) :: .ref 99 :: .ref 100 :: .ref 101 :: .ref 102 :: .ref 103 :: .ref 104 :: .ref 105 :: .int (zI mt) :: .int (zI mfa) :: .ref 106 :: .ref 107 :: .ref 108 :: .int (zI mtn) :: .int (zI mtk) :: .int (zI mlv) :: .int (zI mbd) :: .int (zI mgo) :: .int (zI mge) :: .int (zI mbk) :: .ref 109 :: .int (zI mtt) :: .int (zI mtl) :: .ref 110 :: .ref 111 :: .ref 112 :: .ref 113 :: .ref 114 :: .ref 115 :: .ref 116 :: .ref 117 :: .int (zI hm) :: .int (zI pm) :: .int (zI hb) :: .int (zI sb) :: .ref 118 :: .ref 119 :: .ref 120 :: .ref 121 :: .ref 122 :: .ref 123 :: .ref 124 :: .ref 125 :: .ref 126 :: .ref 127 :: .ref 128 :: .ref 129 :: .int (zI mfu) :: .ref 130 :: .ref 131 :: .ref 132 :: .ref 133 :: .ref 134 :: .int (zI mdm) :: .int (zI mla) :: [])))) (hk100 : fh 100 = some (.inl (0, 4870, .inl (zA K)))) (hk99 : fh 99 = some (.inl (0, 7, .inl (zA rf7)))) : JM l G yX12_count MX12_count { frames := 1, cells := 0, slots := 0, locals := 22 } [.ref 98, .int (zI x)] (nh, fh) (fun rr h9 => ∃ r : Int, rr = some (.int (zI r)) ∧ h9 = (nh, fh)) := by
  refine JM.of (by decide) rfl (fun h => by cases h) (Nat.le_of_ble_eq_true rfl) ⟨0, rfl⟩ ?_
  refine J_hc0 (J_ls (ls2 := [some (.ref 98), some (.int (zI x))]) rfl ?_)
  refine J_iload_n dX12_count_0 rfl rfl ?_
  by_cases h1 : x = 0
  · refine Z_tableIn (tgt := 92) (off := 91) 0 dX12_count_1 (v_b25fa51a85 q0) (v_2b2aa55e09 h1) (by decide) (by decide) (by decide) (by decide) ?_
    refine J_aload_n dX12_count_92 rfl rfl ?_
    refine J_callV (st := []) dX12_count_93 cv_X12_149 (k_places ms mv mt mfa mtn mtk mlv mbd mgo mge mbk mtt mtl hm pm hb sb mfu mdm mla K hk98 hk100) hk98 rfl rfl (Nat.le_of_ble_eq_true rfl) ⟨(Nat.le_of_ble_eq_true rfl), (Nat.le_of_ble_eq_true rfl)⟩ ⟨(Nat.le_of_ble_eq_true rfl), (Nat.le_of_ble_eq_true rfl)⟩ (fun r h9 hp => ?_)
    obtain ⟨z2, rfl, rfl, h3⟩ := hp
    refine J_nf (nh2 := nh) (ck2 := 0) (sk2 := 0) (st2 := [.int (zI z2)]) rfl rfl rfl rfl ?_
    exact J_iret dX12_count_96 rfl rfl (Nat.le_of_ble_eq_true rfl) (Nat.le_of_ble_eq_true rfl) ⟨z2, rfl, rfl⟩
  by_cases h4 : x = 1
  · refine Z_tableIn (tgt := 97) (off := 96) 1 dX12_count_1 (v_b25fa51a85 q0) (v_b757d97f93 h4) (by decide) (by decide) (by decide) (by decide) ?_
    refine J_aload_n dX12_count_97 rfl rfl ?_
    refine J_get (v := .ref 100) dX12_count_98 fl_X12_20 hk98 rfl ?_
    refine Z_iconst (n := 0) dX12_count_101 ?_
    refine J_iload_n dX12_count_102 rfl rfl ?_
    refine Z_iadd (c := x) dX12_count_103 v_a8cc381b6d ?_
    refine Z_iconst (n := 1) dX12_count_104 ?_
    refine Z_isub (c := x - 1) dX12_count_105 rfl ?_
    obtain ⟨z5, ez5⟩ : ∃ z : Int, K (x - 1) = z := ⟨_, rfl⟩
    refine Y_iald (z := z5) 4870 dX12_count_106 hk100 rfl (by decide) (v_4f85b2b934 h4) (v_2980a0e691 h4) ez5 ?_
    exact J_iret dX12_count_107 rfl rfl (Nat.le_of_ble_eq_true rfl) (Nat.le_of_ble_eq_true rfl) ⟨z5, rfl, rfl⟩
  by_cases h6 : x = 2
  · refine Z_tableIn (tgt := 97) (off := 96) 2 dX12_count_1 (v_b25fa51a85 q0) (v_b7ed5c1d53 h6) (by decide) (by decide) (by decide) (by decide) ?_
    refine J_aload_n dX12_count_97 rfl rfl ?_
    refine J_get (v := .ref 100) dX12_count_98 fl_X12_20 hk98 rfl ?_
    refine Z_iconst (n := 0) dX12_count_101 ?_
    refine J_iload_n dX12_count_102 rfl rfl ?_
    refine Z_iadd (c := x) dX12_count_103 v_a8cc381b6d ?_
    refine Z_iconst (n := 1) dX12_count_104 ?_
    refine Z_isub (c := x - 1) dX12_count_105 rfl ?_
    obtain ⟨z7, ez7⟩ : ∃ z : Int, K (x - 1) = z := ⟨_, rfl⟩
    refine Y_iald (z := z7) 4870 dX12_count_106 hk100 rfl (by decide) (v_67e34aa7fa h6) (v_2cfa9e806b h6) ez7 ?_
    exact J_iret dX12_count_107 rfl rfl (Nat.le_of_ble_eq_true rfl) (Nat.le_of_ble_eq_true rfl) ⟨z7, rfl, rfl⟩
  by_cases h8 : x = 3
  · refine Z_tableIn (tgt := 97) (off := 96) 3 dX12_count_1 (v_b25fa51a85 q0) (v_24d6576c2f h8) (by decide) (by decide) (by decide) (by decide) ?_
    refine J_aload_n dX12_count_97 rfl rfl ?_
    refine J_get (v := .ref 100) dX12_count_98 fl_X12_20 hk98 rfl ?_
    refine Z_iconst (n := 0) dX12_count_101 ?_
    refine J_iload_n dX12_count_102 rfl rfl ?_
    refine Z_iadd (c := x) dX12_count_103 v_a8cc381b6d ?_
    refine Z_iconst (n := 1) dX12_count_104 ?_
    refine Z_isub (c := x - 1) dX12_count_105 rfl ?_
    obtain ⟨z9, ez9⟩ : ∃ z : Int, K (x - 1) = z := ⟨_, rfl⟩
    refine Y_iald (z := z9) 4870 dX12_count_106 hk100 rfl (by decide) (v_0be71973b2 h8) (v_45ebf1097f h8) ez9 ?_
    exact J_iret dX12_count_107 rfl rfl (Nat.le_of_ble_eq_true rfl) (Nat.le_of_ble_eq_true rfl) ⟨z9, rfl, rfl⟩
  by_cases h10 : x = 4
  · refine Z_tableIn (tgt := 97) (off := 96) 4 dX12_count_1 (v_b25fa51a85 q0) (v_e7bb9e21ac h10) (by decide) (by decide) (by decide) (by decide) ?_
    refine J_aload_n dX12_count_97 rfl rfl ?_
    refine J_get (v := .ref 100) dX12_count_98 fl_X12_20 hk98 rfl ?_
    refine Z_iconst (n := 0) dX12_count_101 ?_
    refine J_iload_n dX12_count_102 rfl rfl ?_
    refine Z_iadd (c := x) dX12_count_103 v_a8cc381b6d ?_
    refine Z_iconst (n := 1) dX12_count_104 ?_
    refine Z_isub (c := x - 1) dX12_count_105 rfl ?_
    obtain ⟨z11, ez11⟩ : ∃ z : Int, K (x - 1) = z := ⟨_, rfl⟩
    refine Y_iald (z := z11) 4870 dX12_count_106 hk100 rfl (by decide) (v_a9a4958aea h10) (v_c9f55578f0 h10) ez11 ?_
    exact J_iret dX12_count_107 rfl rfl (Nat.le_of_ble_eq_true rfl) (Nat.le_of_ble_eq_true rfl) ⟨z11, rfl, rfl⟩
  by_cases h12 : x = 5
  · refine Z_tableIn (tgt := 97) (off := 96) 5 dX12_count_1 (v_b25fa51a85 q0) (v_666cdbe95c h12) (by decide) (by decide) (by decide) (by decide) ?_
    refine J_aload_n dX12_count_97 rfl rfl ?_
    refine J_get (v := .ref 100) dX12_count_98 fl_X12_20 hk98 rfl ?_
    refine Z_iconst (n := 0) dX12_count_101 ?_
    refine J_iload_n dX12_count_102 rfl rfl ?_
    refine Z_iadd (c := x) dX12_count_103 v_a8cc381b6d ?_
    refine Z_iconst (n := 1) dX12_count_104 ?_
    refine Z_isub (c := x - 1) dX12_count_105 rfl ?_
    obtain ⟨z13, ez13⟩ : ∃ z : Int, K (x - 1) = z := ⟨_, rfl⟩
    refine Y_iald (z := z13) 4870 dX12_count_106 hk100 rfl (by decide) (v_ed9086c6ba h12) (v_492f510241 h12) ez13 ?_
    exact J_iret dX12_count_107 rfl rfl (Nat.le_of_ble_eq_true rfl) (Nat.le_of_ble_eq_true rfl) ⟨z13, rfl, rfl⟩
  by_cases h14 : x = 6
  · refine Z_tableIn (tgt := 108) (off := 107) 6 dX12_count_1 (v_b25fa51a85 q0) (v_2e044925d6 h14) (by decide) (by decide) (by decide) (by decide) ?_
    refine J_aload_n dX12_count_108 rfl rfl ?_
    refine J_get (v := .ref 100) dX12_count_109 fl_X12_20 hk98 rfl ?_
    refine Z_bipush (n := 62) dX12_count_112 (by decide +kernel) ?_
    obtain ⟨z15, ez15⟩ : ∃ z : Int, K 62 = z := ⟨_, rfl⟩
    refine Y_iald (z := z15) 4870 dX12_count_114 hk100 rfl (by decide) v_722c6b3941 v_1c3d7f81dc ez15 ?_
    exact J_iret dX12_count_115 rfl rfl (Nat.le_of_ble_eq_true rfl) (Nat.le_of_ble_eq_true rfl) ⟨z15, rfl, rfl⟩
  by_cases h16 : x = 7
  · refine Z_tableIn (tgt := 116) (off := 115) 7 dX12_count_1 (v_b25fa51a85 q0) (v_2f5adcf1cf h16) (by decide) (by decide) (by decide) (by decide) ?_
    refine J_aload_n dX12_count_116 rfl rfl ?_
    refine J_get (v := .ref 100) dX12_count_117 fl_X12_20 hk98 rfl ?_
    refine Z_bipush (n := 59) dX12_count_120 (by decide +kernel) ?_
    obtain ⟨z17, ez17⟩ : ∃ z : Int, K 59 = z := ⟨_, rfl⟩
    refine Y_iald (z := z17) 4870 dX12_count_122 hk100 rfl (by decide) v_891b05d1c3 v_028d633eb8 ez17 ?_
    exact J_iret dX12_count_123 rfl rfl (Nat.le_of_ble_eq_true rfl) (Nat.le_of_ble_eq_true rfl) ⟨z17, rfl, rfl⟩
  by_cases h18 : x = 8
  · refine Z_tableIn (tgt := 124) (off := 123) 8 dX12_count_1 (v_b25fa51a85 q0) (v_e0fa6a9ceb h18) (by decide) (by decide) (by decide) (by decide) ?_
    refine J_aload_n dX12_count_124 rfl rfl ?_
    refine J_get (v := .ref 100) dX12_count_125 fl_X12_20 hk98 rfl ?_
    refine Z_bipush (n := 61) dX12_count_128 (by decide +kernel) ?_
    obtain ⟨z19, ez19⟩ : ∃ z : Int, K 61 = z := ⟨_, rfl⟩
    refine Y_iald (z := z19) 4870 dX12_count_130 hk100 rfl (by decide) v_b92a3c53b8 v_ee60c78ede ez19 ?_
    exact J_iret dX12_count_131 rfl rfl (Nat.le_of_ble_eq_true rfl) (Nat.le_of_ble_eq_true rfl) ⟨z19, rfl, rfl⟩
  by_cases h20 : x = 9
  · refine Z_tableIn (tgt := 132) (off := 131) 9 dX12_count_1 (v_b25fa51a85 q0) (v_953f52f1fe h20) (by decide) (by decide) (by decide) (by decide) ?_
    refine J_aload_n dX12_count_132 rfl rfl ?_
    refine J_get (v := .ref 100) dX12_count_133 fl_X12_20 hk98 rfl ?_
    refine Z_bipush (n := 60) dX12_count_136 (by decide +kernel) ?_
    obtain ⟨z21, ez21⟩ : ∃ z : Int, K 60 = z := ⟨_, rfl⟩
    refine Y_iald (z := z21) 4870 dX12_count_138 hk100 rfl (by decide) v_eb2f5e1e3a v_db2e89ee0b ez21 ?_
    exact J_iret dX12_count_139 rfl rfl (Nat.le_of_ble_eq_true rfl) (Nat.le_of_ble_eq_true rfl) ⟨z21, rfl, rfl⟩
  by_cases h22 : x = 10
  · refine Z_tableIn (tgt := 140) (off := 139) 10 dX12_count_1 (v_b25fa51a85 q0) (v_9473638d03 h22) (by decide) (by decide) (by decide) (by decide) ?_
    refine J_aload_n dX12_count_140 rfl rfl ?_
    refine J_get (v := .int (zI mt)) dX12_count_141 fl_X12_156 hk98 rfl ?_
    exact J_iret dX12_count_144 rfl rfl (Nat.le_of_ble_eq_true rfl) (Nat.le_of_ble_eq_true rfl) ⟨mt, rfl, rfl⟩
  by_cases h23 : x = 11
  · refine Z_tableIn (tgt := 145) (off := 144) 11 dX12_count_1 (v_b25fa51a85 q0) (v_a30286c0ef h23) (by decide) (by decide) (by decide) (by decide) ?_
    refine J_aload_n dX12_count_145 rfl rfl ?_
    refine J_get (v := .ref 99) dX12_count_146 fl_X12_7 hk98 rfl ?_
    refine J_iload_n dX12_count_149 rfl rfl ?_
    refine Z_bipush (n := 10) dX12_count_150 (by decide +kernel) ?_
    refine Z_isub (c := x - 10) dX12_count_152 rfl ?_
    obtain ⟨z24, ez24⟩ : ∃ z : Int, rf7 (x - 10) = z := ⟨_, rfl⟩
    refine Y_iald (z := z24) 7 dX12_count_153 hk99 rfl (by decide) (v_11f34355db h23) (v_2f91656c17 h23) ez24 ?_
    exact J_iret dX12_count_154 rfl rfl (Nat.le_of_ble_eq_true rfl) (Nat.le_of_ble_eq_true rfl) ⟨z24, rfl, rfl⟩
  by_cases h25 : x = 12
  · refine Z_tableIn (tgt := 145) (off := 144) 12 dX12_count_1 (v_b25fa51a85 q0) (v_7f42623cbd h25) (by decide) (by decide) (by decide) (by decide) ?_
    refine J_aload_n dX12_count_145 rfl rfl ?_
    refine J_get (v := .ref 99) dX12_count_146 fl_X12_7 hk98 rfl ?_
    refine J_iload_n dX12_count_149 rfl rfl ?_
    refine Z_bipush (n := 10) dX12_count_150 (by decide +kernel) ?_
    refine Z_isub (c := x - 10) dX12_count_152 rfl ?_
    obtain ⟨z26, ez26⟩ : ∃ z : Int, rf7 (x - 10) = z := ⟨_, rfl⟩
    refine Y_iald (z := z26) 7 dX12_count_153 hk99 rfl (by decide) (v_13cc6daa47 h25) (v_18b126c8ef h25) ez26 ?_
    exact J_iret dX12_count_154 rfl rfl (Nat.le_of_ble_eq_true rfl) (Nat.le_of_ble_eq_true rfl) ⟨z26, rfl, rfl⟩
  by_cases h27 : x = 13
  · refine Z_tableIn (tgt := 145) (off := 144) 13 dX12_count_1 (v_b25fa51a85 q0) (v_486f5fb9bb h27) (by decide) (by decide) (by decide) (by decide) ?_
    refine J_aload_n dX12_count_145 rfl rfl ?_
    refine J_get (v := .ref 99) dX12_count_146 fl_X12_7 hk98 rfl ?_
    refine J_iload_n dX12_count_149 rfl rfl ?_
    refine Z_bipush (n := 10) dX12_count_150 (by decide +kernel) ?_
    refine Z_isub (c := x - 10) dX12_count_152 rfl ?_
    obtain ⟨z28, ez28⟩ : ∃ z : Int, rf7 (x - 10) = z := ⟨_, rfl⟩
    refine Y_iald (z := z28) 7 dX12_count_153 hk99 rfl (by decide) (v_01f23894f3 h27) (v_7ce0ed119e h27) ez28 ?_
    exact J_iret dX12_count_154 rfl rfl (Nat.le_of_ble_eq_true rfl) (Nat.le_of_ble_eq_true rfl) ⟨z28, rfl, rfl⟩
  by_cases h29 : x = 14
  · refine Z_tableIn (tgt := 155) (off := 154) 14 dX12_count_1 (v_b25fa51a85 q0) (v_2ea180581b h29) (by decide) (by decide) (by decide) (by decide) ?_
    refine J_aload_n dX12_count_155 rfl rfl ?_
    refine J_get (v := .ref 99) dX12_count_156 fl_X12_7 hk98 rfl ?_
    refine Z_iconst (n := 5) dX12_count_159 ?_
    obtain ⟨z30, ez30⟩ : ∃ z : Int, rf7 5 = z := ⟨_, rfl⟩
    refine Y_iald (z := z30) 7 dX12_count_160 hk99 rfl (by decide) v_17fcbbe8da v_f5de102d41 ez30 ?_
    exact J_iret dX12_count_161 rfl rfl (Nat.le_of_ble_eq_true rfl) (Nat.le_of_ble_eq_true rfl) ⟨z30, rfl, rfl⟩
  by_cases h31 : x = 15
  · refine Z_tableIn (tgt := 162) (off := 161) 15 dX12_count_1 (v_b25fa51a85 q0) (v_bfb0711016 h31) (by decide) (by decide) (by decide) (by decide) ?_
    refine J_aload_n dX12_count_162 rfl rfl ?_
    refine J_get (v := .ref 99) dX12_count_163 fl_X12_7 hk98 rfl ?_
    refine Z_bipush (n := 6) dX12_count_166 (by decide +kernel) ?_
    obtain ⟨z32, ez32⟩ : ∃ z : Int, rf7 6 = z := ⟨_, rfl⟩
    refine Y_iald (z := z32) 7 dX12_count_168 hk99 rfl (by decide) v_54997b3cd8 v_cb57b06e02 ez32 ?_
    exact J_iret dX12_count_169 rfl rfl (Nat.le_of_ble_eq_true rfl) (Nat.le_of_ble_eq_true rfl) ⟨z32, rfl, rfl⟩
  by_cases h33 : x = 16
  · refine Z_tableIn (tgt := 170) (off := 169) 16 dX12_count_1 (v_b25fa51a85 q0) (v_c5b5cc5484 h33) (by decide) (by decide) (by decide) (by decide) ?_
    refine J_aload_n dX12_count_170 rfl rfl ?_
    refine J_get (v := .ref 100) dX12_count_171 fl_X12_20 hk98 rfl ?_
    refine Z_bipush (n := 63) dX12_count_174 (by decide +kernel) ?_
    obtain ⟨z34, ez34⟩ : ∃ z : Int, K 63 = z := ⟨_, rfl⟩
    refine Y_iald (z := z34) 4870 dX12_count_176 hk100 rfl (by decide) v_6d68fb9760 v_256388ed94 ez34 ?_
    exact J_iret dX12_count_177 rfl rfl (Nat.le_of_ble_eq_true rfl) (Nat.le_of_ble_eq_true rfl) ⟨z34, rfl, rfl⟩
  by_cases h35 : x = 17
  · refine Z_tableIn (tgt := 178) (off := 177) 17 dX12_count_1 (v_b25fa51a85 q0) (v_b5b75bc3fa h35) (by decide) (by decide) (by decide) (by decide) ?_
    refine J_aload_n dX12_count_178 rfl rfl ?_
    refine J_get (v := .ref 100) dX12_count_179 fl_X12_20 hk98 rfl ?_
    refine Z_iconst (n := 5) dX12_count_182 ?_
    refine J_iload_n dX12_count_183 rfl rfl ?_
    refine Z_iadd (c := x + 5) dX12_count_184 v_1676ffc731 ?_
    refine Z_bipush (n := 17) dX12_count_185 (by decide +kernel) ?_
    refine Z_isub (c := x - 12) dX12_count_187 v_f18b57e41c ?_
    obtain ⟨z36, ez36⟩ : ∃ z : Int, K (x - 12) = z := ⟨_, rfl⟩
    refine Y_iald (z := z36) 4870 dX12_count_188 hk100 rfl (by decide) (v_f3c1f34708 h35) (v_dcd81cfa69 h35) ez36 ?_
    exact J_iret dX12_count_189 rfl rfl (Nat.le_of_ble_eq_true rfl) (Nat.le_of_ble_eq_true rfl) ⟨z36, rfl, rfl⟩
  by_cases h37 : x = 18
  · refine Z_tableIn (tgt := 178) (off := 177) 18 dX12_count_1 (v_b25fa51a85 q0) (v_79d75899e1 h37) (by decide) (by decide) (by decide) (by decide) ?_
    refine J_aload_n dX12_count_178 rfl rfl ?_
    refine J_get (v := .ref 100) dX12_count_179 fl_X12_20 hk98 rfl ?_
    refine Z_iconst (n := 5) dX12_count_182 ?_
    refine J_iload_n dX12_count_183 rfl rfl ?_
    refine Z_iadd (c := x + 5) dX12_count_184 v_1676ffc731 ?_
    refine Z_bipush (n := 17) dX12_count_185 (by decide +kernel) ?_
    refine Z_isub (c := x - 12) dX12_count_187 v_f18b57e41c ?_
    obtain ⟨z38, ez38⟩ : ∃ z : Int, K (x - 12) = z := ⟨_, rfl⟩
    refine Y_iald (z := z38) 4870 dX12_count_188 hk100 rfl (by decide) (v_eb57f675cd h37) (v_04a050ad86 h37) ez38 ?_
    exact J_iret dX12_count_189 rfl rfl (Nat.le_of_ble_eq_true rfl) (Nat.le_of_ble_eq_true rfl) ⟨z38, rfl, rfl⟩
  refine Z_tableOut (tgt := 190) dX12_count_1 (v_b25fa51a85 q0) (by omega) (by decide) ?_
  refine Z_iconst (n := -1) dX12_count_190 ?_
  exact J_iret dX12_count_191 rfl rfl (Nat.le_of_ble_eq_true rfl) (Nat.le_of_ble_eq_true rfl) ⟨(-1), rfl, rfl⟩
set_option maxHeartbeats 4000000 in
set_option maxRecDepth 100000 in
theorem k_drunk {l : Launch} {G : jG} {nh : Nat} {fh : Nat → Option va_E} (x : Int) (y : Int) (v : Int) (ms : Int) (mv : Int) (mt : Int) (mfa : Int) (mtn : Int) (mtk : Int) (mlv : Int) (mbd : Int) (mgo : Int) (mge : Int) (mbk : Int) (mtt : Int) (mtl : Int) (hm : Int) (pm : Int) (hb : Int) (sb : Int) (mfu : Int) (mdm : Int) (mla : Int) (K : Int → Int) (co : Int → Int) (cd : Int → Int) (of : Int → Int) (st : Int → Int) (tk : Int → Int) (sm : Int → Int) (cf : Int → Int) (cm : Int → Int) (aq : Int → Int) (dt : Int → Int) (rf7 : Int → Int) (q0 : zr x) (q1 : zr y) (q2 : zr v) (q3 : 0 ≤ mdm) (q4 : mdm ≤ 1260) (q5 : KOK K) (q6 : Rg of 7 0 4) (q7 : zr hb) (q8 : zr mv) (q9 : hb = mv → HouT co cd K hm ∧ hm = Hi K ∧ pm = bsum K) (q10 : zr sb) (q11 : sb = mv → StM st tk sm (Hi K) ∧ CoM cf cm st sm (Hi K)) (q12 : hb ≤ mv) (q13 : sb ≤ mv) (q14 : 0 ≤ mbk) (q15 : mbk ≤ 1) (q16 : Rg aq 8 (-2147483648) 2147483647) (hk98 : fh 98 = some (.inr (12, (.int (zI ms) :: .int (zI mv) :: .ref 99 :: .ref 100 :: .ref 101 :: .ref 102 :: .ref 103 :: .ref 104 :: .ref 105 :: .int (zI mt) :: .int (zI mfa) :: .ref 106 :: .ref 107 :: .ref 108 :: .int (zI mtn) :: .int (zI mtk) :: .int (zI mlv) :: .int (zI mbd) :: .int (zI mgo) :: .int (zI mge) :: .int (zI mbk) :: .ref 109 :: .int (zI mtt) :: .int (zI mtl) :: .ref 110 :: .ref 111 :: .ref 112 :: .ref 113 :: .ref 114 :: .ref 115 :: .ref 116 :: .ref 117 :: .int (zI hm) :: .int (zI pm) :: .int (zI hb) :: .int (zI sb) :: .ref 118 :: .ref 119 :: .ref 120 :: .ref 121 :: .ref 122 :: .ref 123 :: .ref 124 :: .ref 125 :: .ref 126 :: .ref 127 :: .ref 128 :: .ref 129 :: .int (zI mfu) :: .ref 130 :: .ref 131 :: .ref 132 :: .ref 133 :: .ref 134 :: .int (zI mdm) :: .int (zI mla) :: [])))) (hk100 : fh 100 = some (.inl (0, 4870, .inl (zA K)))) (hk110 : fh 110 = some (.inl (0, 8820, .inl (zA co)))) (hk111 : fh 111 = some (.inl (0, 1260, .inl (zA cd)))) (hk117 : fh 117 = some (.inl (0, 7, .inl (zA of)))) (hk112 : fh 112 = some (.inl (0, 27720, .inl (zA st)))) (hk113 : fh 113 = some (.inl (0, 27720, .inl (zA tk)))) (hk114 : fh 114 = some (.inl (0, 1260, .inl (zA sm)))) (hk115 : fh 115 = some (.inl (0, 27720, .inl (zA cf)))) (hk116 : fh 116 = some (.inl (0, 1260, .inl (zA cm)))) (hk109 : fh 109 = some (.inl (0, 8, .inl (zA aq)))) (hk134 : fh 134 = some (.inl (0, 1260, .inl (zA dt)))) (hk99 : fh 99 = some (.inl (0, 7, .inl (zA rf7)))) : JM l G yX12_drunk MX12_drunk { frames := 43, cells := 0, slots := 0, locals := 1018 } [.ref 98, .int (zI x), .int (zI y), .int (zI v)] (nh, fh) (fun rr h9 => ∃ r : Int, ∃ hm2 : Int, ∃ pm2 : Int, ∃ hb2 : Int, ∃ co2 : Int → Int, ∃ cd2 : Int → Int, ∃ of2 : Int → Int, ∃ sb2 : Int, ∃ st2 : Int → Int, ∃ tk2 : Int → Int, ∃ sm2 : Int → Int, ∃ cf2 : Int → Int, ∃ cm2 : Int → Int, ∃ aq2 : Int → Int, ∃ go2 : Int, ∃ ge2 : Int, ∃ bk2 : Int, ∃ tt2 : Int, ∃ tl2 : Int, ∃ dt2 : Int → Int, ∃ rg7 : Int → Int, ∃ ms2 : Int, ∃ mv2 : Int, ∃ la2 : Int, ∃ dm2 : Int, rr = some (.int (zI r)) ∧ h9 = (nh, hc fh [(98, .inr (12, (.int (zI ms2) :: .int (zI mv2) :: .ref 99 :: .ref 100 :: .ref 101 :: .ref 102 :: .ref 103 :: .ref 104 :: .ref 105 :: .int (zI mt) :: .int (zI mfa) :: .ref 106 :: .ref 107 :: .ref 108 :: .int (zI mtn) :: .int (zI mtk) :: .int (zI mlv) :: .int (zI mbd) :: .int (zI go2) :: .int (zI ge2) :: .int (zI bk2) :: .ref 109 :: .int (zI tt2) :: .int (zI tl2) :: .ref 110 :: .ref 111 :: .ref 112 :: .ref 113 :: .ref 114 :: .ref 115 :: .ref 116 :: .ref 117 :: .int (zI hm2) :: .int (zI pm2) :: .int (zI hb2) :: .int (zI sb2) :: .ref 118 :: .ref 119 :: .ref 120 :: .ref 121 :: .ref 122 :: .ref 123 :: .ref 124 :: .ref 125 :: .ref 126 :: .ref 127 :: .ref 128 :: .ref 129 :: .int (zI mfu) :: .ref 130 :: .ref 131 :: .ref 132 :: .ref 133 :: .ref 134 :: .int (zI dm2) :: .int (zI la2) :: []))), (110, .inl (0, 8820, .inl (zA co2))), (111, .inl (0, 1260, .inl (zA cd2))), (117, .inl (0, 7, .inl (zA of2))), (112, .inl (0, 27720, .inl (zA st2))), (113, .inl (0, 27720, .inl (zA tk2))), (114, .inl (0, 1260, .inl (zA sm2))), (115, .inl (0, 27720, .inl (zA cf2))), (116, .inl (0, 1260, .inl (zA cm2))), (109, .inl (0, 8, .inl (zA aq2))), (134, .inl (0, 1260, .inl (zA dt2))), (99, .inl (0, 7, .inl (zA rg7)))]) ∧ (Rg of2 7 0 4) ∧ (zr hb2) ∧ (hb2 = mv → HouT co2 cd2 K hm2 ∧ hm2 = Hi K ∧ pm2 = bsum K) ∧ (zr sb2) ∧ (sb2 = mv → StM st2 tk2 sm2 (Hi K) ∧ CoM cf2 cm2 st2 sm2 (Hi K)) ∧ (hb2 ≤ mv) ∧ (sb2 ≤ mv) ∧ (0 ≤ bk2) ∧ (bk2 ≤ 1) ∧ (Rg aq2 8 (-2147483648) 2147483647) ∧ (mv ≤ mv2) ∧ (mv2 ≤ mv + 1) ∧ (0 ≤ dm2) ∧ (dm2 ≤ 1260)) := by
  refine JM.of (by decide) rfl (fun h => by cases h) (Nat.le_of_ble_eq_true rfl) ⟨2, rfl⟩ ?_
  refine J_hc0 (J_ls (ls2 := [some (.ref 98), some (.int (zI x)), some (.int (zI y)), some (.int (zI v)), none, none]) rfl ?_)
  refine J_iload_n dX12_drunk_0 rfl rfl ?_
  refine Z_iconst (n := 0) dX12_drunk_1 ?_
  refine J_ldc (v := zI 1000000) dX12_drunk_2 (jt7 88 rfl rfl) ?_
  refine J_callS (st := []) dX12_drunk_4 cs_X12_138 (k_lies x 0 1000000 q0 v_b17331891f v_6158abf92a) rfl rfl (Nat.le_of_ble_eq_true rfl) ⟨(Nat.le_of_ble_eq_true rfl), (Nat.le_of_ble_eq_true rfl)⟩ ⟨(Nat.le_of_ble_eq_true rfl), (Nat.le_of_ble_eq_true rfl)⟩ (fun r h9 hp => ?_)
  rcases hp with ⟨rfl, rfl, h1, h2⟩ | ⟨rfl, rfl, h3⟩ | ⟨rfl, rfl, h4⟩
  · refine J_nf (nh2 := nh) (ck2 := 0) (sk2 := 0) (st2 := [.int (zI 1)]) rfl rfl rfl rfl ?_
    refine Z_if_eq (tgt := 21) dX12_drunk_7 (by decide) v_4dcc24baa7 (fun h5 => absurd h5 v_3a47bfd896) (fun h5 => ?_)
    refine J_iload_n dX12_drunk_10 rfl rfl ?_
    refine Z_iconst (n := 0) dX12_drunk_11 ?_
    refine Z_sipush (n := 500) dX12_drunk_12 (by decide +kernel) ?_
    refine J_callS (st := []) dX12_drunk_15 cs_X12_138 (k_lies v 0 500 q2 v_b17331891f v_592b6f0a00) rfl rfl (Nat.le_of_ble_eq_true rfl) ⟨(Nat.le_of_ble_eq_true rfl), (Nat.le_of_ble_eq_true rfl)⟩ ⟨(Nat.le_of_ble_eq_true rfl), (Nat.le_of_ble_eq_true rfl)⟩ (fun r h9 hp => ?_)
    rcases hp with ⟨rfl, rfl, h6, h7⟩ | ⟨rfl, rfl, h8⟩ | ⟨rfl, rfl, h9⟩
    · refine J_nf (nh2 := nh) (ck2 := 0) (sk2 := 0) (st2 := [.int (zI 1)]) rfl rfl rfl rfl ?_
      refine Z_if_ne (tgt := 27) dX12_drunk_18 (by decide) v_4dcc24baa7 (fun h10 => ?_) (fun h10 => absurd h10 v_3a47bfd896)
      refine J_aload_n dX12_drunk_27 rfl rfl ?_
      refine J_iload_n dX12_drunk_28 rfl rfl ?_
      refine J_callV (st := []) dX12_drunk_29 cv_X12_325 (k_isHouse y ms mv mt mfa mtn mtk mlv mbd mgo mge mbk mtt mtl hm pm hb sb mfu mdm mla K co cd of q1 q5.1 q6 q7 q8 q9 hk98 hk100 hk110 hk111 hk117) hk98 rfl rfl (Nat.le_of_ble_eq_true rfl) ⟨(Nat.le_of_ble_eq_true rfl), (Nat.le_of_ble_eq_true rfl)⟩ ⟨(Nat.le_of_ble_eq_true rfl), (Nat.le_of_ble_eq_true rfl)⟩ (fun r h9 hp => ?_)
      rcases hp with ⟨z11, z12, z13, f14, f15, f16, rfl, rfl, h17, h18, h19, h20, h21, h22, h23, h24, h25, h26, h27⟩ | ⟨z28, z29, z30, f31, f32, f33, rfl, rfl, h34, h35, h36, h37, h38, h39, h40, h41, h42, h43⟩ | ⟨z44, z45, z46, f47, f48, f49, rfl, rfl, h50, h51, h52, h53, h54, h55, h56, h57, h58, h59⟩
      · refine J_nf (nh2 := nh) (ck2 := 0) (sk2 := 0) (st2 := [.int (zI 1)]) rfl rfl rfl rfl ?_
        refine J_app (L3 := [(98, .inr (12, (.int (zI ms) :: .int (zI mv) :: .ref 99 :: .ref 100 :: .ref 101 :: .ref 102 :: .ref 103 :: .ref 104 :: .ref 105 :: .int (zI mt) :: .int (zI mfa) :: .ref 106 :: .ref 107 :: .ref 108 :: .int (zI mtn) :: .int (zI mtk) :: .int (zI mlv) :: .int (zI mbd) :: .int (zI mgo) :: .int (zI mge) :: .int (zI mbk) :: .ref 109 :: .int (zI mtt) :: .int (zI mtl) :: .ref 110 :: .ref 111 :: .ref 112 :: .ref 113 :: .ref 114 :: .ref 115 :: .ref 116 :: .ref 117 :: .int (zI z11) :: .int (zI z12) :: .int (zI z13) :: .int (zI sb) :: .ref 118 :: .ref 119 :: .ref 120 :: .ref 121 :: .ref 122 :: .ref 123 :: .ref 124 :: .ref 125 :: .ref 126 :: .ref 127 :: .ref 128 :: .ref 129 :: .int (zI mfu) :: .ref 130 :: .ref 131 :: .ref 132 :: .ref 133 :: .ref 134 :: .int (zI mdm) :: .int (zI mla) :: []))), (110, .inl (0, 8820, .inl (zA f14))), (111, .inl (0, 1260, .inl (zA f15))), (117, .inl (0, 7, .inl (zA f16)))]) rfl ?_
        refine Z_if_ne (tgt := 42) dX12_drunk_32 (by decide) v_4dcc24baa7 (fun h60 => ?_) (fun h60 => absurd h60 v_3a47bfd896)
        refine J_aload_n dX12_drunk_42 rfl rfl ?_
        refine J_callV (st := []) dX12_drunk_43 cv_X12_328 (k_looks ms mv mt mfa mtn mtk mlv mbd mgo mge mbk mtt mtl z11 z12 z13 sb mfu mdm mla K f14 f15 f16 st tk sm cf cm aq q5 h20 (v_621074fb26 q8 h25) q8 (fun _ => ⟨h19, h17, h18⟩) q10 q11 (v_94d6d099ed h25) q13 q14 q15 q16 rfl hk100 rfl rfl rfl hk112 hk113 hk114 hk115 hk116 hk109) rfl rfl rfl (Nat.le_of_ble_eq_true rfl) ⟨(Nat.le_of_ble_eq_true rfl), (Nat.le_of_ble_eq_true rfl)⟩ ⟨(Nat.le_of_ble_eq_true rfl), (Nat.le_of_ble_eq_true rfl)⟩ (fun r h9 hp => ?_)
        obtain ⟨z61, z62, z63, f64, f65, f66, z67, f68, f69, f70, f71, f72, f73, z74, z75, z76, z77, z78, rfl, rfl, h79, h80, h81, h82, h83, h84, h85, h86, h87, h88, h89, h90, h91, h92, h93⟩ := hp
        refine J_nf (nh2 := nh) (ck2 := 0) (sk2 := 0) (st2 := []) rfl rfl rfl rfl ?_
        refine J_app (L3 := [(98, .inr (12, (.int (zI ms) :: .int (zI mv) :: .ref 99 :: .ref 100 :: .ref 101 :: .ref 102 :: .ref 103 :: .ref 104 :: .ref 105 :: .int (zI mt) :: .int (zI mfa) :: .ref 106 :: .ref 107 :: .ref 108 :: .int (zI mtn) :: .int (zI mtk) :: .int (zI mlv) :: .int (zI mbd) :: .int (zI z74) :: .int (zI z75) :: .int (zI z76) :: .ref 109 :: .int (zI z77) :: .int (zI z78) :: .ref 110 :: .ref 111 :: .ref 112 :: .ref 113 :: .ref 114 :: .ref 115 :: .ref 116 :: .ref 117 :: .int (zI z61) :: .int (zI z62) :: .int (zI z63) :: .int (zI z67) :: .ref 118 :: .ref 119 :: .ref 120 :: .ref 121 :: .ref 122 :: .ref 123 :: .ref 124 :: .ref 125 :: .ref 126 :: .ref 127 :: .ref 128 :: .ref 129 :: .int (zI mfu) :: .ref 130 :: .ref 131 :: .ref 132 :: .ref 133 :: .ref 134 :: .int (zI mdm) :: .int (zI mla) :: []))), (110, .inl (0, 8820, .inl (zA f64))), (111, .inl (0, 1260, .inl (zA f65))), (117, .inl (0, 7, .inl (zA f66))), (112, .inl (0, 27720, .inl (zA f68))), (113, .inl (0, 27720, .inl (zA f69))), (114, .inl (0, 1260, .inl (zA f70))), (115, .inl (0, 27720, .inl (zA f71))), (116, .inl (0, 1260, .inl (zA f72))), (109, .inl (0, 8, .inl (zA f73))), (98, .inr (12, (.int (zI ms) :: .int (zI mv) :: .ref 99 :: .ref 100 :: .ref 101 :: .ref 102 :: .ref 103 :: .ref 104 :: .ref 105 :: .int (zI mt) :: .int (zI mfa) :: .ref 106 :: .ref 107 :: .ref 108 :: .int (zI mtn) :: .int (zI mtk) :: .int (zI mlv) :: .int (zI mbd) :: .int (zI mgo) :: .int (zI mge) :: .int (zI mbk) :: .ref 109 :: .int (zI mtt) :: .int (zI mtl) :: .ref 110 :: .ref 111 :: .ref 112 :: .ref 113 :: .ref 114 :: .ref 115 :: .ref 116 :: .ref 117 :: .int (zI z11) :: .int (zI z12) :: .int (zI z13) :: .int (zI sb) :: .ref 118 :: .ref 119 :: .ref 120 :: .ref 121 :: .ref 122 :: .ref 123 :: .ref 124 :: .ref 125 :: .ref 126 :: .ref 127 :: .ref 128 :: .ref 129 :: .int (zI mfu) :: .ref 130 :: .ref 131 :: .ref 132 :: .ref 133 :: .ref 134 :: .int (zI mdm) :: .int (zI mla) :: []))), (110, .inl (0, 8820, .inl (zA f14))), (111, .inl (0, 1260, .inl (zA f15))), (117, .inl (0, 7, .inl (zA f16)))]) rfl ?_
        refine J_mask (L2 := [(98, .inr (12, (.int (zI ms) :: .int (zI mv) :: .ref 99 :: .ref 100 :: .ref 101 :: .ref 102 :: .ref 103 :: .ref 104 :: .ref 105 :: .int (zI mt) :: .int (zI mfa) :: .ref 106 :: .ref 107 :: .ref 108 :: .int (zI mtn) :: .int (zI mtk) :: .int (zI mlv) :: .int (zI mbd) :: .int (zI z74) :: .int (zI z75) :: .int (zI z76) :: .ref 109 :: .int (zI z77) :: .int (zI z78) :: .ref 110 :: .ref 111 :: .ref 112 :: .ref 113 :: .ref 114 :: .ref 115 :: .ref 116 :: .ref 117 :: .int (zI z61) :: .int (zI z62) :: .int (zI z63) :: .int (zI z67) :: .ref 118 :: .ref 119 :: .ref 120 :: .ref 121 :: .ref 122 :: .ref 123 :: .ref 124 :: .ref 125 :: .ref 126 :: .ref 127 :: .ref 128 :: .ref 129 :: .int (zI mfu) :: .ref 130 :: .ref 131 :: .ref 132 :: .ref 133 :: .ref 134 :: .int (zI mdm) :: .int (zI mla) :: []))), (110, .inl (0, 8820, .inl (zA f64))), (111, .inl (0, 1260, .inl (zA f65))), (117, .inl (0, 7, .inl (zA f66))), (112, .inl (0, 27720, .inl (zA f68))), (113, .inl (0, 27720, .inl (zA f69))), (114, .inl (0, 1260, .inl (zA f70))), (115, .inl (0, 27720, .inl (zA f71))), (116, .inl (0, 1260, .inl (zA f72))), (109, .inl (0, 8, .inl (zA f73)))]) (ks := [98, 110, 111, 117, 112, 113, 114, 115, 116, 109, 98, 110, 111, 117]) [true, true, true, true, true, true, true, true, true, true, false, false, false, false] rfl (by decide +kernel) rfl ?_
        refine J_aload_n dX12_drunk_46 rfl rfl ?_
        refine J_iload_n dX12_drunk_47 rfl rfl ?_
        refine K_put (fs2 := (.int (zI ms) :: .int (zI mv) :: .ref 99 :: .ref 100 :: .ref 101 :: .ref 102 :: .ref 103 :: .ref 104 :: .ref 105 :: .int (zI mt) :: .int (zI mfa) :: .ref 106 :: .ref 107 :: .ref 108 :: .int (zI mtn) :: .int (zI mtk) :: .int (zI mlv) :: .int (zI mbd) :: .int (zI z74) :: .int (zI z75) :: .int (zI z76) :: .ref 109 :: .int (zI z77) :: .int (zI z78) :: .ref 110 :: .ref 111 :: .ref 112 :: .ref 113 :: .ref 114 :: .ref 115 :: .ref 116 :: .ref 117 :: .int (zI z61) :: .int (zI z62) :: .int (zI z63) :: .int (zI z67) :: .ref 118 :: .ref 119 :: .ref 120 :: .ref 121 :: .ref 122 :: .ref 123 :: .ref 124 :: .ref 125 :: .ref 126 :: .ref 127 :: .ref 128 :: .ref 129 :: .int (zI mfu) :: .ref 130 :: .ref 131 :: .ref 132 :: .ref 133 :: .ref 134 :: .int (zI mdm) :: .int (zI x) :: [])) dX12_drunk_48 fw_X12_368 rfl (Nat.le_of_ble_eq_true rfl) (fun _ => ⟨rfl, rfl⟩) rfl ?_
        refine J_aload_n dX12_drunk_51 rfl rfl ?_
        refine J_aload_n dX12_drunk_52 rfl rfl ?_
        refine J_get (v := .int (zI z61)) dX12_drunk_53 fl_X12_298 rfl rfl ?_
        refine K_put (fs2 := (.int (zI ms) :: .int (zI mv) :: .ref 99 :: .ref 100 :: .ref 101 :: .ref 102 :: .ref 103 :: .ref 104 :: .ref 105 :: .int (zI mt) :: .int (zI mfa) :: .ref 106 :: .ref 107 :: .ref 108 :: .int (zI mtn) :: .int (zI mtk) :: .int (zI mlv) :: .int (zI mbd) :: .int (zI z74) :: .int (zI z75) :: .int (zI z76) :: .ref 109 :: .int (zI z77) :: .int (zI z78) :: .ref 110 :: .ref 111 :: .ref 112 :: .ref 113 :: .ref 114 :: .ref 115 :: .ref 116 :: .ref 117 :: .int (zI z61) :: .int (zI z62) :: .int (zI z63) :: .int (zI z67) :: .ref 118 :: .ref 119 :: .ref 120 :: .ref 121 :: .ref 122 :: .ref 123 :: .ref 124 :: .ref 125 :: .ref 126 :: .ref 127 :: .ref 128 :: .ref 129 :: .int (zI mfu) :: .ref 130 :: .ref 131 :: .ref 132 :: .ref 133 :: .ref 134 :: .int (zI z61) :: .int (zI x) :: [])) dX12_drunk_56 fw_X12_375 rfl (Nat.le_of_ble_eq_true rfl) (fun _ => ⟨rfl, rfl⟩) rfl ?_
        refine Z_iconst (n := 0) dX12_drunk_59 ?_
        refine J_istore dX12_drunk_60 (Nat.le_of_ble_eq_true rfl) rfl ?_
        refine J_ls (ls2 := [some (.ref 98), some (.int (zI x)), some (.int (zI y)), some (.int (zI v)), some (.int (zI 0)), none]) rfl ?_
        refine J_touch (k := 134) (e := .inl (0, 1260, .inl (zA dt))) hk134 ?_
        refine J_mask (L2 := [(134, .inl (0, 1260, .inl (zA dt))), (98, .inr (12, (.int (zI ms) :: .int (zI mv) :: .ref 99 :: .ref 100 :: .ref 101 :: .ref 102 :: .ref 103 :: .ref 104 :: .ref 105 :: .int (zI mt) :: .int (zI mfa) :: .ref 106 :: .ref 107 :: .ref 108 :: .int (zI mtn) :: .int (zI mtk) :: .int (zI mlv) :: .int (zI mbd) :: .int (zI z74) :: .int (zI z75) :: .int (zI z76) :: .ref 109 :: .int (zI z77) :: .int (zI z78) :: .ref 110 :: .ref 111 :: .ref 112 :: .ref 113 :: .ref 114 :: .ref 115 :: .ref 116 :: .ref 117 :: .int (zI z61) :: .int (zI z62) :: .int (zI z63) :: .int (zI z67) :: .ref 118 :: .ref 119 :: .ref 120 :: .ref 121 :: .ref 122 :: .ref 123 :: .ref 124 :: .ref 125 :: .ref 126 :: .ref 127 :: .ref 128 :: .ref 129 :: .int (zI mfu) :: .ref 130 :: .ref 131 :: .ref 132 :: .ref 133 :: .ref 134 :: .int (zI z61) :: .int (zI x) :: []))), (110, .inl (0, 8820, .inl (zA f64))), (111, .inl (0, 1260, .inl (zA f65))), (117, .inl (0, 7, .inl (zA f66))), (112, .inl (0, 27720, .inl (zA f68))), (113, .inl (0, 27720, .inl (zA f69))), (114, .inl (0, 1260, .inl (zA f70))), (115, .inl (0, 27720, .inl (zA f71))), (116, .inl (0, 1260, .inl (zA f72))), (109, .inl (0, 8, .inl (zA f73)))]) (ks := [134, 98, 98, 98, 110, 111, 117, 112, 113, 114, 115, 116, 109]) [true, true, false, false, true, true, true, true, true, true, true, true, true] rfl (by decide +kernel) rfl ?_
        have lp62 : ∀ (N62 : Nat) (h_62 : Int) (d_62 : Int → Int), (0 ≤ h_62) → (h_62 ≤ z61) → (Rg d_62 h_62 0 0) → (z61 - h_62).toNat < N62 → J l G MX12_drunk { frames := 43, cells := 0, slots := 0, locals := 1018 } jE (jMQ G { frames := 43, cells := 0, slots := 0, locals := 1018 } (fun rr h9 => ∃ r : Int, ∃ hm2 : Int, ∃ pm2 : Int, ∃ hb2 : Int, ∃ co2 : Int → Int, ∃ cd2 : Int → Int, ∃ of2 : Int → Int, ∃ sb2 : Int, ∃ st2 : Int → Int, ∃ tk2 : Int → Int, ∃ sm2 : Int → Int, ∃ cf2 : Int → Int, ∃ cm2 : Int → Int, ∃ aq2 : Int → Int, ∃ go2 : Int, ∃ ge2 : Int, ∃ bk2 : Int, ∃ tt2 : Int, ∃ tl2 : Int, ∃ dt2 : Int → Int, ∃ rg7 : Int → Int, ∃ ms2 : Int, ∃ mv2 : Int, ∃ la2 : Int, ∃ dm2 : Int, rr = some (.int (zI r)) ∧ h9 = (nh, hc fh [(98, .inr (12, (.int (zI ms2) :: .int (zI mv2) :: .ref 99 :: .ref 100 :: .ref 101 :: .ref 102 :: .ref 103 :: .ref 104 :: .ref 105 :: .int (zI mt) :: .int (zI mfa) :: .ref 106 :: .ref 107 :: .ref 108 :: .int (zI mtn) :: .int (zI mtk) :: .int (zI mlv) :: .int (zI mbd) :: .int (zI go2) :: .int (zI ge2) :: .int (zI bk2) :: .ref 109 :: .int (zI tt2) :: .int (zI tl2) :: .ref 110 :: .ref 111 :: .ref 112 :: .ref 113 :: .ref 114 :: .ref 115 :: .ref 116 :: .ref 117 :: .int (zI hm2) :: .int (zI pm2) :: .int (zI hb2) :: .int (zI sb2) :: .ref 118 :: .ref 119 :: .ref 120 :: .ref 121 :: .ref 122 :: .ref 123 :: .ref 124 :: .ref 125 :: .ref 126 :: .ref 127 :: .ref 128 :: .ref 129 :: .int (zI mfu) :: .ref 130 :: .ref 131 :: .ref 132 :: .ref 133 :: .ref 134 :: .int (zI dm2) :: .int (zI la2) :: []))), (110, .inl (0, 8820, .inl (zA co2))), (111, .inl (0, 1260, .inl (zA cd2))), (117, .inl (0, 7, .inl (zA of2))), (112, .inl (0, 27720, .inl (zA st2))), (113, .inl (0, 27720, .inl (zA tk2))), (114, .inl (0, 1260, .inl (zA sm2))), (115, .inl (0, 27720, .inl (zA cf2))), (116, .inl (0, 1260, .inl (zA cm2))), (109, .inl (0, 8, .inl (zA aq2))), (134, .inl (0, 1260, .inl (zA dt2))), (99, .inl (0, 7, .inl (zA rg7)))]) ∧ (Rg of2 7 0 4) ∧ (zr hb2) ∧ (hb2 = mv → HouT co2 cd2 K hm2 ∧ hm2 = Hi K ∧ pm2 = bsum K) ∧ (zr sb2) ∧ (sb2 = mv → StM st2 tk2 sm2 (Hi K) ∧ CoM cf2 cm2 st2 sm2 (Hi K)) ∧ (hb2 ≤ mv) ∧ (sb2 ≤ mv) ∧ (0 ≤ bk2) ∧ (bk2 ≤ 1) ∧ (Rg aq2 8 (-2147483648) 2147483647) ∧ (mv ≤ mv2) ∧ (mv2 ≤ mv + 1) ∧ (0 ≤ dm2) ∧ (dm2 ≤ 1260))) (nh, hc fh [(134, .inl (0, 1260, .inl (zA d_62))), (98, .inr (12, (.int (zI ms) :: .int (zI mv) :: .ref 99 :: .ref 100 :: .ref 101 :: .ref 102 :: .ref 103 :: .ref 104 :: .ref 105 :: .int (zI mt) :: .int (zI mfa) :: .ref 106 :: .ref 107 :: .ref 108 :: .int (zI mtn) :: .int (zI mtk) :: .int (zI mlv) :: .int (zI mbd) :: .int (zI z74) :: .int (zI z75) :: .int (zI z76) :: .ref 109 :: .int (zI z77) :: .int (zI z78) :: .ref 110 :: .ref 111 :: .ref 112 :: .ref 113 :: .ref 114 :: .ref 115 :: .ref 116 :: .ref 117 :: .int (zI z61) :: .int (zI z62) :: .int (zI z63) :: .int (zI z67) :: .ref 118 :: .ref 119 :: .ref 120 :: .ref 121 :: .ref 122 :: .ref 123 :: .ref 124 :: .ref 125 :: .ref 126 :: .ref 127 :: .ref 128 :: .ref 129 :: .int (zI mfu) :: .ref 130 :: .ref 131 :: .ref 132 :: .ref 133 :: .ref 134 :: .int (zI z61) :: .int (zI x) :: []))), (110, .inl (0, 8820, .inl (zA f64))), (111, .inl (0, 1260, .inl (zA f65))), (117, .inl (0, 7, .inl (zA f66))), (112, .inl (0, 27720, .inl (zA f68))), (113, .inl (0, 27720, .inl (zA f69))), (114, .inl (0, 1260, .inl (zA f70))), (115, .inl (0, 27720, .inl (zA f71))), (116, .inl (0, 1260, .inl (zA f72))), (109, .inl (0, 8, .inl (zA f73)))]) 0 0 62 [some (.ref 98), some (.int (zI x)), some (.int (zI y)), some (.int (zI v)), some (.int (zI h_62)), none] [] := by
          intro N62
          induction N62 with
          | zero => intro h_62 d_62 i62_0 i62_1 i62_2 hm; exact absurd hm (Nat.not_lt_zero _)
          | succ N62 ih62 =>
            intro h_62 d_62 i62_0 i62_1 i62_2 hm62
            refine J_iload dX12_drunk_62 rfl ?_
            refine J_aload_n dX12_drunk_64 rfl rfl ?_
            refine J_get (v := .int (zI z61)) dX12_drunk_65 fl_X12_298 rfl rfl ?_
            refine Z_icmp_ge (tgt := 85) dX12_drunk_68 (by decide) (v_c9ca704c4d h84 i62_0 i62_1) (v_81c6732ede h83 h84) (fun h94 => ?_) (fun h94 => ?_)
            · refine J_iload_n dX12_drunk_85 rfl rfl ?_
              refine J_istore dX12_drunk_86 (Nat.le_of_ble_eq_true rfl) rfl ?_
              refine J_ls (ls2 := [some (.ref 98), some (.int (zI x)), some (.int (zI y)), some (.int (zI v)), some (.int (zI y)), none]) rfl ?_
              refine J_aload_n dX12_drunk_88 rfl rfl ?_
              refine J_get (v := .ref 134) dX12_drunk_89 fl_X12_135 rfl rfl ?_
              refine J_iload dX12_drunk_92 rfl ?_
              refine J_dup2_11 dX12_drunk_94 rfl rfl ?_
              obtain ⟨z95, ez95⟩ : ∃ z : Int, d_62 y = z := ⟨_, rfl⟩
              have h96 := Rg.at i62_2 (v_2b02420001 h26) (v_fcf9082196 h17 h27 h79 h94) ez95
              refine Y_iald (z := z95) 1260 dX12_drunk_95 rfl rfl (by decide) (v_2b02420001 h26) (v_1c8b2a3f47 h22 h27) ez95 ?_
              refine Z_iconst (n := 1) dX12_drunk_96 ?_
              refine Z_iadd (c := z95 + 1) dX12_drunk_97 rfl ?_
              refine Y_iast (v := z95 + 1) 1260 dX12_drunk_98 rfl rfl (by decide) (v_2b02420001 h26) (v_1c8b2a3f47 h22 h27) (fun f97 ef97 => ?_)
              refine Z_iconst (n := 0) dX12_drunk_99 ?_
              refine J_istore dX12_drunk_100 (Nat.le_of_ble_eq_true rfl) rfl ?_
              refine J_ls (ls2 := [some (.ref 98), some (.int (zI x)), some (.int (zI y)), some (.int (zI v)), some (.int (zI y)), some (.int (zI 0))]) rfl ?_
              refine J_mask (L2 := [(134, .inl (0, 1260, .inl (zA f97))), (98, .inr (12, (.int (zI ms) :: .int (zI mv) :: .ref 99 :: .ref 100 :: .ref 101 :: .ref 102 :: .ref 103 :: .ref 104 :: .ref 105 :: .int (zI mt) :: .int (zI mfa) :: .ref 106 :: .ref 107 :: .ref 108 :: .int (zI mtn) :: .int (zI mtk) :: .int (zI mlv) :: .int (zI mbd) :: .int (zI z74) :: .int (zI z75) :: .int (zI z76) :: .ref 109 :: .int (zI z77) :: .int (zI z78) :: .ref 110 :: .ref 111 :: .ref 112 :: .ref 113 :: .ref 114 :: .ref 115 :: .ref 116 :: .ref 117 :: .int (zI z61) :: .int (zI z62) :: .int (zI z63) :: .int (zI z67) :: .ref 118 :: .ref 119 :: .ref 120 :: .ref 121 :: .ref 122 :: .ref 123 :: .ref 124 :: .ref 125 :: .ref 126 :: .ref 127 :: .ref 128 :: .ref 129 :: .int (zI mfu) :: .ref 130 :: .ref 131 :: .ref 132 :: .ref 133 :: .ref 134 :: .int (zI z61) :: .int (zI x) :: []))), (110, .inl (0, 8820, .inl (zA f64))), (111, .inl (0, 1260, .inl (zA f65))), (117, .inl (0, 7, .inl (zA f66))), (112, .inl (0, 27720, .inl (zA f68))), (113, .inl (0, 27720, .inl (zA f69))), (114, .inl (0, 1260, .inl (zA f70))), (115, .inl (0, 27720, .inl (zA f71))), (116, .inl (0, 1260, .inl (zA f72))), (109, .inl (0, 8, .inl (zA f73)))]) (ks := [134, 134, 98, 110, 111, 117, 112, 113, 114, 115, 116, 109]) [true, false, true, true, true, true, true, true, true, true, true, true] rfl (by decide +kernel) rfl ?_
              have lp102 : ∀ (N102 : Nat) (at_102 : Int) (k_102 : Int) (d_102 : Int → Int) (la_102 : Int), (0 ≤ k_102) → (k_102 ≤ v) → (0 ≤ at_102) → (at_102 < z61) → (0 ≤ la_102) → (la_102 ≤ 1000003) → (v - k_102).toNat < N102 → J l G MX12_drunk { frames := 43, cells := 0, slots := 0, locals := 1018 } jE (jMQ G { frames := 43, cells := 0, slots := 0, locals := 1018 } (fun rr h9 => ∃ r : Int, ∃ hm2 : Int, ∃ pm2 : Int, ∃ hb2 : Int, ∃ co2 : Int → Int, ∃ cd2 : Int → Int, ∃ of2 : Int → Int, ∃ sb2 : Int, ∃ st2 : Int → Int, ∃ tk2 : Int → Int, ∃ sm2 : Int → Int, ∃ cf2 : Int → Int, ∃ cm2 : Int → Int, ∃ aq2 : Int → Int, ∃ go2 : Int, ∃ ge2 : Int, ∃ bk2 : Int, ∃ tt2 : Int, ∃ tl2 : Int, ∃ dt2 : Int → Int, ∃ rg7 : Int → Int, ∃ ms2 : Int, ∃ mv2 : Int, ∃ la2 : Int, ∃ dm2 : Int, rr = some (.int (zI r)) ∧ h9 = (nh, hc fh [(98, .inr (12, (.int (zI ms2) :: .int (zI mv2) :: .ref 99 :: .ref 100 :: .ref 101 :: .ref 102 :: .ref 103 :: .ref 104 :: .ref 105 :: .int (zI mt) :: .int (zI mfa) :: .ref 106 :: .ref 107 :: .ref 108 :: .int (zI mtn) :: .int (zI mtk) :: .int (zI mlv) :: .int (zI mbd) :: .int (zI go2) :: .int (zI ge2) :: .int (zI bk2) :: .ref 109 :: .int (zI tt2) :: .int (zI tl2) :: .ref 110 :: .ref 111 :: .ref 112 :: .ref 113 :: .ref 114 :: .ref 115 :: .ref 116 :: .ref 117 :: .int (zI hm2) :: .int (zI pm2) :: .int (zI hb2) :: .int (zI sb2) :: .ref 118 :: .ref 119 :: .ref 120 :: .ref 121 :: .ref 122 :: .ref 123 :: .ref 124 :: .ref 125 :: .ref 126 :: .ref 127 :: .ref 128 :: .ref 129 :: .int (zI mfu) :: .ref 130 :: .ref 131 :: .ref 132 :: .ref 133 :: .ref 134 :: .int (zI dm2) :: .int (zI la2) :: []))), (110, .inl (0, 8820, .inl (zA co2))), (111, .inl (0, 1260, .inl (zA cd2))), (117, .inl (0, 7, .inl (zA of2))), (112, .inl (0, 27720, .inl (zA st2))), (113, .inl (0, 27720, .inl (zA tk2))), (114, .inl (0, 1260, .inl (zA sm2))), (115, .inl (0, 27720, .inl (zA cf2))), (116, .inl (0, 1260, .inl (zA cm2))), (109, .inl (0, 8, .inl (zA aq2))), (134, .inl (0, 1260, .inl (zA dt2))), (99, .inl (0, 7, .inl (zA rg7)))]) ∧ (Rg of2 7 0 4) ∧ (zr hb2) ∧ (hb2 = mv → HouT co2 cd2 K hm2 ∧ hm2 = Hi K ∧ pm2 = bsum K) ∧ (zr sb2) ∧ (sb2 = mv → StM st2 tk2 sm2 (Hi K) ∧ CoM cf2 cm2 st2 sm2 (Hi K)) ∧ (hb2 ≤ mv) ∧ (sb2 ≤ mv) ∧ (0 ≤ bk2) ∧ (bk2 ≤ 1) ∧ (Rg aq2 8 (-2147483648) 2147483647) ∧ (mv ≤ mv2) ∧ (mv2 ≤ mv + 1) ∧ (0 ≤ dm2) ∧ (dm2 ≤ 1260))) (nh, hc fh [(134, .inl (0, 1260, .inl (zA d_102))), (98, .inr (12, (.int (zI ms) :: .int (zI mv) :: .ref 99 :: .ref 100 :: .ref 101 :: .ref 102 :: .ref 103 :: .ref 104 :: .ref 105 :: .int (zI mt) :: .int (zI mfa) :: .ref 106 :: .ref 107 :: .ref 108 :: .int (zI mtn) :: .int (zI mtk) :: .int (zI mlv) :: .int (zI mbd) :: .int (zI z74) :: .int (zI z75) :: .int (zI z76) :: .ref 109 :: .int (zI z77) :: .int (zI z78) :: .ref 110 :: .ref 111 :: .ref 112 :: .ref 113 :: .ref 114 :: .ref 115 :: .ref 116 :: .ref 117 :: .int (zI z61) :: .int (zI z62) :: .int (zI z63) :: .int (zI z67) :: .ref 118 :: .ref 119 :: .ref 120 :: .ref 121 :: .ref 122 :: .ref 123 :: .ref 124 :: .ref 125 :: .ref 126 :: .ref 127 :: .ref 128 :: .ref 129 :: .int (zI mfu) :: .ref 130 :: .ref 131 :: .ref 132 :: .ref 133 :: .ref 134 :: .int (zI z61) :: .int (zI la_102) :: []))), (110, .inl (0, 8820, .inl (zA f64))), (111, .inl (0, 1260, .inl (zA f65))), (117, .inl (0, 7, .inl (zA f66))), (112, .inl (0, 27720, .inl (zA f68))), (113, .inl (0, 27720, .inl (zA f69))), (114, .inl (0, 1260, .inl (zA f70))), (115, .inl (0, 27720, .inl (zA f71))), (116, .inl (0, 1260, .inl (zA f72))), (109, .inl (0, 8, .inl (zA f73)))]) 0 0 102 [some (.ref 98), some (.int (zI x)), some (.int (zI y)), some (.int (zI v)), some (.int (zI at_102)), some (.int (zI k_102))] [] := by
                intro N102
                induction N102 with
                | zero => intro at_102 k_102 d_102 la_102 i102_0 i102_1 i102_2 i102_3 i102_4 i102_5 hm; exact absurd hm (Nat.not_lt_zero _)
                | succ N102 ih102 =>
                  intro at_102 k_102 d_102 la_102 i102_0 i102_1 i102_2 i102_3 i102_4 i102_5 hm102
                  refine J_iload dX12_drunk_102 rfl ?_
                  refine J_iload_n dX12_drunk_104 rfl rfl ?_
                  refine Z_icmp_ge (tgt := 159) dX12_drunk_105 (by decide) (v_43c9c4ae23 h7 i102_0 i102_1) (v_a4760d658d h6 h7) (fun h99 => ?_) (fun h99 => ?_)
                  · refine J_aload_n dX12_drunk_159 rfl rfl ?_
                    refine J_iload dX12_drunk_160 rfl ?_
                    refine J_callV (st := []) dX12_drunk_162 cv_X12_146 (k_good at_102 ms mv mt mfa mtn mtk mlv mbd z74 z75 z76 z77 z78 z61 z62 z63 z67 mfu z61 la_102 rfl) rfl rfl rfl (Nat.le_of_ble_eq_true rfl) ⟨(Nat.le_of_ble_eq_true rfl), (Nat.le_of_ble_eq_true rfl)⟩ ⟨(Nat.le_of_ble_eq_true rfl), (Nat.le_of_ble_eq_true rfl)⟩ (fun r h9 hp => ?_)
                    obtain ⟨rfl, rfl⟩ := hp
                    refine J_nf (nh2 := nh) (ck2 := 0) (sk2 := 0) (st2 := [.int (zI at_102)]) rfl rfl rfl rfl ?_
                    refine J_app (L3 := [(98, .inr (12, (.int (zI 0) :: .int (zI (mv + 1)) :: .ref 99 :: .ref 100 :: .ref 101 :: .ref 102 :: .ref 103 :: .ref 104 :: .ref 105 :: .int (zI mt) :: .int (zI mfa) :: .ref 106 :: .ref 107 :: .ref 108 :: .int (zI mtn) :: .int (zI mtk) :: .int (zI mlv) :: .int (zI mbd) :: .int (zI z74) :: .int (zI z75) :: .int (zI z76) :: .ref 109 :: .int (zI z77) :: .int (zI z78) :: .ref 110 :: .ref 111 :: .ref 112 :: .ref 113 :: .ref 114 :: .ref 115 :: .ref 116 :: .ref 117 :: .int (zI z61) :: .int (zI z62) :: .int (zI z63) :: .int (zI z67) :: .ref 118 :: .ref 119 :: .ref 120 :: .ref 121 :: .ref 122 :: .ref 123 :: .ref 124 :: .ref 125 :: .ref 126 :: .ref 127 :: .ref 128 :: .ref 129 :: .int (zI mfu) :: .ref 130 :: .ref 131 :: .ref 132 :: .ref 133 :: .ref 134 :: .int (zI z61) :: .int (zI la_102) :: []))), (134, .inl (0, 1260, .inl (zA d_102))), (98, .inr (12, (.int (zI ms) :: .int (zI mv) :: .ref 99 :: .ref 100 :: .ref 101 :: .ref 102 :: .ref 103 :: .ref 104 :: .ref 105 :: .int (zI mt) :: .int (zI mfa) :: .ref 106 :: .ref 107 :: .ref 108 :: .int (zI mtn) :: .int (zI mtk) :: .int (zI mlv) :: .int (zI mbd) :: .int (zI z74) :: .int (zI z75) :: .int (zI z76) :: .ref 109 :: .int (zI z77) :: .int (zI z78) :: .ref 110 :: .ref 111 :: .ref 112 :: .ref 113 :: .ref 114 :: .ref 115 :: .ref 116 :: .ref 117 :: .int (zI z61) :: .int (zI z62) :: .int (zI z63) :: .int (zI z67) :: .ref 118 :: .ref 119 :: .ref 120 :: .ref 121 :: .ref 122 :: .ref 123 :: .ref 124 :: .ref 125 :: .ref 126 :: .ref 127 :: .ref 128 :: .ref 129 :: .int (zI mfu) :: .ref 130 :: .ref 131 :: .ref 132 :: .ref 133 :: .ref 134 :: .int (zI z61) :: .int (zI la_102) :: []))), (110, .inl (0, 8820, .inl (zA f64))), (111, .inl (0, 1260, .inl (zA f65))), (117, .inl (0, 7, .inl (zA f66))), (112, .inl (0, 27720, .inl (zA f68))), (113, .inl (0, 27720, .inl (zA f69))), (114, .inl (0, 1260, .inl (zA f70))), (115, .inl (0, 27720, .inl (zA f71))), (116, .inl (0, 1260, .inl (zA f72))), (109, .inl (0, 8, .inl (zA f73)))]) rfl ?_
                    refine J_mask (L2 := [(98, .inr (12, (.int (zI 0) :: .int (zI (mv + 1)) :: .ref 99 :: .ref 100 :: .ref 101 :: .ref 102 :: .ref 103 :: .ref 104 :: .ref 105 :: .int (zI mt) :: .int (zI mfa) :: .ref 106 :: .ref 107 :: .ref 108 :: .int (zI mtn) :: .int (zI mtk) :: .int (zI mlv) :: .int (zI mbd) :: .int (zI z74) :: .int (zI z75) :: .int (zI z76) :: .ref 109 :: .int (zI z77) :: .int (zI z78) :: .ref 110 :: .ref 111 :: .ref 112 :: .ref 113 :: .ref 114 :: .ref 115 :: .ref 116 :: .ref 117 :: .int (zI z61) :: .int (zI z62) :: .int (zI z63) :: .int (zI z67) :: .ref 118 :: .ref 119 :: .ref 120 :: .ref 121 :: .ref 122 :: .ref 123 :: .ref 124 :: .ref 125 :: .ref 126 :: .ref 127 :: .ref 128 :: .ref 129 :: .int (zI mfu) :: .ref 130 :: .ref 131 :: .ref 132 :: .ref 133 :: .ref 134 :: .int (zI z61) :: .int (zI la_102) :: []))), (134, .inl (0, 1260, .inl (zA d_102))), (110, .inl (0, 8820, .inl (zA f64))), (111, .inl (0, 1260, .inl (zA f65))), (117, .inl (0, 7, .inl (zA f66))), (112, .inl (0, 27720, .inl (zA f68))), (113, .inl (0, 27720, .inl (zA f69))), (114, .inl (0, 1260, .inl (zA f70))), (115, .inl (0, 27720, .inl (zA f71))), (116, .inl (0, 1260, .inl (zA f72))), (109, .inl (0, 8, .inl (zA f73)))]) (ks := [98, 134, 98, 110, 111, 117, 112, 113, 114, 115, 116, 109]) [true, true, false, true, true, true, true, true, true, true, true, true] rfl (by decide +kernel) rfl ?_
                    refine J_touch (k := 99) (e := .inl (0, 7, .inl (zA rf7))) hk99 ?_
                    refine J_touch (k := 134) (e := .inl (0, 1260, .inl (zA d_102))) rfl ?_
                    refine J_touch (k := 109) (e := .inl (0, 8, .inl (zA f73))) rfl ?_
                    refine J_touch (k := 116) (e := .inl (0, 1260, .inl (zA f72))) rfl ?_
                    refine J_touch (k := 115) (e := .inl (0, 27720, .inl (zA f71))) rfl ?_
                    refine J_touch (k := 114) (e := .inl (0, 1260, .inl (zA f70))) rfl ?_
                    refine J_touch (k := 113) (e := .inl (0, 27720, .inl (zA f69))) rfl ?_
                    refine J_touch (k := 112) (e := .inl (0, 27720, .inl (zA f68))) rfl ?_
                    refine J_touch (k := 117) (e := .inl (0, 7, .inl (zA f66))) rfl ?_
                    refine J_touch (k := 111) (e := .inl (0, 1260, .inl (zA f65))) rfl ?_
                    refine J_touch (k := 110) (e := .inl (0, 8820, .inl (zA f64))) rfl ?_
                    refine J_touch (k := 98) (e := .inr (12, (.int (zI 0) :: .int (zI (mv + 1)) :: .ref 99 :: .ref 100 :: .ref 101 :: .ref 102 :: .ref 103 :: .ref 104 :: .ref 105 :: .int (zI mt) :: .int (zI mfa) :: .ref 106 :: .ref 107 :: .ref 108 :: .int (zI mtn) :: .int (zI mtk) :: .int (zI mlv) :: .int (zI mbd) :: .int (zI z74) :: .int (zI z75) :: .int (zI z76) :: .ref 109 :: .int (zI z77) :: .int (zI z78) :: .ref 110 :: .ref 111 :: .ref 112 :: .ref 113 :: .ref 114 :: .ref 115 :: .ref 116 :: .ref 117 :: .int (zI z61) :: .int (zI z62) :: .int (zI z63) :: .int (zI z67) :: .ref 118 :: .ref 119 :: .ref 120 :: .ref 121 :: .ref 122 :: .ref 123 :: .ref 124 :: .ref 125 :: .ref 126 :: .ref 127 :: .ref 128 :: .ref 129 :: .int (zI mfu) :: .ref 130 :: .ref 131 :: .ref 132 :: .ref 133 :: .ref 134 :: .int (zI z61) :: .int (zI la_102) :: []))) rfl ?_
                    refine J_mask (L2 := [(98, .inr (12, (.int (zI 0) :: .int (zI (mv + 1)) :: .ref 99 :: .ref 100 :: .ref 101 :: .ref 102 :: .ref 103 :: .ref 104 :: .ref 105 :: .int (zI mt) :: .int (zI mfa) :: .ref 106 :: .ref 107 :: .ref 108 :: .int (zI mtn) :: .int (zI mtk) :: .int (zI mlv) :: .int (zI mbd) :: .int (zI z74) :: .int (zI z75) :: .int (zI z76) :: .ref 109 :: .int (zI z77) :: .int (zI z78) :: .ref 110 :: .ref 111 :: .ref 112 :: .ref 113 :: .ref 114 :: .ref 115 :: .ref 116 :: .ref 117 :: .int (zI z61) :: .int (zI z62) :: .int (zI z63) :: .int (zI z67) :: .ref 118 :: .ref 119 :: .ref 120 :: .ref 121 :: .ref 122 :: .ref 123 :: .ref 124 :: .ref 125 :: .ref 126 :: .ref 127 :: .ref 128 :: .ref 129 :: .int (zI mfu) :: .ref 130 :: .ref 131 :: .ref 132 :: .ref 133 :: .ref 134 :: .int (zI z61) :: .int (zI la_102) :: []))), (110, .inl (0, 8820, .inl (zA f64))), (111, .inl (0, 1260, .inl (zA f65))), (117, .inl (0, 7, .inl (zA f66))), (112, .inl (0, 27720, .inl (zA f68))), (113, .inl (0, 27720, .inl (zA f69))), (114, .inl (0, 1260, .inl (zA f70))), (115, .inl (0, 27720, .inl (zA f71))), (116, .inl (0, 1260, .inl (zA f72))), (109, .inl (0, 8, .inl (zA f73))), (134, .inl (0, 1260, .inl (zA d_102))), (99, .inl (0, 7, .inl (zA rf7)))]) (ks := [98, 110, 111, 117, 112, 113, 114, 115, 116, 109, 134, 99, 98, 134, 110, 111, 117, 112, 113, 114, 115, 116, 109]) [true, true, true, true, true, true, true, true, true, true, true, true, false, false, false, false, false, false, false, false, false, false, false] rfl (by decide +kernel) rfl ?_
                    exact J_iret dX12_drunk_165 rfl rfl (Nat.le_of_ble_eq_true rfl) (Nat.le_of_ble_eq_true rfl) ⟨at_102, z61, z62, z63, f64, f65, f66, z67, f68, f69, f70, f71, f72, f73, z74, z75, z76, z77, z78, d_102, rf7, 0, (mv + 1), la_102, z61, rfl, rfl, h82, (v_621074fb26 q8 h87), (fun _ => ⟨h81, h79, h80⟩), (v_621074fb26 q8 h88), (fun _ => by rw [← h79]; exact ⟨h89, h90⟩), (v_94d6d099ed h87), (v_94d6d099ed h88), h91, h92, h93, v_32a28518ee, v_3410673be3, (v_632d2dbe78 h83), h84⟩
                  · refine J_aload_n dX12_drunk_108 rfl rfl ?_
                    refine J_get (v := .ref 114) dX12_drunk_109 fl_X12_67 rfl rfl ?_
                    refine J_iload dX12_drunk_112 rfl ?_
                    obtain ⟨z100, ez100⟩ : ∃ z : Int, f70 at_102 = z := ⟨_, rfl⟩
                    have h101 := StM.deg h89 (v_2b02420001 i102_2) (v_b9aca61388 i102_3) ez100
                    refine Y_iald (z := z100) 1260 dX12_drunk_114 rfl rfl (by decide) (v_2b02420001 i102_2) (v_1c8b2a3f47 h84 i102_3) ez100 ?_
                    refine Z_if_le (tgt := 142) dX12_drunk_115 (by decide) (v_ee6ec25f58 h101.1 h101.2) (fun h102 => ?_) (fun h102 => ?_)
                    · refine J_aload_n dX12_drunk_142 rfl rfl ?_
                      refine J_get (v := .ref 134) dX12_drunk_143 fl_X12_135 rfl rfl ?_
                      refine J_iload dX12_drunk_146 rfl ?_
                      refine J_dup2_11 dX12_drunk_148 rfl rfl ?_
                      obtain ⟨z103, ez103⟩ : ∃ z : Int, d_102 at_102 = z := ⟨_, rfl⟩
                      refine Y_iald (z := z103) 1260 dX12_drunk_149 rfl rfl (by decide) (v_2b02420001 i102_2) (v_1c8b2a3f47 h84 i102_3) ez103 ?_
                      refine Z_iconst (n := 1) dX12_drunk_150 ?_
                      refine Z_iadd (c := z103 + 1) dX12_drunk_151 rfl ?_
                      refine Y_iast (v := z103 + 1) 1260 dX12_drunk_152 rfl rfl (by decide) (v_2b02420001 i102_2) (v_1c8b2a3f47 h84 i102_3) (fun f104 ef104 => ?_)
                      refine Z_iinc (c := k_102 + 1) (ls2 := [some (.ref 98), some (.int (zI x)), some (.int (zI y)), some (.int (zI v)), some (.int (zI at_102)), some (.int (zI (k_102 + 1)))]) dX12_drunk_153 rfl (Nat.le_of_ble_eq_true rfl) rfl rfl rfl ?_
                      refine J_goto (tgt := 102) dX12_drunk_156 (by decide) ?_
                      refine J_mask (L2 := [(134, .inl (0, 1260, .inl (zA f104))), (98, .inr (12, (.int (zI ms) :: .int (zI mv) :: .ref 99 :: .ref 100 :: .ref 101 :: .ref 102 :: .ref 103 :: .ref 104 :: .ref 105 :: .int (zI mt) :: .int (zI mfa) :: .ref 106 :: .ref 107 :: .ref 108 :: .int (zI mtn) :: .int (zI mtk) :: .int (zI mlv) :: .int (zI mbd) :: .int (zI z74) :: .int (zI z75) :: .int (zI z76) :: .ref 109 :: .int (zI z77) :: .int (zI z78) :: .ref 110 :: .ref 111 :: .ref 112 :: .ref 113 :: .ref 114 :: .ref 115 :: .ref 116 :: .ref 117 :: .int (zI z61) :: .int (zI z62) :: .int (zI z63) :: .int (zI z67) :: .ref 118 :: .ref 119 :: .ref 120 :: .ref 121 :: .ref 122 :: .ref 123 :: .ref 124 :: .ref 125 :: .ref 126 :: .ref 127 :: .ref 128 :: .ref 129 :: .int (zI mfu) :: .ref 130 :: .ref 131 :: .ref 132 :: .ref 133 :: .ref 134 :: .int (zI z61) :: .int (zI la_102) :: []))), (110, .inl (0, 8820, .inl (zA f64))), (111, .inl (0, 1260, .inl (zA f65))), (117, .inl (0, 7, .inl (zA f66))), (112, .inl (0, 27720, .inl (zA f68))), (113, .inl (0, 27720, .inl (zA f69))), (114, .inl (0, 1260, .inl (zA f70))), (115, .inl (0, 27720, .inl (zA f71))), (116, .inl (0, 1260, .inl (zA f72))), (109, .inl (0, 8, .inl (zA f73)))]) (ks := [134, 134, 98, 110, 111, 117, 112, 113, 114, 115, 116, 109]) [true, false, true, true, true, true, true, true, true, true, true, true] rfl (by decide +kernel) rfl ?_
                      exact ih102 at_102 (k_102 + 1) f104 la_102 (v_da458fa48a i102_0) (v_e390a36114 h99) i102_2 i102_3 i102_4 i102_5 (meas_lt v_90eacd6fd4 (v_8b7dd7d486 h99) hm102)
                    · refine J_aload_n dX12_drunk_118 rfl rfl ?_
                      refine J_get (v := .ref 112) dX12_drunk_119 fl_X12_61 rfl rfl ?_
                      refine Z_bipush (n := 22) dX12_drunk_122 (by decide +kernel) ?_
                      refine J_iload dX12_drunk_124 rfl ?_
                      refine Z_imul (c := 22 * at_102) dX12_drunk_126 rfl ?_
                      refine J_aload_n dX12_drunk_127 rfl rfl ?_
                      refine J_aload_n dX12_drunk_128 rfl rfl ?_
                      refine J_get (v := .ref 114) dX12_drunk_129 fl_X12_67 rfl rfl ?_
                      refine J_iload dX12_drunk_132 rfl ?_
                      refine Y_iald (z := z100) 1260 dX12_drunk_134 rfl rfl (by decide) (v_2b02420001 i102_2) (v_1c8b2a3f47 h84 i102_3) ez100 ?_
                      refine J_callV (st := [.int (zI (22 * at_102)), .ref 112]) dX12_drunk_135 cv_X12_378 (k_draws z100 ms mv mt mfa mtn mtk mlv mbd z74 z75 z76 z77 z78 z61 z62 z63 z67 mfu z61 la_102 (v_9bf59c6767 h102) h101.2 i102_4 i102_5 rfl) rfl rfl rfl (Nat.le_of_ble_eq_true rfl) ⟨(Nat.le_of_ble_eq_true rfl), (Nat.le_of_ble_eq_true rfl)⟩ ⟨(Nat.le_of_ble_eq_true rfl), (Nat.le_of_ble_eq_true rfl)⟩ (fun r h9 hp => ?_)
                      obtain ⟨z105, z106, rfl, rfl, h107, h108, h109, h110⟩ := hp
                      refine J_nf (nh2 := nh) (ck2 := 0) (sk2 := 0) (st2 := [.int (zI z105), .int (zI (22 * at_102)), .ref 112]) rfl rfl rfl rfl ?_
                      refine J_app (L3 := [(98, .inr (12, (.int (zI ms) :: .int (zI mv) :: .ref 99 :: .ref 100 :: .ref 101 :: .ref 102 :: .ref 103 :: .ref 104 :: .ref 105 :: .int (zI mt) :: .int (zI mfa) :: .ref 106 :: .ref 107 :: .ref 108 :: .int (zI mtn) :: .int (zI mtk) :: .int (zI mlv) :: .int (zI mbd) :: .int (zI z74) :: .int (zI z75) :: .int (zI z76) :: .ref 109 :: .int (zI z77) :: .int (zI z78) :: .ref 110 :: .ref 111 :: .ref 112 :: .ref 113 :: .ref 114 :: .ref 115 :: .ref 116 :: .ref 117 :: .int (zI z61) :: .int (zI z62) :: .int (zI z63) :: .int (zI z67) :: .ref 118 :: .ref 119 :: .ref 120 :: .ref 121 :: .ref 122 :: .ref 123 :: .ref 124 :: .ref 125 :: .ref 126 :: .ref 127 :: .ref 128 :: .ref 129 :: .int (zI mfu) :: .ref 130 :: .ref 131 :: .ref 132 :: .ref 133 :: .ref 134 :: .int (zI z61) :: .int (zI z106) :: []))), (134, .inl (0, 1260, .inl (zA d_102))), (98, .inr (12, (.int (zI ms) :: .int (zI mv) :: .ref 99 :: .ref 100 :: .ref 101 :: .ref 102 :: .ref 103 :: .ref 104 :: .ref 105 :: .int (zI mt) :: .int (zI mfa) :: .ref 106 :: .ref 107 :: .ref 108 :: .int (zI mtn) :: .int (zI mtk) :: .int (zI mlv) :: .int (zI mbd) :: .int (zI z74) :: .int (zI z75) :: .int (zI z76) :: .ref 109 :: .int (zI z77) :: .int (zI z78) :: .ref 110 :: .ref 111 :: .ref 112 :: .ref 113 :: .ref 114 :: .ref 115 :: .ref 116 :: .ref 117 :: .int (zI z61) :: .int (zI z62) :: .int (zI z63) :: .int (zI z67) :: .ref 118 :: .ref 119 :: .ref 120 :: .ref 121 :: .ref 122 :: .ref 123 :: .ref 124 :: .ref 125 :: .ref 126 :: .ref 127 :: .ref 128 :: .ref 129 :: .int (zI mfu) :: .ref 130 :: .ref 131 :: .ref 132 :: .ref 133 :: .ref 134 :: .int (zI z61) :: .int (zI la_102) :: []))), (110, .inl (0, 8820, .inl (zA f64))), (111, .inl (0, 1260, .inl (zA f65))), (117, .inl (0, 7, .inl (zA f66))), (112, .inl (0, 27720, .inl (zA f68))), (113, .inl (0, 27720, .inl (zA f69))), (114, .inl (0, 1260, .inl (zA f70))), (115, .inl (0, 27720, .inl (zA f71))), (116, .inl (0, 1260, .inl (zA f72))), (109, .inl (0, 8, .inl (zA f73)))]) rfl ?_
                      refine J_mask (L2 := [(98, .inr (12, (.int (zI ms) :: .int (zI mv) :: .ref 99 :: .ref 100 :: .ref 101 :: .ref 102 :: .ref 103 :: .ref 104 :: .ref 105 :: .int (zI mt) :: .int (zI mfa) :: .ref 106 :: .ref 107 :: .ref 108 :: .int (zI mtn) :: .int (zI mtk) :: .int (zI mlv) :: .int (zI mbd) :: .int (zI z74) :: .int (zI z75) :: .int (zI z76) :: .ref 109 :: .int (zI z77) :: .int (zI z78) :: .ref 110 :: .ref 111 :: .ref 112 :: .ref 113 :: .ref 114 :: .ref 115 :: .ref 116 :: .ref 117 :: .int (zI z61) :: .int (zI z62) :: .int (zI z63) :: .int (zI z67) :: .ref 118 :: .ref 119 :: .ref 120 :: .ref 121 :: .ref 122 :: .ref 123 :: .ref 124 :: .ref 125 :: .ref 126 :: .ref 127 :: .ref 128 :: .ref 129 :: .int (zI mfu) :: .ref 130 :: .ref 131 :: .ref 132 :: .ref 133 :: .ref 134 :: .int (zI z61) :: .int (zI z106) :: []))), (134, .inl (0, 1260, .inl (zA d_102))), (110, .inl (0, 8820, .inl (zA f64))), (111, .inl (0, 1260, .inl (zA f65))), (117, .inl (0, 7, .inl (zA f66))), (112, .inl (0, 27720, .inl (zA f68))), (113, .inl (0, 27720, .inl (zA f69))), (114, .inl (0, 1260, .inl (zA f70))), (115, .inl (0, 27720, .inl (zA f71))), (116, .inl (0, 1260, .inl (zA f72))), (109, .inl (0, 8, .inl (zA f73)))]) (ks := [98, 134, 98, 110, 111, 117, 112, 113, 114, 115, 116, 109]) [true, true, false, true, true, true, true, true, true, true, true, true] rfl (by decide +kernel) rfl ?_
                      refine Z_iadd (c := 22 * at_102 + z105) dX12_drunk_138 rfl ?_
                      obtain ⟨z111, ez111⟩ : ∃ z : Int, f68 (22 * at_102 + z105) = z := ⟨_, rfl⟩
                      have h112 := StM.to h89 (v_2b02420001 i102_2) (v_b9aca61388 i102_3) ez100 (v_2b02420001 h107) (v_b9aca61388 h108) v_bbccdd60f5 ez111
                      refine Y_iald (z := z111) 27720 dX12_drunk_139 rfl rfl (by decide) (v_c3b7d2d1ca i102_2 h107) (v_0a88acd510 h84 i102_3 h101.2 h108) ez111 ?_
                      refine J_istore dX12_drunk_140 (Nat.le_of_ble_eq_true rfl) rfl ?_
                      refine J_ls (ls2 := [some (.ref 98), some (.int (zI x)), some (.int (zI y)), some (.int (zI v)), some (.int (zI z111)), some (.int (zI k_102))]) rfl ?_
                      refine J_aload_n dX12_drunk_142 rfl rfl ?_
                      refine J_get (v := .ref 134) dX12_drunk_143 fl_X12_135 rfl rfl ?_
                      refine J_iload dX12_drunk_146 rfl ?_
                      refine J_dup2_11 dX12_drunk_148 rfl rfl ?_
                      obtain ⟨z113, ez113⟩ : ∃ z : Int, d_102 z111 = z := ⟨_, rfl⟩
                      refine Y_iald (z := z113) 1260 dX12_drunk_149 rfl rfl (by decide) (v_2b02420001 h112.1) (v_1c8b2a3f47 h84 h112.2) ez113 ?_
                      refine Z_iconst (n := 1) dX12_drunk_150 ?_
                      refine Z_iadd (c := z113 + 1) dX12_drunk_151 rfl ?_
                      refine Y_iast (v := z113 + 1) 1260 dX12_drunk_152 rfl rfl (by decide) (v_2b02420001 h112.1) (v_1c8b2a3f47 h84 h112.2) (fun f114 ef114 => ?_)
                      refine Z_iinc (c := k_102 + 1) (ls2 := [some (.ref 98), some (.int (zI x)), some (.int (zI y)), some (.int (zI v)), some (.int (zI z111)), some (.int (zI (k_102 + 1)))]) dX12_drunk_153 rfl (Nat.le_of_ble_eq_true rfl) rfl rfl rfl ?_
                      refine J_goto (tgt := 102) dX12_drunk_156 (by decide) ?_
                      refine J_mask (L2 := [(134, .inl (0, 1260, .inl (zA f114))), (98, .inr (12, (.int (zI ms) :: .int (zI mv) :: .ref 99 :: .ref 100 :: .ref 101 :: .ref 102 :: .ref 103 :: .ref 104 :: .ref 105 :: .int (zI mt) :: .int (zI mfa) :: .ref 106 :: .ref 107 :: .ref 108 :: .int (zI mtn) :: .int (zI mtk) :: .int (zI mlv) :: .int (zI mbd) :: .int (zI z74) :: .int (zI z75) :: .int (zI z76) :: .ref 109 :: .int (zI z77) :: .int (zI z78) :: .ref 110 :: .ref 111 :: .ref 112 :: .ref 113 :: .ref 114 :: .ref 115 :: .ref 116 :: .ref 117 :: .int (zI z61) :: .int (zI z62) :: .int (zI z63) :: .int (zI z67) :: .ref 118 :: .ref 119 :: .ref 120 :: .ref 121 :: .ref 122 :: .ref 123 :: .ref 124 :: .ref 125 :: .ref 126 :: .ref 127 :: .ref 128 :: .ref 129 :: .int (zI mfu) :: .ref 130 :: .ref 131 :: .ref 132 :: .ref 133 :: .ref 134 :: .int (zI z61) :: .int (zI z106) :: []))), (110, .inl (0, 8820, .inl (zA f64))), (111, .inl (0, 1260, .inl (zA f65))), (117, .inl (0, 7, .inl (zA f66))), (112, .inl (0, 27720, .inl (zA f68))), (113, .inl (0, 27720, .inl (zA f69))), (114, .inl (0, 1260, .inl (zA f70))), (115, .inl (0, 27720, .inl (zA f71))), (116, .inl (0, 1260, .inl (zA f72))), (109, .inl (0, 8, .inl (zA f73)))]) (ks := [134, 98, 134, 110, 111, 117, 112, 113, 114, 115, 116, 109]) [true, true, false, true, true, true, true, true, true, true, true, true] rfl (by decide +kernel) rfl ?_
                      exact ih102 z111 (k_102 + 1) f114 z106 (v_da458fa48a i102_0) (v_e390a36114 h99) h112.1 h112.2 h109 h110 (meas_lt v_90eacd6fd4 (v_8b7dd7d486 h99) hm102)
              exact lp102 _ y 0 f97 x v_939070ca3f h6 h26 (v_bf8317871f h17 h27 h79) h1 (v_7843b869db h2) (Nat.lt_succ_self _)
            · refine J_aload_n dX12_drunk_71 rfl rfl ?_
              refine J_get (v := .ref 134) dX12_drunk_72 fl_X12_135 rfl rfl ?_
              refine J_iload dX12_drunk_75 rfl ?_
              refine Z_iconst (n := 0) dX12_drunk_77 ?_
              refine Y_iast (v := 0) 1260 dX12_drunk_78 rfl rfl (by decide) (v_2b02420001 i62_0) (v_610e7c4416 h84 h94) (fun f115 ef115 => ?_)
              have h116 : Rg f115 (h_62 + 1) 0 0 := Rg.push i62_2 ef115 v_a0572702c4 v_e828b09c4d v_939070ca3f v_939070ca3f
              refine Z_iinc (c := h_62 + 1) (ls2 := [some (.ref 98), some (.int (zI x)), some (.int (zI y)), some (.int (zI v)), some (.int (zI (h_62 + 1))), none]) dX12_drunk_79 rfl (Nat.le_of_ble_eq_true rfl) rfl rfl rfl ?_
              refine J_goto (tgt := 62) dX12_drunk_82 (by decide) ?_
              refine J_mask (L2 := [(134, .inl (0, 1260, .inl (zA f115))), (98, .inr (12, (.int (zI ms) :: .int (zI mv) :: .ref 99 :: .ref 100 :: .ref 101 :: .ref 102 :: .ref 103 :: .ref 104 :: .ref 105 :: .int (zI mt) :: .int (zI mfa) :: .ref 106 :: .ref 107 :: .ref 108 :: .int (zI mtn) :: .int (zI mtk) :: .int (zI mlv) :: .int (zI mbd) :: .int (zI z74) :: .int (zI z75) :: .int (zI z76) :: .ref 109 :: .int (zI z77) :: .int (zI z78) :: .ref 110 :: .ref 111 :: .ref 112 :: .ref 113 :: .ref 114 :: .ref 115 :: .ref 116 :: .ref 117 :: .int (zI z61) :: .int (zI z62) :: .int (zI z63) :: .int (zI z67) :: .ref 118 :: .ref 119 :: .ref 120 :: .ref 121 :: .ref 122 :: .ref 123 :: .ref 124 :: .ref 125 :: .ref 126 :: .ref 127 :: .ref 128 :: .ref 129 :: .int (zI mfu) :: .ref 130 :: .ref 131 :: .ref 132 :: .ref 133 :: .ref 134 :: .int (zI z61) :: .int (zI x) :: []))), (110, .inl (0, 8820, .inl (zA f64))), (111, .inl (0, 1260, .inl (zA f65))), (117, .inl (0, 7, .inl (zA f66))), (112, .inl (0, 27720, .inl (zA f68))), (113, .inl (0, 27720, .inl (zA f69))), (114, .inl (0, 1260, .inl (zA f70))), (115, .inl (0, 27720, .inl (zA f71))), (116, .inl (0, 1260, .inl (zA f72))), (109, .inl (0, 8, .inl (zA f73)))]) (ks := [134, 134, 98, 110, 111, 117, 112, 113, 114, 115, 116, 109]) [true, false, true, true, true, true, true, true, true, true, true, true] rfl (by decide +kernel) rfl ?_
              exact ih62 (h_62 + 1) f115 (v_da458fa48a i62_0) (v_e390a36114 h94) h116 (meas_lt v_90eacd6fd4 (v_8b7dd7d486 h94) hm62)
        exact lp62 _ 0 dt v_939070ca3f (v_632d2dbe78 h83) (Rg.nil v_939070ca3f) (Nat.lt_succ_self _)
      · refine J_nf (nh2 := nh) (ck2 := 0) (sk2 := 0) (st2 := [.int (zI 0)]) rfl rfl rfl rfl ?_
        refine J_app (L3 := [(98, .inr (12, (.int (zI ms) :: .int (zI mv) :: .ref 99 :: .ref 100 :: .ref 101 :: .ref 102 :: .ref 103 :: .ref 104 :: .ref 105 :: .int (zI mt) :: .int (zI mfa) :: .ref 106 :: .ref 107 :: .ref 108 :: .int (zI mtn) :: .int (zI mtk) :: .int (zI mlv) :: .int (zI mbd) :: .int (zI mgo) :: .int (zI mge) :: .int (zI mbk) :: .ref 109 :: .int (zI mtt) :: .int (zI mtl) :: .ref 110 :: .ref 111 :: .ref 112 :: .ref 113 :: .ref 114 :: .ref 115 :: .ref 116 :: .ref 117 :: .int (zI z28) :: .int (zI z29) :: .int (zI z30) :: .int (zI sb) :: .ref 118 :: .ref 119 :: .ref 120 :: .ref 121 :: .ref 122 :: .ref 123 :: .ref 124 :: .ref 125 :: .ref 126 :: .ref 127 :: .ref 128 :: .ref 129 :: .int (zI mfu) :: .ref 130 :: .ref 131 :: .ref 132 :: .ref 133 :: .ref 134 :: .int (zI mdm) :: .int (zI mla) :: []))), (110, .inl (0, 8820, .inl (zA f31))), (111, .inl (0, 1260, .inl (zA f32))), (117, .inl (0, 7, .inl (zA f33)))]) rfl ?_
        refine Z_if_ne (tgt := 42) dX12_drunk_32 (by decide) v_b17331891f (fun h117 => absurd h117 (fun q => q v_2ca2bbca1f)) (fun h117 => ?_)
        refine J_aload_n dX12_drunk_35 rfl rfl ?_
        refine Z_bipush (n := -2) dX12_drunk_36 (by decide +kernel) ?_
        refine J_callV (st := []) dX12_drunk_38 cv_X12_142 (k_refuses (-2) rf7 ms mv mt mfa mtn mtk mlv mbd mgo mge mbk mtt mtl z28 z29 z30 sb mfu mdm mla v_c15e852b74 v_e7867eeafa rfl hk99) rfl rfl rfl (Nat.le_of_ble_eq_true rfl) ⟨(Nat.le_of_ble_eq_true rfl), (Nat.le_of_ble_eq_true rfl)⟩ ⟨(Nat.le_of_ble_eq_true rfl), (Nat.le_of_ble_eq_true rfl)⟩ (fun r h9 hp => ?_)
        obtain ⟨f118, rfl, rfl⟩ := hp
        refine J_nf (nh2 := nh) (ck2 := 0) (sk2 := 0) (st2 := [.int (zI (-2))]) rfl rfl rfl rfl ?_
        refine J_app (L3 := [(98, .inr (12, (.int (zI (-2)) :: .int (zI mv) :: .ref 99 :: .ref 100 :: .ref 101 :: .ref 102 :: .ref 103 :: .ref 104 :: .ref 105 :: .int (zI mt) :: .int (zI mfa) :: .ref 106 :: .ref 107 :: .ref 108 :: .int (zI mtn) :: .int (zI mtk) :: .int (zI mlv) :: .int (zI mbd) :: .int (zI mgo) :: .int (zI mge) :: .int (zI mbk) :: .ref 109 :: .int (zI mtt) :: .int (zI mtl) :: .ref 110 :: .ref 111 :: .ref 112 :: .ref 113 :: .ref 114 :: .ref 115 :: .ref 116 :: .ref 117 :: .int (zI z28) :: .int (zI z29) :: .int (zI z30) :: .int (zI sb) :: .ref 118 :: .ref 119 :: .ref 120 :: .ref 121 :: .ref 122 :: .ref 123 :: .ref 124 :: .ref 125 :: .ref 126 :: .ref 127 :: .ref 128 :: .ref 129 :: .int (zI mfu) :: .ref 130 :: .ref 131 :: .ref 132 :: .ref 133 :: .ref 134 :: .int (zI mdm) :: .int (zI mla) :: []))), (99, .inl (0, 7, .inl (zA f118))), (98, .inr (12, (.int (zI ms) :: .int (zI mv) :: .ref 99 :: .ref 100 :: .ref 101 :: .ref 102 :: .ref 103 :: .ref 104 :: .ref 105 :: .int (zI mt) :: .int (zI mfa) :: .ref 106 :: .ref 107 :: .ref 108 :: .int (zI mtn) :: .int (zI mtk) :: .int (zI mlv) :: .int (zI mbd) :: .int (zI mgo) :: .int (zI mge) :: .int (zI mbk) :: .ref 109 :: .int (zI mtt) :: .int (zI mtl) :: .ref 110 :: .ref 111 :: .ref 112 :: .ref 113 :: .ref 114 :: .ref 115 :: .ref 116 :: .ref 117 :: .int (zI z28) :: .int (zI z29) :: .int (zI z30) :: .int (zI sb) :: .ref 118 :: .ref 119 :: .ref 120 :: .ref 121 :: .ref 122 :: .ref 123 :: .ref 124 :: .ref 125 :: .ref 126 :: .ref 127 :: .ref 128 :: .ref 129 :: .int (zI mfu) :: .ref 130 :: .ref 131 :: .ref 132 :: .ref 133 :: .ref 134 :: .int (zI mdm) :: .int (zI mla) :: []))), (110, .inl (0, 8820, .inl (zA f31))), (111, .inl (0, 1260, .inl (zA f32))), (117, .inl (0, 7, .inl (zA f33)))]) rfl ?_
        refine J_mask (L2 := [(98, .inr (12, (.int (zI (-2)) :: .int (zI mv) :: .ref 99 :: .ref 100 :: .ref 101 :: .ref 102 :: .ref 103 :: .ref 104 :: .ref 105 :: .int (zI mt) :: .int (zI mfa) :: .ref 106 :: .ref 107 :: .ref 108 :: .int (zI mtn) :: .int (zI mtk) :: .int (zI mlv) :: .int (zI mbd) :: .int (zI mgo) :: .int (zI mge) :: .int (zI mbk) :: .ref 109 :: .int (zI mtt) :: .int (zI mtl) :: .ref 110 :: .ref 111 :: .ref 112 :: .ref 113 :: .ref 114 :: .ref 115 :: .ref 116 :: .ref 117 :: .int (zI z28) :: .int (zI z29) :: .int (zI z30) :: .int (zI sb) :: .ref 118 :: .ref 119 :: .ref 120 :: .ref 121 :: .ref 122 :: .ref 123 :: .ref 124 :: .ref 125 :: .ref 126 :: .ref 127 :: .ref 128 :: .ref 129 :: .int (zI mfu) :: .ref 130 :: .ref 131 :: .ref 132 :: .ref 133 :: .ref 134 :: .int (zI mdm) :: .int (zI mla) :: []))), (99, .inl (0, 7, .inl (zA f118))), (110, .inl (0, 8820, .inl (zA f31))), (111, .inl (0, 1260, .inl (zA f32))), (117, .inl (0, 7, .inl (zA f33)))]) (ks := [98, 99, 98, 110, 111, 117]) [true, true, false, true, true, true] rfl (by decide +kernel) rfl ?_
        refine J_touch (k := 99) (e := .inl (0, 7, .inl (zA f118))) rfl ?_
        refine J_touch (k := 134) (e := .inl (0, 1260, .inl (zA dt))) hk134 ?_
        refine J_touch (k := 109) (e := .inl (0, 8, .inl (zA aq))) hk109 ?_
        refine J_touch (k := 116) (e := .inl (0, 1260, .inl (zA cm))) hk116 ?_
        refine J_touch (k := 115) (e := .inl (0, 27720, .inl (zA cf))) hk115 ?_
        refine J_touch (k := 114) (e := .inl (0, 1260, .inl (zA sm))) hk114 ?_
        refine J_touch (k := 113) (e := .inl (0, 27720, .inl (zA tk))) hk113 ?_
        refine J_touch (k := 112) (e := .inl (0, 27720, .inl (zA st))) hk112 ?_
        refine J_touch (k := 117) (e := .inl (0, 7, .inl (zA f33))) rfl ?_
        refine J_touch (k := 111) (e := .inl (0, 1260, .inl (zA f32))) rfl ?_
        refine J_touch (k := 110) (e := .inl (0, 8820, .inl (zA f31))) rfl ?_
        refine J_touch (k := 98) (e := .inr (12, (.int (zI (-2)) :: .int (zI mv) :: .ref 99 :: .ref 100 :: .ref 101 :: .ref 102 :: .ref 103 :: .ref 104 :: .ref 105 :: .int (zI mt) :: .int (zI mfa) :: .ref 106 :: .ref 107 :: .ref 108 :: .int (zI mtn) :: .int (zI mtk) :: .int (zI mlv) :: .int (zI mbd) :: .int (zI mgo) :: .int (zI mge) :: .int (zI mbk) :: .ref 109 :: .int (zI mtt) :: .int (zI mtl) :: .ref 110 :: .ref 111 :: .ref 112 :: .ref 113 :: .ref 114 :: .ref 115 :: .ref 116 :: .ref 117 :: .int (zI z28) :: .int (zI z29) :: .int (zI z30) :: .int (zI sb) :: .ref 118 :: .ref 119 :: .ref 120 :: .ref 121 :: .ref 122 :: .ref 123 :: .ref 124 :: .ref 125 :: .ref 126 :: .ref 127 :: .ref 128 :: .ref 129 :: .int (zI mfu) :: .ref 130 :: .ref 131 :: .ref 132 :: .ref 133 :: .ref 134 :: .int (zI mdm) :: .int (zI mla) :: []))) rfl ?_
        refine J_mask (L2 := [(98, .inr (12, (.int (zI (-2)) :: .int (zI mv) :: .ref 99 :: .ref 100 :: .ref 101 :: .ref 102 :: .ref 103 :: .ref 104 :: .ref 105 :: .int (zI mt) :: .int (zI mfa) :: .ref 106 :: .ref 107 :: .ref 108 :: .int (zI mtn) :: .int (zI mtk) :: .int (zI mlv) :: .int (zI mbd) :: .int (zI mgo) :: .int (zI mge) :: .int (zI mbk) :: .ref 109 :: .int (zI mtt) :: .int (zI mtl) :: .ref 110 :: .ref 111 :: .ref 112 :: .ref 113 :: .ref 114 :: .ref 115 :: .ref 116 :: .ref 117 :: .int (zI z28) :: .int (zI z29) :: .int (zI z30) :: .int (zI sb) :: .ref 118 :: .ref 119 :: .ref 120 :: .ref 121 :: .ref 122 :: .ref 123 :: .ref 124 :: .ref 125 :: .ref 126 :: .ref 127 :: .ref 128 :: .ref 129 :: .int (zI mfu) :: .ref 130 :: .ref 131 :: .ref 132 :: .ref 133 :: .ref 134 :: .int (zI mdm) :: .int (zI mla) :: []))), (110, .inl (0, 8820, .inl (zA f31))), (111, .inl (0, 1260, .inl (zA f32))), (117, .inl (0, 7, .inl (zA f33))), (112, .inl (0, 27720, .inl (zA st))), (113, .inl (0, 27720, .inl (zA tk))), (114, .inl (0, 1260, .inl (zA sm))), (115, .inl (0, 27720, .inl (zA cf))), (116, .inl (0, 1260, .inl (zA cm))), (109, .inl (0, 8, .inl (zA aq))), (134, .inl (0, 1260, .inl (zA dt))), (99, .inl (0, 7, .inl (zA f118)))]) (ks := [98, 110, 111, 117, 112, 113, 114, 115, 116, 109, 134, 99, 98, 99, 110, 111, 117]) [true, true, true, true, true, true, true, true, true, true, true, true, false, false, false, false, false] rfl (by decide +kernel) rfl ?_
        exact J_iret dX12_drunk_41 rfl rfl (Nat.le_of_ble_eq_true rfl) (Nat.le_of_ble_eq_true rfl) ⟨(-2), z28, z29, z30, f31, f32, f33, sb, st, tk, sm, cf, cm, aq, mgo, mge, mbk, mtt, mtl, dt, f118, (-2), mv, mla, mdm, rfl, rfl, h37, (v_621074fb26 q8 h42), (fun _ => ⟨h36, h34, h35⟩), q10, (q11), (v_94d6d099ed h42), q13, q14, q15, q16, v_0065452639, v_3daf2cb668, q3, q4⟩
      · refine J_nf (nh2 := nh) (ck2 := 0) (sk2 := 0) (st2 := [.int (zI 0)]) rfl rfl rfl rfl ?_
        refine J_app (L3 := [(98, .inr (12, (.int (zI ms) :: .int (zI mv) :: .ref 99 :: .ref 100 :: .ref 101 :: .ref 102 :: .ref 103 :: .ref 104 :: .ref 105 :: .int (zI mt) :: .int (zI mfa) :: .ref 106 :: .ref 107 :: .ref 108 :: .int (zI mtn) :: .int (zI mtk) :: .int (zI mlv) :: .int (zI mbd) :: .int (zI mgo) :: .int (zI mge) :: .int (zI mbk) :: .ref 109 :: .int (zI mtt) :: .int (zI mtl) :: .ref 110 :: .ref 111 :: .ref 112 :: .ref 113 :: .ref 114 :: .ref 115 :: .ref 116 :: .ref 117 :: .int (zI z44) :: .int (zI z45) :: .int (zI z46) :: .int (zI sb) :: .ref 118 :: .ref 119 :: .ref 120 :: .ref 121 :: .ref 122 :: .ref 123 :: .ref 124 :: .ref 125 :: .ref 126 :: .ref 127 :: .ref 128 :: .ref 129 :: .int (zI mfu) :: .ref 130 :: .ref 131 :: .ref 132 :: .ref 133 :: .ref 134 :: .int (zI mdm) :: .int (zI mla) :: []))), (110, .inl (0, 8820, .inl (zA f47))), (111, .inl (0, 1260, .inl (zA f48))), (117, .inl (0, 7, .inl (zA f49)))]) rfl ?_
        refine Z_if_ne (tgt := 42) dX12_drunk_32 (by decide) v_b17331891f (fun h119 => absurd h119 (fun q => q v_2ca2bbca1f)) (fun h119 => ?_)
        refine J_aload_n dX12_drunk_35 rfl rfl ?_
        refine Z_bipush (n := -2) dX12_drunk_36 (by decide +kernel) ?_
        refine J_callV (st := []) dX12_drunk_38 cv_X12_142 (k_refuses (-2) rf7 ms mv mt mfa mtn mtk mlv mbd mgo mge mbk mtt mtl z44 z45 z46 sb mfu mdm mla v_c15e852b74 v_e7867eeafa rfl hk99) rfl rfl rfl (Nat.le_of_ble_eq_true rfl) ⟨(Nat.le_of_ble_eq_true rfl), (Nat.le_of_ble_eq_true rfl)⟩ ⟨(Nat.le_of_ble_eq_true rfl), (Nat.le_of_ble_eq_true rfl)⟩ (fun r h9 hp => ?_)
        obtain ⟨f120, rfl, rfl⟩ := hp
        refine J_nf (nh2 := nh) (ck2 := 0) (sk2 := 0) (st2 := [.int (zI (-2))]) rfl rfl rfl rfl ?_
        refine J_app (L3 := [(98, .inr (12, (.int (zI (-2)) :: .int (zI mv) :: .ref 99 :: .ref 100 :: .ref 101 :: .ref 102 :: .ref 103 :: .ref 104 :: .ref 105 :: .int (zI mt) :: .int (zI mfa) :: .ref 106 :: .ref 107 :: .ref 108 :: .int (zI mtn) :: .int (zI mtk) :: .int (zI mlv) :: .int (zI mbd) :: .int (zI mgo) :: .int (zI mge) :: .int (zI mbk) :: .ref 109 :: .int (zI mtt) :: .int (zI mtl) :: .ref 110 :: .ref 111 :: .ref 112 :: .ref 113 :: .ref 114 :: .ref 115 :: .ref 116 :: .ref 117 :: .int (zI z44) :: .int (zI z45) :: .int (zI z46) :: .int (zI sb) :: .ref 118 :: .ref 119 :: .ref 120 :: .ref 121 :: .ref 122 :: .ref 123 :: .ref 124 :: .ref 125 :: .ref 126 :: .ref 127 :: .ref 128 :: .ref 129 :: .int (zI mfu) :: .ref 130 :: .ref 131 :: .ref 132 :: .ref 133 :: .ref 134 :: .int (zI mdm) :: .int (zI mla) :: []))), (99, .inl (0, 7, .inl (zA f120))), (98, .inr (12, (.int (zI ms) :: .int (zI mv) :: .ref 99 :: .ref 100 :: .ref 101 :: .ref 102 :: .ref 103 :: .ref 104 :: .ref 105 :: .int (zI mt) :: .int (zI mfa) :: .ref 106 :: .ref 107 :: .ref 108 :: .int (zI mtn) :: .int (zI mtk) :: .int (zI mlv) :: .int (zI mbd) :: .int (zI mgo) :: .int (zI mge) :: .int (zI mbk) :: .ref 109 :: .int (zI mtt) :: .int (zI mtl) :: .ref 110 :: .ref 111 :: .ref 112 :: .ref 113 :: .ref 114 :: .ref 115 :: .ref 116 :: .ref 117 :: .int (zI z44) :: .int (zI z45) :: .int (zI z46) :: .int (zI sb) :: .ref 118 :: .ref 119 :: .ref 120 :: .ref 121 :: .ref 122 :: .ref 123 :: .ref 124 :: .ref 125 :: .ref 126 :: .ref 127 :: .ref 128 :: .ref 129 :: .int (zI mfu) :: .ref 130 :: .ref 131 :: .ref 132 :: .ref 133 :: .ref 134 :: .int (zI mdm) :: .int (zI mla) :: []))), (110, .inl (0, 8820, .inl (zA f47))), (111, .inl (0, 1260, .inl (zA f48))), (117, .inl (0, 7, .inl (zA f49)))]) rfl ?_
        refine J_mask (L2 := [(98, .inr (12, (.int (zI (-2)) :: .int (zI mv) :: .ref 99 :: .ref 100 :: .ref 101 :: .ref 102 :: .ref 103 :: .ref 104 :: .ref 105 :: .int (zI mt) :: .int (zI mfa) :: .ref 106 :: .ref 107 :: .ref 108 :: .int (zI mtn) :: .int (zI mtk) :: .int (zI mlv) :: .int (zI mbd) :: .int (zI mgo) :: .int (zI mge) :: .int (zI mbk) :: .ref 109 :: .int (zI mtt) :: .int (zI mtl) :: .ref 110 :: .ref 111 :: .ref 112 :: .ref 113 :: .ref 114 :: .ref 115 :: .ref 116 :: .ref 117 :: .int (zI z44) :: .int (zI z45) :: .int (zI z46) :: .int (zI sb) :: .ref 118 :: .ref 119 :: .ref 120 :: .ref 121 :: .ref 122 :: .ref 123 :: .ref 124 :: .ref 125 :: .ref 126 :: .ref 127 :: .ref 128 :: .ref 129 :: .int (zI mfu) :: .ref 130 :: .ref 131 :: .ref 132 :: .ref 133 :: .ref 134 :: .int (zI mdm) :: .int (zI mla) :: []))), (99, .inl (0, 7, .inl (zA f120))), (110, .inl (0, 8820, .inl (zA f47))), (111, .inl (0, 1260, .inl (zA f48))), (117, .inl (0, 7, .inl (zA f49)))]) (ks := [98, 99, 98, 110, 111, 117]) [true, true, false, true, true, true] rfl (by decide +kernel) rfl ?_
        refine J_touch (k := 99) (e := .inl (0, 7, .inl (zA f120))) rfl ?_
        refine J_touch (k := 134) (e := .inl (0, 1260, .inl (zA dt))) hk134 ?_
        refine J_touch (k := 109) (e := .inl (0, 8, .inl (zA aq))) hk109 ?_
        refine J_touch (k := 116) (e := .inl (0, 1260, .inl (zA cm))) hk116 ?_
        refine J_touch (k := 115) (e := .inl (0, 27720, .inl (zA cf))) hk115 ?_
        refine J_touch (k := 114) (e := .inl (0, 1260, .inl (zA sm))) hk114 ?_
        refine J_touch (k := 113) (e := .inl (0, 27720, .inl (zA tk))) hk113 ?_
        refine J_touch (k := 112) (e := .inl (0, 27720, .inl (zA st))) hk112 ?_
        refine J_touch (k := 117) (e := .inl (0, 7, .inl (zA f49))) rfl ?_
        refine J_touch (k := 111) (e := .inl (0, 1260, .inl (zA f48))) rfl ?_
        refine J_touch (k := 110) (e := .inl (0, 8820, .inl (zA f47))) rfl ?_
        refine J_touch (k := 98) (e := .inr (12, (.int (zI (-2)) :: .int (zI mv) :: .ref 99 :: .ref 100 :: .ref 101 :: .ref 102 :: .ref 103 :: .ref 104 :: .ref 105 :: .int (zI mt) :: .int (zI mfa) :: .ref 106 :: .ref 107 :: .ref 108 :: .int (zI mtn) :: .int (zI mtk) :: .int (zI mlv) :: .int (zI mbd) :: .int (zI mgo) :: .int (zI mge) :: .int (zI mbk) :: .ref 109 :: .int (zI mtt) :: .int (zI mtl) :: .ref 110 :: .ref 111 :: .ref 112 :: .ref 113 :: .ref 114 :: .ref 115 :: .ref 116 :: .ref 117 :: .int (zI z44) :: .int (zI z45) :: .int (zI z46) :: .int (zI sb) :: .ref 118 :: .ref 119 :: .ref 120 :: .ref 121 :: .ref 122 :: .ref 123 :: .ref 124 :: .ref 125 :: .ref 126 :: .ref 127 :: .ref 128 :: .ref 129 :: .int (zI mfu) :: .ref 130 :: .ref 131 :: .ref 132 :: .ref 133 :: .ref 134 :: .int (zI mdm) :: .int (zI mla) :: []))) rfl ?_
        refine J_mask (L2 := [(98, .inr (12, (.int (zI (-2)) :: .int (zI mv) :: .ref 99 :: .ref 100 :: .ref 101 :: .ref 102 :: .ref 103 :: .ref 104 :: .ref 105 :: .int (zI mt) :: .int (zI mfa) :: .ref 106 :: .ref 107 :: .ref 108 :: .int (zI mtn) :: .int (zI mtk) :: .int (zI mlv) :: .int (zI mbd) :: .int (zI mgo) :: .int (zI mge) :: .int (zI mbk) :: .ref 109 :: .int (zI mtt) :: .int (zI mtl) :: .ref 110 :: .ref 111 :: .ref 112 :: .ref 113 :: .ref 114 :: .ref 115 :: .ref 116 :: .ref 117 :: .int (zI z44) :: .int (zI z45) :: .int (zI z46) :: .int (zI sb) :: .ref 118 :: .ref 119 :: .ref 120 :: .ref 121 :: .ref 122 :: .ref 123 :: .ref 124 :: .ref 125 :: .ref 126 :: .ref 127 :: .ref 128 :: .ref 129 :: .int (zI mfu) :: .ref 130 :: .ref 131 :: .ref 132 :: .ref 133 :: .ref 134 :: .int (zI mdm) :: .int (zI mla) :: []))), (110, .inl (0, 8820, .inl (zA f47))), (111, .inl (0, 1260, .inl (zA f48))), (117, .inl (0, 7, .inl (zA f49))), (112, .inl (0, 27720, .inl (zA st))), (113, .inl (0, 27720, .inl (zA tk))), (114, .inl (0, 1260, .inl (zA sm))), (115, .inl (0, 27720, .inl (zA cf))), (116, .inl (0, 1260, .inl (zA cm))), (109, .inl (0, 8, .inl (zA aq))), (134, .inl (0, 1260, .inl (zA dt))), (99, .inl (0, 7, .inl (zA f120)))]) (ks := [98, 110, 111, 117, 112, 113, 114, 115, 116, 109, 134, 99, 98, 99, 110, 111, 117]) [true, true, true, true, true, true, true, true, true, true, true, true, false, false, false, false, false] rfl (by decide +kernel) rfl ?_
        exact J_iret dX12_drunk_41 rfl rfl (Nat.le_of_ble_eq_true rfl) (Nat.le_of_ble_eq_true rfl) ⟨(-2), z44, z45, z46, f47, f48, f49, sb, st, tk, sm, cf, cm, aq, mgo, mge, mbk, mtt, mtl, dt, f120, (-2), mv, mla, mdm, rfl, rfl, h53, (v_621074fb26 q8 h58), (fun _ => ⟨h52, h50, h51⟩), q10, (q11), (v_94d6d099ed h58), q13, q14, q15, q16, v_0065452639, v_3daf2cb668, q3, q4⟩
    · refine J_nf (nh2 := nh) (ck2 := 0) (sk2 := 0) (st2 := [.int (zI 0)]) rfl rfl rfl rfl ?_
      refine Z_if_ne (tgt := 27) dX12_drunk_18 (by decide) v_b17331891f (fun h121 => absurd h121 (fun q => q v_2ca2bbca1f)) (fun h121 => ?_)
      refine J_aload_n dX12_drunk_21 rfl rfl ?_
      refine Z_iconst (n := -1) dX12_drunk_22 ?_
      refine J_callV (st := []) dX12_drunk_23 cv_X12_142 (k_refuses (-1) rf7 ms mv mt mfa mtn mtk mlv mbd mgo mge mbk mtt mtl hm pm hb sb mfu mdm mla v_ef59c9c3d8 v_646fb950f3 hk98 hk99) hk98 rfl rfl (Nat.le_of_ble_eq_true rfl) ⟨(Nat.le_of_ble_eq_true rfl), (Nat.le_of_ble_eq_true rfl)⟩ ⟨(Nat.le_of_ble_eq_true rfl), (Nat.le_of_ble_eq_true rfl)⟩ (fun r h9 hp => ?_)
      obtain ⟨f122, rfl, rfl⟩ := hp
      refine J_nf (nh2 := nh) (ck2 := 0) (sk2 := 0) (st2 := [.int (zI (-1))]) rfl rfl rfl rfl ?_
      refine J_app (L3 := [(98, .inr (12, (.int (zI (-1)) :: .int (zI mv) :: .ref 99 :: .ref 100 :: .ref 101 :: .ref 102 :: .ref 103 :: .ref 104 :: .ref 105 :: .int (zI mt) :: .int (zI mfa) :: .ref 106 :: .ref 107 :: .ref 108 :: .int (zI mtn) :: .int (zI mtk) :: .int (zI mlv) :: .int (zI mbd) :: .int (zI mgo) :: .int (zI mge) :: .int (zI mbk) :: .ref 109 :: .int (zI mtt) :: .int (zI mtl) :: .ref 110 :: .ref 111 :: .ref 112 :: .ref 113 :: .ref 114 :: .ref 115 :: .ref 116 :: .ref 117 :: .int (zI hm) :: .int (zI pm) :: .int (zI hb) :: .int (zI sb) :: .ref 118 :: .ref 119 :: .ref 120 :: .ref 121 :: .ref 122 :: .ref 123 :: .ref 124 :: .ref 125 :: .ref 126 :: .ref 127 :: .ref 128 :: .ref 129 :: .int (zI mfu) :: .ref 130 :: .ref 131 :: .ref 132 :: .ref 133 :: .ref 134 :: .int (zI mdm) :: .int (zI mla) :: []))), (99, .inl (0, 7, .inl (zA f122)))]) rfl ?_
      refine J_touch (k := 99) (e := .inl (0, 7, .inl (zA f122))) rfl ?_
      refine J_touch (k := 134) (e := .inl (0, 1260, .inl (zA dt))) hk134 ?_
      refine J_touch (k := 109) (e := .inl (0, 8, .inl (zA aq))) hk109 ?_
      refine J_touch (k := 116) (e := .inl (0, 1260, .inl (zA cm))) hk116 ?_
      refine J_touch (k := 115) (e := .inl (0, 27720, .inl (zA cf))) hk115 ?_
      refine J_touch (k := 114) (e := .inl (0, 1260, .inl (zA sm))) hk114 ?_
      refine J_touch (k := 113) (e := .inl (0, 27720, .inl (zA tk))) hk113 ?_
      refine J_touch (k := 112) (e := .inl (0, 27720, .inl (zA st))) hk112 ?_
      refine J_touch (k := 117) (e := .inl (0, 7, .inl (zA of))) hk117 ?_
      refine J_touch (k := 111) (e := .inl (0, 1260, .inl (zA cd))) hk111 ?_
      refine J_touch (k := 110) (e := .inl (0, 8820, .inl (zA co))) hk110 ?_
      refine J_touch (k := 98) (e := .inr (12, (.int (zI (-1)) :: .int (zI mv) :: .ref 99 :: .ref 100 :: .ref 101 :: .ref 102 :: .ref 103 :: .ref 104 :: .ref 105 :: .int (zI mt) :: .int (zI mfa) :: .ref 106 :: .ref 107 :: .ref 108 :: .int (zI mtn) :: .int (zI mtk) :: .int (zI mlv) :: .int (zI mbd) :: .int (zI mgo) :: .int (zI mge) :: .int (zI mbk) :: .ref 109 :: .int (zI mtt) :: .int (zI mtl) :: .ref 110 :: .ref 111 :: .ref 112 :: .ref 113 :: .ref 114 :: .ref 115 :: .ref 116 :: .ref 117 :: .int (zI hm) :: .int (zI pm) :: .int (zI hb) :: .int (zI sb) :: .ref 118 :: .ref 119 :: .ref 120 :: .ref 121 :: .ref 122 :: .ref 123 :: .ref 124 :: .ref 125 :: .ref 126 :: .ref 127 :: .ref 128 :: .ref 129 :: .int (zI mfu) :: .ref 130 :: .ref 131 :: .ref 132 :: .ref 133 :: .ref 134 :: .int (zI mdm) :: .int (zI mla) :: []))) rfl ?_
      refine J_mask (L2 := [(98, .inr (12, (.int (zI (-1)) :: .int (zI mv) :: .ref 99 :: .ref 100 :: .ref 101 :: .ref 102 :: .ref 103 :: .ref 104 :: .ref 105 :: .int (zI mt) :: .int (zI mfa) :: .ref 106 :: .ref 107 :: .ref 108 :: .int (zI mtn) :: .int (zI mtk) :: .int (zI mlv) :: .int (zI mbd) :: .int (zI mgo) :: .int (zI mge) :: .int (zI mbk) :: .ref 109 :: .int (zI mtt) :: .int (zI mtl) :: .ref 110 :: .ref 111 :: .ref 112 :: .ref 113 :: .ref 114 :: .ref 115 :: .ref 116 :: .ref 117 :: .int (zI hm) :: .int (zI pm) :: .int (zI hb) :: .int (zI sb) :: .ref 118 :: .ref 119 :: .ref 120 :: .ref 121 :: .ref 122 :: .ref 123 :: .ref 124 :: .ref 125 :: .ref 126 :: .ref 127 :: .ref 128 :: .ref 129 :: .int (zI mfu) :: .ref 130 :: .ref 131 :: .ref 132 :: .ref 133 :: .ref 134 :: .int (zI mdm) :: .int (zI mla) :: []))), (110, .inl (0, 8820, .inl (zA co))), (111, .inl (0, 1260, .inl (zA cd))), (117, .inl (0, 7, .inl (zA of))), (112, .inl (0, 27720, .inl (zA st))), (113, .inl (0, 27720, .inl (zA tk))), (114, .inl (0, 1260, .inl (zA sm))), (115, .inl (0, 27720, .inl (zA cf))), (116, .inl (0, 1260, .inl (zA cm))), (109, .inl (0, 8, .inl (zA aq))), (134, .inl (0, 1260, .inl (zA dt))), (99, .inl (0, 7, .inl (zA f122)))]) (ks := [98, 110, 111, 117, 112, 113, 114, 115, 116, 109, 134, 99, 98, 99]) [true, true, true, true, true, true, true, true, true, true, true, true, false, false] rfl (by decide +kernel) rfl ?_
      exact J_iret dX12_drunk_26 rfl rfl (Nat.le_of_ble_eq_true rfl) (Nat.le_of_ble_eq_true rfl) ⟨(-1), hm, pm, hb, co, cd, of, sb, st, tk, sm, cf, cm, aq, mgo, mge, mbk, mtt, mtl, dt, f122, (-1), mv, mla, mdm, rfl, rfl, q6, q7, q9, q10, (q11), q12, q13, q14, q15, q16, v_0065452639, v_3daf2cb668, q3, q4⟩
    · refine J_nf (nh2 := nh) (ck2 := 0) (sk2 := 0) (st2 := [.int (zI 0)]) rfl rfl rfl rfl ?_
      refine Z_if_ne (tgt := 27) dX12_drunk_18 (by decide) v_b17331891f (fun h123 => absurd h123 (fun q => q v_2ca2bbca1f)) (fun h123 => ?_)
      refine J_aload_n dX12_drunk_21 rfl rfl ?_
      refine Z_iconst (n := -1) dX12_drunk_22 ?_
      refine J_callV (st := []) dX12_drunk_23 cv_X12_142 (k_refuses (-1) rf7 ms mv mt mfa mtn mtk mlv mbd mgo mge mbk mtt mtl hm pm hb sb mfu mdm mla v_ef59c9c3d8 v_646fb950f3 hk98 hk99) hk98 rfl rfl (Nat.le_of_ble_eq_true rfl) ⟨(Nat.le_of_ble_eq_true rfl), (Nat.le_of_ble_eq_true rfl)⟩ ⟨(Nat.le_of_ble_eq_true rfl), (Nat.le_of_ble_eq_true rfl)⟩ (fun r h9 hp => ?_)
      obtain ⟨f124, rfl, rfl⟩ := hp
      refine J_nf (nh2 := nh) (ck2 := 0) (sk2 := 0) (st2 := [.int (zI (-1))]) rfl rfl rfl rfl ?_
      refine J_app (L3 := [(98, .inr (12, (.int (zI (-1)) :: .int (zI mv) :: .ref 99 :: .ref 100 :: .ref 101 :: .ref 102 :: .ref 103 :: .ref 104 :: .ref 105 :: .int (zI mt) :: .int (zI mfa) :: .ref 106 :: .ref 107 :: .ref 108 :: .int (zI mtn) :: .int (zI mtk) :: .int (zI mlv) :: .int (zI mbd) :: .int (zI mgo) :: .int (zI mge) :: .int (zI mbk) :: .ref 109 :: .int (zI mtt) :: .int (zI mtl) :: .ref 110 :: .ref 111 :: .ref 112 :: .ref 113 :: .ref 114 :: .ref 115 :: .ref 116 :: .ref 117 :: .int (zI hm) :: .int (zI pm) :: .int (zI hb) :: .int (zI sb) :: .ref 118 :: .ref 119 :: .ref 120 :: .ref 121 :: .ref 122 :: .ref 123 :: .ref 124 :: .ref 125 :: .ref 126 :: .ref 127 :: .ref 128 :: .ref 129 :: .int (zI mfu) :: .ref 130 :: .ref 131 :: .ref 132 :: .ref 133 :: .ref 134 :: .int (zI mdm) :: .int (zI mla) :: []))), (99, .inl (0, 7, .inl (zA f124)))]) rfl ?_
      refine J_touch (k := 99) (e := .inl (0, 7, .inl (zA f124))) rfl ?_
      refine J_touch (k := 134) (e := .inl (0, 1260, .inl (zA dt))) hk134 ?_
      refine J_touch (k := 109) (e := .inl (0, 8, .inl (zA aq))) hk109 ?_
      refine J_touch (k := 116) (e := .inl (0, 1260, .inl (zA cm))) hk116 ?_
      refine J_touch (k := 115) (e := .inl (0, 27720, .inl (zA cf))) hk115 ?_
      refine J_touch (k := 114) (e := .inl (0, 1260, .inl (zA sm))) hk114 ?_
      refine J_touch (k := 113) (e := .inl (0, 27720, .inl (zA tk))) hk113 ?_
      refine J_touch (k := 112) (e := .inl (0, 27720, .inl (zA st))) hk112 ?_
      refine J_touch (k := 117) (e := .inl (0, 7, .inl (zA of))) hk117 ?_
      refine J_touch (k := 111) (e := .inl (0, 1260, .inl (zA cd))) hk111 ?_
      refine J_touch (k := 110) (e := .inl (0, 8820, .inl (zA co))) hk110 ?_
      refine J_touch (k := 98) (e := .inr (12, (.int (zI (-1)) :: .int (zI mv) :: .ref 99 :: .ref 100 :: .ref 101 :: .ref 102 :: .ref 103 :: .ref 104 :: .ref 105 :: .int (zI mt) :: .int (zI mfa) :: .ref 106 :: .ref 107 :: .ref 108 :: .int (zI mtn) :: .int (zI mtk) :: .int (zI mlv) :: .int (zI mbd) :: .int (zI mgo) :: .int (zI mge) :: .int (zI mbk) :: .ref 109 :: .int (zI mtt) :: .int (zI mtl) :: .ref 110 :: .ref 111 :: .ref 112 :: .ref 113 :: .ref 114 :: .ref 115 :: .ref 116 :: .ref 117 :: .int (zI hm) :: .int (zI pm) :: .int (zI hb) :: .int (zI sb) :: .ref 118 :: .ref 119 :: .ref 120 :: .ref 121 :: .ref 122 :: .ref 123 :: .ref 124 :: .ref 125 :: .ref 126 :: .ref 127 :: .ref 128 :: .ref 129 :: .int (zI mfu) :: .ref 130 :: .ref 131 :: .ref 132 :: .ref 133 :: .ref 134 :: .int (zI mdm) :: .int (zI mla) :: []))) rfl ?_
      refine J_mask (L2 := [(98, .inr (12, (.int (zI (-1)) :: .int (zI mv) :: .ref 99 :: .ref 100 :: .ref 101 :: .ref 102 :: .ref 103 :: .ref 104 :: .ref 105 :: .int (zI mt) :: .int (zI mfa) :: .ref 106 :: .ref 107 :: .ref 108 :: .int (zI mtn) :: .int (zI mtk) :: .int (zI mlv) :: .int (zI mbd) :: .int (zI mgo) :: .int (zI mge) :: .int (zI mbk) :: .ref 109 :: .int (zI mtt) :: .int (zI mtl) :: .ref 110 :: .ref 111 :: .ref 112 :: .ref 113 :: .ref 114 :: .ref 115 :: .ref 116 :: .ref 117 :: .int (zI hm) :: .int (zI pm) :: .int (zI hb) :: .int (zI sb) :: .ref 118 :: .ref 119 :: .ref 120 :: .ref 121 :: .ref 122 :: .ref 123 :: .ref 124 :: .ref 125 :: .ref 126 :: .ref 127 :: .ref 128 :: .ref 129 :: .int (zI mfu) :: .ref 130 :: .ref 131 :: .ref 132 :: .ref 133 :: .ref 134 :: .int (zI mdm) :: .int (zI mla) :: []))), (110, .inl (0, 8820, .inl (zA co))), (111, .inl (0, 1260, .inl (zA cd))), (117, .inl (0, 7, .inl (zA of))), (112, .inl (0, 27720, .inl (zA st))), (113, .inl (0, 27720, .inl (zA tk))), (114, .inl (0, 1260, .inl (zA sm))), (115, .inl (0, 27720, .inl (zA cf))), (116, .inl (0, 1260, .inl (zA cm))), (109, .inl (0, 8, .inl (zA aq))), (134, .inl (0, 1260, .inl (zA dt))), (99, .inl (0, 7, .inl (zA f124)))]) (ks := [98, 110, 111, 117, 112, 113, 114, 115, 116, 109, 134, 99, 98, 99]) [true, true, true, true, true, true, true, true, true, true, true, true, false, false] rfl (by decide +kernel) rfl ?_
      exact J_iret dX12_drunk_26 rfl rfl (Nat.le_of_ble_eq_true rfl) (Nat.le_of_ble_eq_true rfl) ⟨(-1), hm, pm, hb, co, cd, of, sb, st, tk, sm, cf, cm, aq, mgo, mge, mbk, mtt, mtl, dt, f124, (-1), mv, mla, mdm, rfl, rfl, q6, q7, q9, q10, (q11), q12, q13, q14, q15, q16, v_0065452639, v_3daf2cb668, q3, q4⟩
  · refine J_nf (nh2 := nh) (ck2 := 0) (sk2 := 0) (st2 := [.int (zI 0)]) rfl rfl rfl rfl ?_
    refine Z_if_eq (tgt := 21) dX12_drunk_7 (by decide) v_b17331891f (fun h125 => ?_) (fun h125 => absurd h125 (fun q => q v_2ca2bbca1f))
    refine J_aload_n dX12_drunk_21 rfl rfl ?_
    refine Z_iconst (n := -1) dX12_drunk_22 ?_
    refine J_callV (st := []) dX12_drunk_23 cv_X12_142 (k_refuses (-1) rf7 ms mv mt mfa mtn mtk mlv mbd mgo mge mbk mtt mtl hm pm hb sb mfu mdm mla v_ef59c9c3d8 v_646fb950f3 hk98 hk99) hk98 rfl rfl (Nat.le_of_ble_eq_true rfl) ⟨(Nat.le_of_ble_eq_true rfl), (Nat.le_of_ble_eq_true rfl)⟩ ⟨(Nat.le_of_ble_eq_true rfl), (Nat.le_of_ble_eq_true rfl)⟩ (fun r h9 hp => ?_)
    obtain ⟨f126, rfl, rfl⟩ := hp
    refine J_nf (nh2 := nh) (ck2 := 0) (sk2 := 0) (st2 := [.int (zI (-1))]) rfl rfl rfl rfl ?_
    refine J_app (L3 := [(98, .inr (12, (.int (zI (-1)) :: .int (zI mv) :: .ref 99 :: .ref 100 :: .ref 101 :: .ref 102 :: .ref 103 :: .ref 104 :: .ref 105 :: .int (zI mt) :: .int (zI mfa) :: .ref 106 :: .ref 107 :: .ref 108 :: .int (zI mtn) :: .int (zI mtk) :: .int (zI mlv) :: .int (zI mbd) :: .int (zI mgo) :: .int (zI mge) :: .int (zI mbk) :: .ref 109 :: .int (zI mtt) :: .int (zI mtl) :: .ref 110 :: .ref 111 :: .ref 112 :: .ref 113 :: .ref 114 :: .ref 115 :: .ref 116 :: .ref 117 :: .int (zI hm) :: .int (zI pm) :: .int (zI hb) :: .int (zI sb) :: .ref 118 :: .ref 119 :: .ref 120 :: .ref 121 :: .ref 122 :: .ref 123 :: .ref 124 :: .ref 125 :: .ref 126 :: .ref 127 :: .ref 128 :: .ref 129 :: .int (zI mfu) :: .ref 130 :: .ref 131 :: .ref 132 :: .ref 133 :: .ref 134 :: .int (zI mdm) :: .int (zI mla) :: []))), (99, .inl (0, 7, .inl (zA f126)))]) rfl ?_
    refine J_touch (k := 99) (e := .inl (0, 7, .inl (zA f126))) rfl ?_
    refine J_touch (k := 134) (e := .inl (0, 1260, .inl (zA dt))) hk134 ?_
    refine J_touch (k := 109) (e := .inl (0, 8, .inl (zA aq))) hk109 ?_
    refine J_touch (k := 116) (e := .inl (0, 1260, .inl (zA cm))) hk116 ?_
    refine J_touch (k := 115) (e := .inl (0, 27720, .inl (zA cf))) hk115 ?_
    refine J_touch (k := 114) (e := .inl (0, 1260, .inl (zA sm))) hk114 ?_
    refine J_touch (k := 113) (e := .inl (0, 27720, .inl (zA tk))) hk113 ?_
    refine J_touch (k := 112) (e := .inl (0, 27720, .inl (zA st))) hk112 ?_
    refine J_touch (k := 117) (e := .inl (0, 7, .inl (zA of))) hk117 ?_
    refine J_touch (k := 111) (e := .inl (0, 1260, .inl (zA cd))) hk111 ?_
    refine J_touch (k := 110) (e := .inl (0, 8820, .inl (zA co))) hk110 ?_
    refine J_touch (k := 98) (e := .inr (12, (.int (zI (-1)) :: .int (zI mv) :: .ref 99 :: .ref 100 :: .ref 101 :: .ref 102 :: .ref 103 :: .ref 104 :: .ref 105 :: .int (zI mt) :: .int (zI mfa) :: .ref 106 :: .ref 107 :: .ref 108 :: .int (zI mtn) :: .int (zI mtk) :: .int (zI mlv) :: .int (zI mbd) :: .int (zI mgo) :: .int (zI mge) :: .int (zI mbk) :: .ref 109 :: .int (zI mtt) :: .int (zI mtl) :: .ref 110 :: .ref 111 :: .ref 112 :: .ref 113 :: .ref 114 :: .ref 115 :: .ref 116 :: .ref 117 :: .int (zI hm) :: .int (zI pm) :: .int (zI hb) :: .int (zI sb) :: .ref 118 :: .ref 119 :: .ref 120 :: .ref 121 :: .ref 122 :: .ref 123 :: .ref 124 :: .ref 125 :: .ref 126 :: .ref 127 :: .ref 128 :: .ref 129 :: .int (zI mfu) :: .ref 130 :: .ref 131 :: .ref 132 :: .ref 133 :: .ref 134 :: .int (zI mdm) :: .int (zI mla) :: []))) rfl ?_
    refine J_mask (L2 := [(98, .inr (12, (.int (zI (-1)) :: .int (zI mv) :: .ref 99 :: .ref 100 :: .ref 101 :: .ref 102 :: .ref 103 :: .ref 104 :: .ref 105 :: .int (zI mt) :: .int (zI mfa) :: .ref 106 :: .ref 107 :: .ref 108 :: .int (zI mtn) :: .int (zI mtk) :: .int (zI mlv) :: .int (zI mbd) :: .int (zI mgo) :: .int (zI mge) :: .int (zI mbk) :: .ref 109 :: .int (zI mtt) :: .int (zI mtl) :: .ref 110 :: .ref 111 :: .ref 112 :: .ref 113 :: .ref 114 :: .ref 115 :: .ref 116 :: .ref 117 :: .int (zI hm) :: .int (zI pm) :: .int (zI hb) :: .int (zI sb) :: .ref 118 :: .ref 119 :: .ref 120 :: .ref 121 :: .ref 122 :: .ref 123 :: .ref 124 :: .ref 125 :: .ref 126 :: .ref 127 :: .ref 128 :: .ref 129 :: .int (zI mfu) :: .ref 130 :: .ref 131 :: .ref 132 :: .ref 133 :: .ref 134 :: .int (zI mdm) :: .int (zI mla) :: []))), (110, .inl (0, 8820, .inl (zA co))), (111, .inl (0, 1260, .inl (zA cd))), (117, .inl (0, 7, .inl (zA of))), (112, .inl (0, 27720, .inl (zA st))), (113, .inl (0, 27720, .inl (zA tk))), (114, .inl (0, 1260, .inl (zA sm))), (115, .inl (0, 27720, .inl (zA cf))), (116, .inl (0, 1260, .inl (zA cm))), (109, .inl (0, 8, .inl (zA aq))), (134, .inl (0, 1260, .inl (zA dt))), (99, .inl (0, 7, .inl (zA f126)))]) (ks := [98, 110, 111, 117, 112, 113, 114, 115, 116, 109, 134, 99, 98, 99]) [true, true, true, true, true, true, true, true, true, true, true, true, false, false] rfl (by decide +kernel) rfl ?_
    exact J_iret dX12_drunk_26 rfl rfl (Nat.le_of_ble_eq_true rfl) (Nat.le_of_ble_eq_true rfl) ⟨(-1), hm, pm, hb, co, cd, of, sb, st, tk, sm, cf, cm, aq, mgo, mge, mbk, mtt, mtl, dt, f126, (-1), mv, mla, mdm, rfl, rfl, q6, q7, q9, q10, (q11), q12, q13, q14, q15, q16, v_0065452639, v_3daf2cb668, q3, q4⟩
  · refine J_nf (nh2 := nh) (ck2 := 0) (sk2 := 0) (st2 := [.int (zI 0)]) rfl rfl rfl rfl ?_
    refine Z_if_eq (tgt := 21) dX12_drunk_7 (by decide) v_b17331891f (fun h127 => ?_) (fun h127 => absurd h127 (fun q => q v_2ca2bbca1f))
    refine J_aload_n dX12_drunk_21 rfl rfl ?_
    refine Z_iconst (n := -1) dX12_drunk_22 ?_
    refine J_callV (st := []) dX12_drunk_23 cv_X12_142 (k_refuses (-1) rf7 ms mv mt mfa mtn mtk mlv mbd mgo mge mbk mtt mtl hm pm hb sb mfu mdm mla v_ef59c9c3d8 v_646fb950f3 hk98 hk99) hk98 rfl rfl (Nat.le_of_ble_eq_true rfl) ⟨(Nat.le_of_ble_eq_true rfl), (Nat.le_of_ble_eq_true rfl)⟩ ⟨(Nat.le_of_ble_eq_true rfl), (Nat.le_of_ble_eq_true rfl)⟩ (fun r h9 hp => ?_)
    obtain ⟨f128, rfl, rfl⟩ := hp
    refine J_nf (nh2 := nh) (ck2 := 0) (sk2 := 0) (st2 := [.int (zI (-1))]) rfl rfl rfl rfl ?_
    refine J_app (L3 := [(98, .inr (12, (.int (zI (-1)) :: .int (zI mv) :: .ref 99 :: .ref 100 :: .ref 101 :: .ref 102 :: .ref 103 :: .ref 104 :: .ref 105 :: .int (zI mt) :: .int (zI mfa) :: .ref 106 :: .ref 107 :: .ref 108 :: .int (zI mtn) :: .int (zI mtk) :: .int (zI mlv) :: .int (zI mbd) :: .int (zI mgo) :: .int (zI mge) :: .int (zI mbk) :: .ref 109 :: .int (zI mtt) :: .int (zI mtl) :: .ref 110 :: .ref 111 :: .ref 112 :: .ref 113 :: .ref 114 :: .ref 115 :: .ref 116 :: .ref 117 :: .int (zI hm) :: .int (zI pm) :: .int (zI hb) :: .int (zI sb) :: .ref 118 :: .ref 119 :: .ref 120 :: .ref 121 :: .ref 122 :: .ref 123 :: .ref 124 :: .ref 125 :: .ref 126 :: .ref 127 :: .ref 128 :: .ref 129 :: .int (zI mfu) :: .ref 130 :: .ref 131 :: .ref 132 :: .ref 133 :: .ref 134 :: .int (zI mdm) :: .int (zI mla) :: []))), (99, .inl (0, 7, .inl (zA f128)))]) rfl ?_
    refine J_touch (k := 99) (e := .inl (0, 7, .inl (zA f128))) rfl ?_
    refine J_touch (k := 134) (e := .inl (0, 1260, .inl (zA dt))) hk134 ?_
    refine J_touch (k := 109) (e := .inl (0, 8, .inl (zA aq))) hk109 ?_
    refine J_touch (k := 116) (e := .inl (0, 1260, .inl (zA cm))) hk116 ?_
    refine J_touch (k := 115) (e := .inl (0, 27720, .inl (zA cf))) hk115 ?_
    refine J_touch (k := 114) (e := .inl (0, 1260, .inl (zA sm))) hk114 ?_
    refine J_touch (k := 113) (e := .inl (0, 27720, .inl (zA tk))) hk113 ?_
    refine J_touch (k := 112) (e := .inl (0, 27720, .inl (zA st))) hk112 ?_
    refine J_touch (k := 117) (e := .inl (0, 7, .inl (zA of))) hk117 ?_
    refine J_touch (k := 111) (e := .inl (0, 1260, .inl (zA cd))) hk111 ?_
    refine J_touch (k := 110) (e := .inl (0, 8820, .inl (zA co))) hk110 ?_
    refine J_touch (k := 98) (e := .inr (12, (.int (zI (-1)) :: .int (zI mv) :: .ref 99 :: .ref 100 :: .ref 101 :: .ref 102 :: .ref 103 :: .ref 104 :: .ref 105 :: .int (zI mt) :: .int (zI mfa) :: .ref 106 :: .ref 107 :: .ref 108 :: .int (zI mtn) :: .int (zI mtk) :: .int (zI mlv) :: .int (zI mbd) :: .int (zI mgo) :: .int (zI mge) :: .int (zI mbk) :: .ref 109 :: .int (zI mtt) :: .int (zI mtl) :: .ref 110 :: .ref 111 :: .ref 112 :: .ref 113 :: .ref 114 :: .ref 115 :: .ref 116 :: .ref 117 :: .int (zI hm) :: .int (zI pm) :: .int (zI hb) :: .int (zI sb) :: .ref 118 :: .ref 119 :: .ref 120 :: .ref 121 :: .ref 122 :: .ref 123 :: .ref 124 :: .ref 125 :: .ref 126 :: .ref 127 :: .ref 128 :: .ref 129 :: .int (zI mfu) :: .ref 130 :: .ref 131 :: .ref 132 :: .ref 133 :: .ref 134 :: .int (zI mdm) :: .int (zI mla) :: []))) rfl ?_
    refine J_mask (L2 := [(98, .inr (12, (.int (zI (-1)) :: .int (zI mv) :: .ref 99 :: .ref 100 :: .ref 101 :: .ref 102 :: .ref 103 :: .ref 104 :: .ref 105 :: .int (zI mt) :: .int (zI mfa) :: .ref 106 :: .ref 107 :: .ref 108 :: .int (zI mtn) :: .int (zI mtk) :: .int (zI mlv) :: .int (zI mbd) :: .int (zI mgo) :: .int (zI mge) :: .int (zI mbk) :: .ref 109 :: .int (zI mtt) :: .int (zI mtl) :: .ref 110 :: .ref 111 :: .ref 112 :: .ref 113 :: .ref 114 :: .ref 115 :: .ref 116 :: .ref 117 :: .int (zI hm) :: .int (zI pm) :: .int (zI hb) :: .int (zI sb) :: .ref 118 :: .ref 119 :: .ref 120 :: .ref 121 :: .ref 122 :: .ref 123 :: .ref 124 :: .ref 125 :: .ref 126 :: .ref 127 :: .ref 128 :: .ref 129 :: .int (zI mfu) :: .ref 130 :: .ref 131 :: .ref 132 :: .ref 133 :: .ref 134 :: .int (zI mdm) :: .int (zI mla) :: []))), (110, .inl (0, 8820, .inl (zA co))), (111, .inl (0, 1260, .inl (zA cd))), (117, .inl (0, 7, .inl (zA of))), (112, .inl (0, 27720, .inl (zA st))), (113, .inl (0, 27720, .inl (zA tk))), (114, .inl (0, 1260, .inl (zA sm))), (115, .inl (0, 27720, .inl (zA cf))), (116, .inl (0, 1260, .inl (zA cm))), (109, .inl (0, 8, .inl (zA aq))), (134, .inl (0, 1260, .inl (zA dt))), (99, .inl (0, 7, .inl (zA f128)))]) (ks := [98, 110, 111, 117, 112, 113, 114, 115, 116, 109, 134, 99, 98, 99]) [true, true, true, true, true, true, true, true, true, true, true, true, false, false] rfl (by decide +kernel) rfl ?_
    exact J_iret dX12_drunk_26 rfl rfl (Nat.le_of_ble_eq_true rfl) (Nat.le_of_ble_eq_true rfl) ⟨(-1), hm, pm, hb, co, cd, of, sb, st, tk, sm, cf, cm, aq, mgo, mge, mbk, mtt, mtl, dt, f128, (-1), mv, mla, mdm, rfl, rfl, q6, q7, q9, q10, (q11), q12, q13, q14, q15, q16, v_0065452639, v_3daf2cb668, q3, q4⟩
